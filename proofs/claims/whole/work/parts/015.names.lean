set_option maxRecDepth 20000 in
theorem ggX7_counts_X7_set : GoodIn wsX7_counts wsX7_set := goodIn_r _ [12, 13, 14, 15, 7, 16, 3, 17, 18, 19, 20, 21, 22, 23, 24, 25, 26, 27, 28, 29, 30, 31, 32, 33, 34, 35, 36, 37, 38, 39, 40, 41, 42, 43, 44, 45, 46, 47, 48, 49, 50, 51, 52, 53, 54, 55, 56, 57, 58, 59, 60, 61, 62, 63] (by decide +kernel) (by decide +kernel)
set_option maxRecDepth 20000 in
theorem gX7_counts_X7_set : GoodIn wsX7_counts (wsV RX7 112 RX7 yX7_set wsX7_set) := goodIn_app (goodIn_of _ (by decide +kernel)) ggX7_counts_X7_set
theorem dX7_counts_0 : decode cX7_counts 0 = .ok (.iconst 0, 1) := by decide +kernel
theorem dX7_counts_1 : decode cX7_counts 1 = .ok (.istore_n 2, 1) := by decide +kernel
theorem dX7_counts_2 : decode cX7_counts 2 = .ok (.iload_n 2, 1) := by decide +kernel
theorem dX7_counts_3 : decode cX7_counts 3 = .ok (.bipush 16, 2) := by decide +kernel
theorem dX7_counts_5 : decode cX7_counts 5 = .ok (.if_icmp .ge 16, 3) := by decide +kernel
theorem dX7_counts_8 : decode cX7_counts 8 = .ok (.aload_n 0, 1) := by decide +kernel
theorem dX7_counts_9 : decode cX7_counts 9 = .ok (.getfield 28, 3) := by decide +kernel
theorem dX7_counts_12 : decode cX7_counts 12 = .ok (.iload_n 2, 1) := by decide +kernel
theorem dX7_counts_13 : decode cX7_counts 13 = .ok (.iconst 0, 1) := by decide +kernel
theorem dX7_counts_14 : decode cX7_counts 14 = .ok (.iastore, 1) := by decide +kernel
theorem dX7_counts_15 : decode cX7_counts 15 = .ok (.iinc 2 1, 3) := by decide +kernel
theorem dX7_counts_18 : decode cX7_counts 18 = .ok (.goto (-16), 3) := by decide +kernel
theorem dX7_counts_21 : decode cX7_counts 21 = .ok (.iconst 0, 1) := by decide +kernel
theorem dX7_counts_22 : decode cX7_counts 22 = .ok (.istore_n 2, 1) := by decide +kernel
theorem dX7_counts_23 : decode cX7_counts 23 = .ok (.iload_n 2, 1) := by decide +kernel
theorem dX7_counts_24 : decode cX7_counts 24 = .ok (.iconst 4, 1) := by decide +kernel
theorem dX7_counts_25 : decode cX7_counts 25 = .ok (.if_icmp .ge 21, 3) := by decide +kernel
theorem dX7_counts_28 : decode cX7_counts 28 = .ok (.aload_n 0, 1) := by decide +kernel
theorem dX7_counts_29 : decode cX7_counts 29 = .ok (.getfield 25, 3) := by decide +kernel
theorem dX7_counts_32 : decode cX7_counts 32 = .ok (.iload_n 2, 1) := by decide +kernel
theorem dX7_counts_33 : decode cX7_counts 33 = .ok (.aload_n 0, 1) := by decide +kernel
theorem dX7_counts_34 : decode cX7_counts 34 = .ok (.iload_n 1, 1) := by decide +kernel
theorem dX7_counts_35 : decode cX7_counts 35 = .ok (.iload_n 2, 1) := by decide +kernel
theorem dX7_counts_36 : decode cX7_counts 36 = .ok (.invokevirtual 90, 3) := by decide +kernel
theorem dX7_counts_39 : decode cX7_counts 39 = .ok (.iastore, 1) := by decide +kernel
theorem dX7_counts_40 : decode cX7_counts 40 = .ok (.iinc 2 1, 3) := by decide +kernel
theorem dX7_counts_43 : decode cX7_counts 43 = .ok (.goto (-20), 3) := by decide +kernel
theorem dX7_counts_46 : decode cX7_counts 46 = .ok (.iconst 0, 1) := by decide +kernel
theorem dX7_counts_47 : decode cX7_counts 47 = .ok (.istore_n 2, 1) := by decide +kernel
theorem dX7_counts_48 : decode cX7_counts 48 = .ok (.iload_n 2, 1) := by decide +kernel
theorem dX7_counts_49 : decode cX7_counts 49 = .ok (.aload_n 0, 1) := by decide +kernel
theorem dX7_counts_50 : decode cX7_counts 50 = .ok (.getfield 7, 3) := by decide +kernel
theorem dX7_counts_53 : decode cX7_counts 53 = .ok (.iconst 1, 1) := by decide +kernel
theorem dX7_counts_54 : decode cX7_counts 54 = .ok (.iaload, 1) := by decide +kernel
theorem dX7_counts_55 : decode cX7_counts 55 = .ok (.if_icmp .ge 24, 3) := by decide +kernel
theorem dX7_counts_58 : decode cX7_counts 58 = .ok (.aload_n 0, 1) := by decide +kernel
theorem dX7_counts_59 : decode cX7_counts 59 = .ok (.getfield 28, 3) := by decide +kernel
theorem dX7_counts_62 : decode cX7_counts 62 = .ok (.aload_n 0, 1) := by decide +kernel
theorem dX7_counts_63 : decode cX7_counts 63 = .ok (.iload_n 1, 1) := by decide +kernel
theorem dX7_counts_64 : decode cX7_counts 64 = .ok (.iload_n 2, 1) := by decide +kernel
theorem dX7_counts_65 : decode cX7_counts 65 = .ok (.invokevirtual 112, 3) := by decide +kernel
theorem dX7_counts_68 : decode cX7_counts 68 = .ok (.dup2, 1) := by decide +kernel
theorem dX7_counts_69 : decode cX7_counts 69 = .ok (.iaload, 1) := by decide +kernel
theorem dX7_counts_70 : decode cX7_counts 70 = .ok (.iconst 1, 1) := by decide +kernel
theorem dX7_counts_71 : decode cX7_counts 71 = .ok (.iadd, 1) := by decide +kernel
theorem dX7_counts_72 : decode cX7_counts 72 = .ok (.iastore, 1) := by decide +kernel
theorem dX7_counts_73 : decode cX7_counts 73 = .ok (.iinc 2 1, 3) := by decide +kernel
theorem dX7_counts_76 : decode cX7_counts 76 = .ok (.goto (-28), 3) := by decide +kernel
theorem dX7_counts_79 : decode cX7_counts 79 = .ok (.return_, 1) := by decide +kernel
set_option maxRecDepth 20000 in
theorem ggX7_linesUp_X7_counts_q1 : GoodIn wsX7_linesUp ([Cond.code yX7_counts cX7_counts 3 none]) := goodIn_r _ [9] (by decide +kernel) (by decide +kernel)
set_option maxRecDepth 20000 in
theorem ggX7_linesUp_X7_counts_q2 : GoodIn wsX7_linesUp (wsX7_counts_r1) := goodIn_r _ [3, 4, 2, 10, 11, 12, 8, 13, 14, 15, 16, 17, 18, 19, 20, 21, 22, 23, 24, 25, 26, 27, 28, 29] (by decide +kernel) (by decide +kernel)
set_option maxRecDepth 20000 in
theorem ggX7_linesUp_X7_counts_q3 : GoodIn wsX7_linesUp (wsX7_counts_r2) := goodIn_r _ [30, 31, 32, 33, 34, 35, 36, 37, 38, 39, 40, 41, 42, 43, 44, 45, 46, 47, 48, 49, 50, 51, 52] (by decide +kernel) (by decide +kernel)
set_option maxRecDepth 20000 in
theorem ggX7_linesUp_X7_counts_q4 : GoodIn wsX7_linesUp (wsX70) := goodIn_r _ [65, 66, 67, 68, 69, 70, 71, 72, 73, 74, 75, 76, 77, 78, 79, 80] (by decide +kernel) (by decide +kernel)
theorem ggX7_linesUp_X7_counts : GoodIn wsX7_linesUp wsX7_counts := (goodIn_app (a := [Cond.code yX7_counts cX7_counts 3 none]) ggX7_linesUp_X7_counts_q1 (goodIn_app (goodIn_app ggX7_linesUp_X7_counts_q2 ggX7_linesUp_X7_counts_q3) ggX7_linesUp_X7_counts_q4))
set_option maxRecDepth 20000 in
theorem gX7_linesUp_X7_counts : GoodIn wsX7_linesUp (wsV RX7 115 RX7 yX7_counts wsX7_counts) := goodIn_app (goodIn_of _ (by decide +kernel)) ggX7_linesUp_X7_counts
set_option maxRecDepth 20000 in
theorem ggX7_linesUp_X7_fillable : GoodIn wsX7_linesUp wsX7_fillable := goodIn_r _ [56, 57, 58, 59, 8, 60, 4, 61, 62, 63, 64, 3, 65, 66, 67, 68, 69, 70, 71, 72, 73, 74, 75, 76, 77, 78, 79, 80] (by decide +kernel) (by decide +kernel)
set_option maxRecDepth 20000 in
theorem gX7_linesUp_X7_fillable : GoodIn wsX7_linesUp (wsV RX7 118 RX7 yX7_fillable wsX7_fillable) := goodIn_app (goodIn_of _ (by decide +kernel)) ggX7_linesUp_X7_fillable
set_option maxRecDepth 20000 in
theorem ggX7_linesUp_X7_set : GoodIn wsX7_linesUp wsX7_set := goodIn_r _ [17, 18, 19, 20, 8, 21, 2, 22, 23, 24, 25, 26, 27, 28, 29, 30, 31, 32, 33, 34, 35, 36, 37, 38, 39, 40, 41, 42, 43, 44, 45, 46, 47, 48, 49, 50, 51, 52, 65, 66, 67, 68, 69, 70, 71, 72, 73, 74, 75, 76, 77, 78, 79, 80] (by decide +kernel) (by decide +kernel)
set_option maxRecDepth 20000 in
theorem gX7_linesUp_X7_set : GoodIn wsX7_linesUp (wsV RX7 112 RX7 yX7_set wsX7_set) := goodIn_app (goodIn_of _ (by decide +kernel)) ggX7_linesUp_X7_set
theorem dX7_linesUp_0 : decode cX7_linesUp 0 = .ok (.aload_n 0, 1) := by decide +kernel
theorem dX7_linesUp_1 : decode cX7_linesUp 1 = .ok (.iload_n 1, 1) := by decide +kernel
theorem dX7_linesUp_2 : decode cX7_linesUp 2 = .ok (.invokevirtual 115, 3) := by decide +kernel
theorem dX7_linesUp_5 : decode cX7_linesUp 5 = .ok (.aload_n 0, 1) := by decide +kernel
theorem dX7_linesUp_6 : decode cX7_linesUp 6 = .ok (.invokevirtual 118, 3) := by decide +kernel
theorem dX7_linesUp_9 : decode cX7_linesUp 9 = .ok (.istore_n 2, 1) := by decide +kernel
theorem dX7_linesUp_10 : decode cX7_linesUp 10 = .ok (.iconst 0, 1) := by decide +kernel
theorem dX7_linesUp_11 : decode cX7_linesUp 11 = .ok (.istore_n 3, 1) := by decide +kernel
theorem dX7_linesUp_12 : decode cX7_linesUp 12 = .ok (.iconst 0, 1) := by decide +kernel
theorem dX7_linesUp_13 : decode cX7_linesUp 13 = .ok (.istore 4, 2) := by decide +kernel
theorem dX7_linesUp_15 : decode cX7_linesUp 15 = .ok (.iload 4, 2) := by decide +kernel
theorem dX7_linesUp_17 : decode cX7_linesUp 17 = .ok (.bipush 30, 2) := by decide +kernel
theorem dX7_linesUp_19 : decode cX7_linesUp 19 = .ok (.if_icmp .ge 17, 3) := by decide +kernel
theorem dX7_linesUp_22 : decode cX7_linesUp 22 = .ok (.aload_n 0, 1) := by decide +kernel
theorem dX7_linesUp_23 : decode cX7_linesUp 23 = .ok (.getfield 22, 3) := by decide +kernel
theorem dX7_linesUp_26 : decode cX7_linesUp 26 = .ok (.iload 4, 2) := by decide +kernel
theorem dX7_linesUp_28 : decode cX7_linesUp 28 = .ok (.iconst (-1), 1) := by decide +kernel
theorem dX7_linesUp_29 : decode cX7_linesUp 29 = .ok (.iastore, 1) := by decide +kernel
theorem dX7_linesUp_30 : decode cX7_linesUp 30 = .ok (.iinc 4 1, 3) := by decide +kernel
theorem dX7_linesUp_33 : decode cX7_linesUp 33 = .ok (.goto (-18), 3) := by decide +kernel
theorem dX7_linesUp_36 : decode cX7_linesUp 36 = .ok (.iconst 0, 1) := by decide +kernel
theorem dX7_linesUp_37 : decode cX7_linesUp 37 = .ok (.istore 4, 2) := by decide +kernel
theorem dX7_linesUp_39 : decode cX7_linesUp 39 = .ok (.iload 4, 2) := by decide +kernel
theorem dX7_linesUp_41 : decode cX7_linesUp 41 = .ok (.aload_n 0, 1) := by decide +kernel
theorem dX7_linesUp_42 : decode cX7_linesUp 42 = .ok (.getfield 7, 3) := by decide +kernel
theorem dX7_linesUp_45 : decode cX7_linesUp 45 = .ok (.iconst 1, 1) := by decide +kernel
theorem dX7_linesUp_46 : decode cX7_linesUp 46 = .ok (.iaload, 1) := by decide +kernel
theorem dX7_linesUp_47 : decode cX7_linesUp 47 = .ok (.if_icmp .ge 155, 3) := by decide +kernel
theorem dX7_linesUp_50 : decode cX7_linesUp 50 = .ok (.aload_n 0, 1) := by decide +kernel
theorem dX7_linesUp_51 : decode cX7_linesUp 51 = .ok (.iload_n 1, 1) := by decide +kernel
theorem dX7_linesUp_52 : decode cX7_linesUp 52 = .ok (.iload 4, 2) := by decide +kernel
theorem dX7_linesUp_54 : decode cX7_linesUp 54 = .ok (.invokevirtual 112, 3) := by decide +kernel
theorem dX7_linesUp_57 : decode cX7_linesUp 57 = .ok (.istore 5, 2) := by decide +kernel
theorem dX7_linesUp_59 : decode cX7_linesUp 59 = .ok (.aload_n 0, 1) := by decide +kernel
theorem dX7_linesUp_60 : decode cX7_linesUp 60 = .ok (.getfield 28, 3) := by decide +kernel
theorem dX7_linesUp_63 : decode cX7_linesUp 63 = .ok (.iload 5, 2) := by decide +kernel
theorem dX7_linesUp_65 : decode cX7_linesUp 65 = .ok (.dup2, 1) := by decide +kernel
theorem dX7_linesUp_66 : decode cX7_linesUp 66 = .ok (.iaload, 1) := by decide +kernel
theorem dX7_linesUp_67 : decode cX7_linesUp 67 = .ok (.iconst 1, 1) := by decide +kernel
theorem dX7_linesUp_68 : decode cX7_linesUp 68 = .ok (.isub, 1) := by decide +kernel
theorem dX7_linesUp_69 : decode cX7_linesUp 69 = .ok (.iastore, 1) := by decide +kernel
theorem dX7_linesUp_70 : decode cX7_linesUp 70 = .ok (.iconst 0, 1) := by decide +kernel
theorem dX7_linesUp_71 : decode cX7_linesUp 71 = .ok (.istore 6, 2) := by decide +kernel
theorem dX7_linesUp_73 : decode cX7_linesUp 73 = .ok (.iload 6, 2) := by decide +kernel
theorem dX7_linesUp_75 : decode cX7_linesUp 75 = .ok (.iconst 4, 1) := by decide +kernel
theorem dX7_linesUp_76 : decode cX7_linesUp 76 = .ok (.if_icmp .ge 120, 3) := by decide +kernel
theorem dX7_linesUp_79 : decode cX7_linesUp 79 = .ok (.aload_n 0, 1) := by decide +kernel
theorem dX7_linesUp_80 : decode cX7_linesUp 80 = .ok (.getfield 22, 3) := by decide +kernel
theorem dX7_linesUp_83 : decode cX7_linesUp 83 = .ok (.iload 4, 2) := by decide +kernel
theorem dX7_linesUp_85 : decode cX7_linesUp 85 = .ok (.iaload, 1) := by decide +kernel
theorem dX7_linesUp_86 : decode cX7_linesUp 86 = .ok (.iconst (-1), 1) := by decide +kernel
theorem dX7_linesUp_87 : decode cX7_linesUp 87 = .ok (.if_icmp .ne 109, 3) := by decide +kernel
theorem dX7_linesUp_90 : decode cX7_linesUp 90 = .ok (.iload 5, 2) := by decide +kernel
theorem dX7_linesUp_92 : decode cX7_linesUp 92 = .ok (.iload 6, 2) := by decide +kernel
theorem dX7_linesUp_94 : decode cX7_linesUp 94 = .ok (.ishr, 1) := by decide +kernel
theorem dX7_linesUp_95 : decode cX7_linesUp 95 = .ok (.iconst 1, 1) := by decide +kernel
theorem dX7_linesUp_96 : decode cX7_linesUp 96 = .ok (.iand, 1) := by decide +kernel
theorem dX7_linesUp_97 : decode cX7_linesUp 97 = .ok (.iconst 1, 1) := by decide +kernel
theorem dX7_linesUp_98 : decode cX7_linesUp 98 = .ok (.if_icmp .ne 17, 3) := by decide +kernel
theorem dX7_linesUp_101 : decode cX7_linesUp 101 = .ok (.aload_n 0, 1) := by decide +kernel
theorem dX7_linesUp_102 : decode cX7_linesUp 102 = .ok (.getfield 25, 3) := by decide +kernel
theorem dX7_linesUp_105 : decode cX7_linesUp 105 = .ok (.iload 6, 2) := by decide +kernel
theorem dX7_linesUp_107 : decode cX7_linesUp 107 = .ok (.iaload, 1) := by decide +kernel
theorem dX7_linesUp_108 : decode cX7_linesUp 108 = .ok (.ifCond .le 7, 3) := by decide +kernel
theorem dX7_linesUp_111 : decode cX7_linesUp 111 = .ok (.iconst 1, 1) := by decide +kernel
theorem dX7_linesUp_112 : decode cX7_linesUp 112 = .ok (.goto 4, 3) := by decide +kernel
theorem dX7_linesUp_115 : decode cX7_linesUp 115 = .ok (.iconst 0, 1) := by decide +kernel
theorem dX7_linesUp_116 : decode cX7_linesUp 116 = .ok (.istore 7, 2) := by decide +kernel
theorem dX7_linesUp_118 : decode cX7_linesUp 118 = .ok (.aload_n 0, 1) := by decide +kernel
theorem dX7_linesUp_119 : decode cX7_linesUp 119 = .ok (.getfield 25, 3) := by decide +kernel
theorem dX7_linesUp_122 : decode cX7_linesUp 122 = .ok (.iload 6, 2) := by decide +kernel
theorem dX7_linesUp_124 : decode cX7_linesUp 124 = .ok (.dup2, 1) := by decide +kernel
theorem dX7_linesUp_125 : decode cX7_linesUp 125 = .ok (.iaload, 1) := by decide +kernel
theorem dX7_linesUp_126 : decode cX7_linesUp 126 = .ok (.iload 7, 2) := by decide +kernel
theorem dX7_linesUp_128 : decode cX7_linesUp 128 = .ok (.ifCond .eq 7, 3) := by decide +kernel
theorem dX7_linesUp_131 : decode cX7_linesUp 131 = .ok (.iconst 1, 1) := by decide +kernel
theorem dX7_linesUp_132 : decode cX7_linesUp 132 = .ok (.goto 4, 3) := by decide +kernel
theorem dX7_linesUp_135 : decode cX7_linesUp 135 = .ok (.iconst 0, 1) := by decide +kernel
theorem dX7_linesUp_136 : decode cX7_linesUp 136 = .ok (.isub, 1) := by decide +kernel
theorem dX7_linesUp_137 : decode cX7_linesUp 137 = .ok (.iastore, 1) := by decide +kernel
theorem dX7_linesUp_138 : decode cX7_linesUp 138 = .ok (.iload 7, 2) := by decide +kernel
theorem dX7_linesUp_140 : decode cX7_linesUp 140 = .ok (.ifCond .eq 30, 3) := by decide +kernel
theorem dX7_linesUp_143 : decode cX7_linesUp 143 = .ok (.iload_n 3, 1) := by decide +kernel
theorem dX7_linesUp_144 : decode cX7_linesUp 144 = .ok (.iconst 1, 1) := by decide +kernel
theorem dX7_linesUp_145 : decode cX7_linesUp 145 = .ok (.iadd, 1) := by decide +kernel
theorem dX7_linesUp_146 : decode cX7_linesUp 146 = .ok (.aload_n 0, 1) := by decide +kernel
theorem dX7_linesUp_147 : decode cX7_linesUp 147 = .ok (.invokevirtual 118, 3) := by decide +kernel
theorem dX7_linesUp_150 : decode cX7_linesUp 150 = .ok (.iadd, 1) := by decide +kernel
theorem dX7_linesUp_151 : decode cX7_linesUp 151 = .ok (.iload_n 2, 1) := by decide +kernel
theorem dX7_linesUp_152 : decode cX7_linesUp 152 = .ok (.if_icmp .ne 18, 3) := by decide +kernel
theorem dX7_linesUp_155 : decode cX7_linesUp 155 = .ok (.aload_n 0, 1) := by decide +kernel
theorem dX7_linesUp_156 : decode cX7_linesUp 156 = .ok (.getfield 22, 3) := by decide +kernel
theorem dX7_linesUp_159 : decode cX7_linesUp 159 = .ok (.iload 4, 2) := by decide +kernel
theorem dX7_linesUp_161 : decode cX7_linesUp 161 = .ok (.iload 6, 2) := by decide +kernel
theorem dX7_linesUp_163 : decode cX7_linesUp 163 = .ok (.iastore, 1) := by decide +kernel
theorem dX7_linesUp_164 : decode cX7_linesUp 164 = .ok (.iinc 3 1, 3) := by decide +kernel
theorem dX7_linesUp_167 : decode cX7_linesUp 167 = .ok (.goto 23, 3) := by decide +kernel
theorem dX7_linesUp_170 : decode cX7_linesUp 170 = .ok (.aload_n 0, 1) := by decide +kernel
theorem dX7_linesUp_171 : decode cX7_linesUp 171 = .ok (.getfield 25, 3) := by decide +kernel
theorem dX7_linesUp_174 : decode cX7_linesUp 174 = .ok (.iload 6, 2) := by decide +kernel
theorem dX7_linesUp_176 : decode cX7_linesUp 176 = .ok (.dup2, 1) := by decide +kernel
theorem dX7_linesUp_177 : decode cX7_linesUp 177 = .ok (.iaload, 1) := by decide +kernel
theorem dX7_linesUp_178 : decode cX7_linesUp 178 = .ok (.iload 7, 2) := by decide +kernel
theorem dX7_linesUp_180 : decode cX7_linesUp 180 = .ok (.ifCond .eq 7, 3) := by decide +kernel
theorem dX7_linesUp_183 : decode cX7_linesUp 183 = .ok (.iconst 1, 1) := by decide +kernel
theorem dX7_linesUp_184 : decode cX7_linesUp 184 = .ok (.goto 4, 3) := by decide +kernel
theorem dX7_linesUp_187 : decode cX7_linesUp 187 = .ok (.iconst 0, 1) := by decide +kernel
theorem dX7_linesUp_188 : decode cX7_linesUp 188 = .ok (.iadd, 1) := by decide +kernel
theorem dX7_linesUp_189 : decode cX7_linesUp 189 = .ok (.iastore, 1) := by decide +kernel
theorem dX7_linesUp_190 : decode cX7_linesUp 190 = .ok (.iinc 6 1, 3) := by decide +kernel
theorem dX7_linesUp_193 : decode cX7_linesUp 193 = .ok (.goto (-120), 3) := by decide +kernel
theorem dX7_linesUp_196 : decode cX7_linesUp 196 = .ok (.iinc 4 1, 3) := by decide +kernel
theorem dX7_linesUp_199 : decode cX7_linesUp 199 = .ok (.goto (-160), 3) := by decide +kernel
theorem dX7_linesUp_202 : decode cX7_linesUp 202 = .ok (.iload_n 3, 1) := by decide +kernel
theorem dX7_linesUp_203 : decode cX7_linesUp 203 = .ok (.ireturn, 1) := by decide +kernel
set_option maxRecDepth 20000 in
theorem ggX7_descants_X7_isAhead : GoodIn wsX7_descants wsX7_isAhead := goodIn_r _ [7, 8, 9, 10, 11, 6, 12, 1, 13, 14, 15, 16, 17, 18, 19, 20, 21, 22, 23, 24, 25, 26, 27, 28] (by decide +kernel) (by decide +kernel)
set_option maxRecDepth 20000 in
theorem gX7_descants_X7_isAhead : GoodIn wsX7_descants (wsV RX7 121 RX7 yX7_isAhead wsX7_isAhead) := goodIn_app (goodIn_of _ (by decide +kernel)) ggX7_descants_X7_isAhead
theorem dX7_descants_0 : decode cX7_descants 0 = .ok (.iconst (-1), 1) := by decide +kernel
theorem dX7_descants_1 : decode cX7_descants 1 = .ok (.istore_n 1, 1) := by decide +kernel
theorem dX7_descants_2 : decode cX7_descants 2 = .ok (.iconst 0, 1) := by decide +kernel
theorem dX7_descants_3 : decode cX7_descants 3 = .ok (.istore_n 2, 1) := by decide +kernel
theorem dX7_descants_4 : decode cX7_descants 4 = .ok (.iload_n 2, 1) := by decide +kernel
theorem dX7_descants_5 : decode cX7_descants 5 = .ok (.aload_n 0, 1) := by decide +kernel
theorem dX7_descants_6 : decode cX7_descants 6 = .ok (.getfield 7, 3) := by decide +kernel
theorem dX7_descants_9 : decode cX7_descants 9 = .ok (.iconst 1, 1) := by decide +kernel
theorem dX7_descants_10 : decode cX7_descants 10 = .ok (.iaload, 1) := by decide +kernel
theorem dX7_descants_11 : decode cX7_descants 11 = .ok (.if_icmp .ge 48, 3) := by decide +kernel
theorem dX7_descants_14 : decode cX7_descants 14 = .ok (.aload_n 0, 1) := by decide +kernel
theorem dX7_descants_15 : decode cX7_descants 15 = .ok (.getfield 22, 3) := by decide +kernel
theorem dX7_descants_18 : decode cX7_descants 18 = .ok (.iload_n 2, 1) := by decide +kernel
theorem dX7_descants_19 : decode cX7_descants 19 = .ok (.iaload, 1) := by decide +kernel
theorem dX7_descants_20 : decode cX7_descants 20 = .ok (.ifCond .ne 21, 3) := by decide +kernel
theorem dX7_descants_23 : decode cX7_descants 23 = .ok (.iload_n 1, 1) := by decide +kernel
theorem dX7_descants_24 : decode cX7_descants 24 = .ok (.iconst (-1), 1) := by decide +kernel
theorem dX7_descants_25 : decode cX7_descants 25 = .ok (.if_icmp .eq 12, 3) := by decide +kernel
theorem dX7_descants_28 : decode cX7_descants 28 = .ok (.aload_n 0, 1) := by decide +kernel
theorem dX7_descants_29 : decode cX7_descants 29 = .ok (.iload_n 2, 1) := by decide +kernel
theorem dX7_descants_30 : decode cX7_descants 30 = .ok (.iload_n 1, 1) := by decide +kernel
theorem dX7_descants_31 : decode cX7_descants 31 = .ok (.invokevirtual 121, 3) := by decide +kernel
theorem dX7_descants_34 : decode cX7_descants 34 = .ok (.ifCond .eq 7, 3) := by decide +kernel
theorem dX7_descants_37 : decode cX7_descants 37 = .ok (.iconst 1, 1) := by decide +kernel
theorem dX7_descants_38 : decode cX7_descants 38 = .ok (.goto 4, 3) := by decide +kernel
theorem dX7_descants_41 : decode cX7_descants 41 = .ok (.iconst 0, 1) := by decide +kernel
theorem dX7_descants_42 : decode cX7_descants 42 = .ok (.istore_n 3, 1) := by decide +kernel
theorem dX7_descants_43 : decode cX7_descants 43 = .ok (.iload_n 3, 1) := by decide +kernel
theorem dX7_descants_44 : decode cX7_descants 44 = .ok (.ifCond .eq 7, 3) := by decide +kernel
theorem dX7_descants_47 : decode cX7_descants 47 = .ok (.iload_n 2, 1) := by decide +kernel
theorem dX7_descants_48 : decode cX7_descants 48 = .ok (.goto 4, 3) := by decide +kernel
theorem dX7_descants_51 : decode cX7_descants 51 = .ok (.iload_n 1, 1) := by decide +kernel
theorem dX7_descants_52 : decode cX7_descants 52 = .ok (.istore_n 1, 1) := by decide +kernel
theorem dX7_descants_53 : decode cX7_descants 53 = .ok (.iinc 2 1, 3) := by decide +kernel
theorem dX7_descants_56 : decode cX7_descants 56 = .ok (.goto (-52), 3) := by decide +kernel
theorem dX7_descants_59 : decode cX7_descants 59 = .ok (.iload_n 1, 1) := by decide +kernel
theorem dX7_descants_60 : decode cX7_descants 60 = .ok (.ireturn, 1) := by decide +kernel
set_option maxRecDepth 20000 in
theorem ggX7_isAhead_X7_its : GoodIn wsX7_isAhead wsX7_its := goodIn_r _ [6, 7, 8, 9, 10, 11, 12, 13, 14, 15, 16, 17, 18, 19, 20, 21, 22, 23] (by decide +kernel) (by decide +kernel)
set_option maxRecDepth 20000 in
theorem gX7_isAhead_X7_its : GoodIn wsX7_isAhead (wsV RX7 70 RX7 yX7_its wsX7_its) := goodIn_app (goodIn_of _ (by decide +kernel)) ggX7_isAhead_X7_its
theorem dX7_isAhead_0 : decode cX7_isAhead 0 = .ok (.aload_n 0, 1) := by decide +kernel
theorem dX7_isAhead_1 : decode cX7_isAhead 1 = .ok (.getfield 31, 3) := by decide +kernel
theorem dX7_isAhead_4 : decode cX7_isAhead 4 = .ok (.iload_n 1, 1) := by decide +kernel
theorem dX7_isAhead_5 : decode cX7_isAhead 5 = .ok (.iaload, 1) := by decide +kernel
theorem dX7_isAhead_6 : decode cX7_isAhead 6 = .ok (.aload_n 0, 1) := by decide +kernel
theorem dX7_isAhead_7 : decode cX7_isAhead 7 = .ok (.getfield 31, 3) := by decide +kernel
theorem dX7_isAhead_10 : decode cX7_isAhead 10 = .ok (.iload_n 2, 1) := by decide +kernel
theorem dX7_isAhead_11 : decode cX7_isAhead 11 = .ok (.iaload, 1) := by decide +kernel
theorem dX7_isAhead_12 : decode cX7_isAhead 12 = .ok (.if_icmp .eq 24, 3) := by decide +kernel
theorem dX7_isAhead_15 : decode cX7_isAhead 15 = .ok (.aload_n 0, 1) := by decide +kernel
theorem dX7_isAhead_16 : decode cX7_isAhead 16 = .ok (.getfield 31, 3) := by decide +kernel
theorem dX7_isAhead_19 : decode cX7_isAhead 19 = .ok (.iload_n 1, 1) := by decide +kernel
theorem dX7_isAhead_20 : decode cX7_isAhead 20 = .ok (.iaload, 1) := by decide +kernel
theorem dX7_isAhead_21 : decode cX7_isAhead 21 = .ok (.aload_n 0, 1) := by decide +kernel
theorem dX7_isAhead_22 : decode cX7_isAhead 22 = .ok (.getfield 31, 3) := by decide +kernel
theorem dX7_isAhead_25 : decode cX7_isAhead 25 = .ok (.iload_n 2, 1) := by decide +kernel
theorem dX7_isAhead_26 : decode cX7_isAhead 26 = .ok (.iaload, 1) := by decide +kernel
theorem dX7_isAhead_27 : decode cX7_isAhead 27 = .ok (.if_icmp .ge 7, 3) := by decide +kernel
theorem dX7_isAhead_30 : decode cX7_isAhead 30 = .ok (.iconst 1, 1) := by decide +kernel
theorem dX7_isAhead_31 : decode cX7_isAhead 31 = .ok (.goto 4, 3) := by decide +kernel
theorem dX7_isAhead_34 : decode cX7_isAhead 34 = .ok (.iconst 0, 1) := by decide +kernel
theorem dX7_isAhead_35 : decode cX7_isAhead 35 = .ok (.ireturn, 1) := by decide +kernel
theorem dX7_isAhead_36 : decode cX7_isAhead 36 = .ok (.sipush 360, 3) := by decide +kernel
theorem dX7_isAhead_39 : decode cX7_isAhead 39 = .ok (.aload_n 0, 1) := by decide +kernel
theorem dX7_isAhead_40 : decode cX7_isAhead 40 = .ok (.iload_n 1, 1) := by decide +kernel
theorem dX7_isAhead_41 : decode cX7_isAhead 41 = .ok (.iconst 1, 1) := by decide +kernel
theorem dX7_isAhead_42 : decode cX7_isAhead 42 = .ok (.invokevirtual 70, 3) := by decide +kernel
theorem dX7_isAhead_45 : decode cX7_isAhead 45 = .ok (.imul, 1) := by decide +kernel
theorem dX7_isAhead_46 : decode cX7_isAhead 46 = .ok (.aload_n 0, 1) := by decide +kernel
theorem dX7_isAhead_47 : decode cX7_isAhead 47 = .ok (.iload_n 1, 1) := by decide +kernel
theorem dX7_isAhead_48 : decode cX7_isAhead 48 = .ok (.iconst 2, 1) := by decide +kernel
theorem dX7_isAhead_49 : decode cX7_isAhead 49 = .ok (.invokevirtual 70, 3) := by decide +kernel
theorem dX7_isAhead_52 : decode cX7_isAhead 52 = .ok (.isub, 1) := by decide +kernel
theorem dX7_isAhead_53 : decode cX7_isAhead 53 = .ok (.sipush 360, 3) := by decide +kernel
theorem dX7_isAhead_56 : decode cX7_isAhead 56 = .ok (.aload_n 0, 1) := by decide +kernel
theorem dX7_isAhead_57 : decode cX7_isAhead 57 = .ok (.iload_n 2, 1) := by decide +kernel
theorem dX7_isAhead_58 : decode cX7_isAhead 58 = .ok (.iconst 1, 1) := by decide +kernel
theorem dX7_isAhead_59 : decode cX7_isAhead 59 = .ok (.invokevirtual 70, 3) := by decide +kernel
theorem dX7_isAhead_62 : decode cX7_isAhead 62 = .ok (.imul, 1) := by decide +kernel
theorem dX7_isAhead_63 : decode cX7_isAhead 63 = .ok (.aload_n 0, 1) := by decide +kernel
theorem dX7_isAhead_64 : decode cX7_isAhead 64 = .ok (.iload_n 2, 1) := by decide +kernel
theorem dX7_isAhead_65 : decode cX7_isAhead 65 = .ok (.iconst 2, 1) := by decide +kernel
theorem dX7_isAhead_66 : decode cX7_isAhead 66 = .ok (.invokevirtual 70, 3) := by decide +kernel
theorem dX7_isAhead_69 : decode cX7_isAhead 69 = .ok (.isub, 1) := by decide +kernel
theorem dX7_isAhead_70 : decode cX7_isAhead 70 = .ok (.if_icmp .le 7, 3) := by decide +kernel
theorem dX7_isAhead_73 : decode cX7_isAhead 73 = .ok (.iconst 1, 1) := by decide +kernel
theorem dX7_isAhead_74 : decode cX7_isAhead 74 = .ok (.goto 4, 3) := by decide +kernel
theorem dX7_isAhead_77 : decode cX7_isAhead 77 = .ok (.iconst 0, 1) := by decide +kernel
theorem dX7_isAhead_78 : decode cX7_isAhead 78 = .ok (.ireturn, 1) := by decide +kernel
set_option maxRecDepth 20000 in
theorem ggX7_readsTurns_X7_its : GoodIn wsX7_readsTurns wsX7_its := goodIn_r _ [7, 1, 8, 9, 10, 11, 12, 13, 14, 15, 16, 17, 18, 19, 20, 21, 22, 23] (by decide +kernel) (by decide +kernel)
set_option maxRecDepth 20000 in
theorem gX7_readsTurns_X7_its : GoodIn wsX7_readsTurns (wsV RX7 70 RX7 yX7_its wsX7_its) := goodIn_app (goodIn_of _ (by decide +kernel)) ggX7_readsTurns_X7_its
theorem dX7_readsTurns_0 : decode cX7_readsTurns 0 = .ok (.iconst 0, 1) := by decide +kernel
theorem dX7_readsTurns_1 : decode cX7_readsTurns 1 = .ok (.istore_n 1, 1) := by decide +kernel
theorem dX7_readsTurns_2 : decode cX7_readsTurns 2 = .ok (.iload_n 1, 1) := by decide +kernel
theorem dX7_readsTurns_3 : decode cX7_readsTurns 3 = .ok (.aload_n 0, 1) := by decide +kernel
theorem dX7_readsTurns_4 : decode cX7_readsTurns 4 = .ok (.getfield 7, 3) := by decide +kernel
theorem dX7_readsTurns_7 : decode cX7_readsTurns 7 = .ok (.iconst 1, 1) := by decide +kernel
theorem dX7_readsTurns_8 : decode cX7_readsTurns 8 = .ok (.iaload, 1) := by decide +kernel
theorem dX7_readsTurns_9 : decode cX7_readsTurns 9 = .ok (.if_icmp .ge 22, 3) := by decide +kernel
theorem dX7_readsTurns_12 : decode cX7_readsTurns 12 = .ok (.aload_n 0, 1) := by decide +kernel
theorem dX7_readsTurns_13 : decode cX7_readsTurns 13 = .ok (.getfield 31, 3) := by decide +kernel
theorem dX7_readsTurns_16 : decode cX7_readsTurns 16 = .ok (.iload_n 1, 1) := by decide +kernel
theorem dX7_readsTurns_17 : decode cX7_readsTurns 17 = .ok (.aload_n 0, 1) := by decide +kernel
theorem dX7_readsTurns_18 : decode cX7_readsTurns 18 = .ok (.iload_n 1, 1) := by decide +kernel
theorem dX7_readsTurns_19 : decode cX7_readsTurns 19 = .ok (.bipush 12, 2) := by decide +kernel
theorem dX7_readsTurns_21 : decode cX7_readsTurns 21 = .ok (.invokevirtual 70, 3) := by decide +kernel
theorem dX7_readsTurns_24 : decode cX7_readsTurns 24 = .ok (.iastore, 1) := by decide +kernel
theorem dX7_readsTurns_25 : decode cX7_readsTurns 25 = .ok (.iinc 1 1, 3) := by decide +kernel
theorem dX7_readsTurns_28 : decode cX7_readsTurns 28 = .ok (.goto (-26), 3) := by decide +kernel
theorem dX7_readsTurns_31 : decode cX7_readsTurns 31 = .ok (.return_, 1) := by decide +kernel
set_option maxRecDepth 20000 in
theorem ggX7_nextFeast_X7_dayAt : GoodIn wsX7_nextFeast wsX7_dayAt := goodIn_r _ [6, 1, 7, 8, 9, 10, 11, 12, 13, 14, 15, 16, 17, 18, 19, 20, 21, 22] (by decide +kernel) (by decide +kernel)
set_option maxRecDepth 20000 in
theorem gX7_nextFeast_X7_dayAt : GoodIn wsX7_nextFeast (wsV RX7 86 RX7 yX7_dayAt wsX7_dayAt) := goodIn_app (goodIn_of _ (by decide +kernel)) ggX7_nextFeast_X7_dayAt
theorem dX7_nextFeast_0 : decode cX7_nextFeast 0 = .ok (.iconst (-1), 1) := by decide +kernel
theorem dX7_nextFeast_1 : decode cX7_nextFeast 1 = .ok (.istore_n 2, 1) := by decide +kernel
theorem dX7_nextFeast_2 : decode cX7_nextFeast 2 = .ok (.iconst 0, 1) := by decide +kernel
theorem dX7_nextFeast_3 : decode cX7_nextFeast 3 = .ok (.istore_n 3, 1) := by decide +kernel
theorem dX7_nextFeast_4 : decode cX7_nextFeast 4 = .ok (.iload_n 3, 1) := by decide +kernel
theorem dX7_nextFeast_5 : decode cX7_nextFeast 5 = .ok (.aload_n 0, 1) := by decide +kernel
theorem dX7_nextFeast_6 : decode cX7_nextFeast 6 = .ok (.getfield 7, 3) := by decide +kernel
theorem dX7_nextFeast_9 : decode cX7_nextFeast 9 = .ok (.iconst 3, 1) := by decide +kernel
theorem dX7_nextFeast_10 : decode cX7_nextFeast 10 = .ok (.iaload, 1) := by decide +kernel
theorem dX7_nextFeast_11 : decode cX7_nextFeast 11 = .ok (.if_icmp .ge 54, 3) := by decide +kernel
theorem dX7_nextFeast_14 : decode cX7_nextFeast 14 = .ok (.aload_n 0, 1) := by decide +kernel
theorem dX7_nextFeast_15 : decode cX7_nextFeast 15 = .ok (.iload_n 3, 1) := by decide +kernel
theorem dX7_nextFeast_16 : decode cX7_nextFeast 16 = .ok (.invokevirtual 86, 3) := by decide +kernel
theorem dX7_nextFeast_19 : decode cX7_nextFeast 19 = .ok (.iload_n 1, 1) := by decide +kernel
theorem dX7_nextFeast_20 : decode cX7_nextFeast 20 = .ok (.if_icmp .le 25, 3) := by decide +kernel
theorem dX7_nextFeast_23 : decode cX7_nextFeast 23 = .ok (.iload_n 2, 1) := by decide +kernel
theorem dX7_nextFeast_24 : decode cX7_nextFeast 24 = .ok (.iconst (-1), 1) := by decide +kernel
theorem dX7_nextFeast_25 : decode cX7_nextFeast 25 = .ok (.if_icmp .eq 16, 3) := by decide +kernel
theorem dX7_nextFeast_28 : decode cX7_nextFeast 28 = .ok (.aload_n 0, 1) := by decide +kernel
theorem dX7_nextFeast_29 : decode cX7_nextFeast 29 = .ok (.iload_n 3, 1) := by decide +kernel
theorem dX7_nextFeast_30 : decode cX7_nextFeast 30 = .ok (.invokevirtual 86, 3) := by decide +kernel
theorem dX7_nextFeast_33 : decode cX7_nextFeast 33 = .ok (.aload_n 0, 1) := by decide +kernel
theorem dX7_nextFeast_34 : decode cX7_nextFeast 34 = .ok (.iload_n 2, 1) := by decide +kernel
theorem dX7_nextFeast_35 : decode cX7_nextFeast 35 = .ok (.invokevirtual 86, 3) := by decide +kernel
theorem dX7_nextFeast_38 : decode cX7_nextFeast 38 = .ok (.if_icmp .ge 7, 3) := by decide +kernel
theorem dX7_nextFeast_41 : decode cX7_nextFeast 41 = .ok (.iconst 1, 1) := by decide +kernel
theorem dX7_nextFeast_42 : decode cX7_nextFeast 42 = .ok (.goto 4, 3) := by decide +kernel
theorem dX7_nextFeast_45 : decode cX7_nextFeast 45 = .ok (.iconst 0, 1) := by decide +kernel
theorem dX7_nextFeast_46 : decode cX7_nextFeast 46 = .ok (.istore 4, 2) := by decide +kernel
theorem dX7_nextFeast_48 : decode cX7_nextFeast 48 = .ok (.iload 4, 2) := by decide +kernel
theorem dX7_nextFeast_50 : decode cX7_nextFeast 50 = .ok (.ifCond .eq 7, 3) := by decide +kernel
theorem dX7_nextFeast_53 : decode cX7_nextFeast 53 = .ok (.iload_n 3, 1) := by decide +kernel
theorem dX7_nextFeast_54 : decode cX7_nextFeast 54 = .ok (.goto 4, 3) := by decide +kernel
theorem dX7_nextFeast_57 : decode cX7_nextFeast 57 = .ok (.iload_n 2, 1) := by decide +kernel
theorem dX7_nextFeast_58 : decode cX7_nextFeast 58 = .ok (.istore_n 2, 1) := by decide +kernel
theorem dX7_nextFeast_59 : decode cX7_nextFeast 59 = .ok (.iinc 3 1, 3) := by decide +kernel
theorem dX7_nextFeast_62 : decode cX7_nextFeast 62 = .ok (.goto (-58), 3) := by decide +kernel
theorem dX7_nextFeast_65 : decode cX7_nextFeast 65 = .ok (.iload_n 2, 1) := by decide +kernel
theorem dX7_nextFeast_66 : decode cX7_nextFeast 66 = .ok (.ireturn, 1) := by decide +kernel
set_option maxRecDepth 20000 in
theorem ggX7_descantToCome_X7_readsTurns : GoodIn wsX7_descantToCome wsX7_readsTurns := goodIn_r _ [7, 1, 2, 8, 9, 10, 6, 11, 86, 87, 88, 89, 90, 91, 92, 93, 94, 95, 96, 97, 98, 99, 100, 101] (by decide +kernel) (by decide +kernel)
set_option maxRecDepth 20000 in
theorem gX7_descantToCome_X7_readsTurns : GoodIn wsX7_descantToCome (wsV RX7 124 RX7 yX7_readsTurns wsX7_readsTurns) := goodIn_app (goodIn_of _ (by decide +kernel)) ggX7_descantToCome_X7_readsTurns
set_option maxRecDepth 20000 in
theorem ggX7_descantToCome_X7_dayAt : GoodIn wsX7_descantToCome wsX7_dayAt := goodIn_r _ [15, 1, 86, 87, 88, 89, 90, 91, 92, 93, 94, 95, 96, 97, 98, 99, 100, 101] (by decide +kernel) (by decide +kernel)
set_option maxRecDepth 20000 in
theorem gX7_descantToCome_X7_dayAt : GoodIn wsX7_descantToCome (wsV RX7 86 RX7 yX7_dayAt wsX7_dayAt) := goodIn_app (goodIn_of _ (by decide +kernel)) ggX7_descantToCome_X7_dayAt
set_option maxRecDepth 20000 in
theorem ggX7_descantToCome_X7_nextFeast : GoodIn wsX7_descantToCome wsX7_nextFeast := goodIn_r _ [19, 1, 12, 13, 14, 6, 15, 86, 87, 88, 89, 90, 91, 92, 93, 94, 95, 96, 97, 98, 99, 100, 101] (by decide +kernel) (by decide +kernel)
set_option maxRecDepth 20000 in
theorem gX7_descantToCome_X7_nextFeast : GoodIn wsX7_descantToCome (wsV RX7 127 RX7 yX7_nextFeast wsX7_nextFeast) := goodIn_app (goodIn_of _ (by decide +kernel)) ggX7_descantToCome_X7_nextFeast
set_option maxRecDepth 20000 in
theorem ggX7_descantToCome_X7_linesUp_q1 : GoodIn wsX7_descantToCome ([Cond.code yX7_linesUp cX7_linesUp 8 (some .int)]) := goodIn_r _ [23] (by decide +kernel) (by decide +kernel)
set_option maxRecDepth 20000 in
theorem ggX7_descantToCome_X7_linesUp_q2 : GoodIn wsX7_descantToCome (wsX7_linesUp_r1) := goodIn_r _ [24, 1, 25, 26, 27, 28, 29, 6, 30, 31, 32, 33, 34, 35, 36, 37, 38, 39, 40, 41, 42, 12, 13, 14] (by decide +kernel) (by decide +kernel)
set_option maxRecDepth 20000 in
theorem ggX7_descantToCome_X7_linesUp_q3 : GoodIn wsX7_descantToCome (wsX7_linesUp_r2) := goodIn_r _ [15, 43, 44, 45, 46, 8, 9, 10, 11, 47, 48, 49, 50, 51, 52, 53, 54, 55, 56, 57, 58, 59, 60, 61] (by decide +kernel) (by decide +kernel)
set_option maxRecDepth 20000 in
theorem ggX7_descantToCome_X7_linesUp_q4 : GoodIn wsX7_descantToCome (wsX7_linesUp_r3) := goodIn_r _ [62, 63, 64, 65, 66, 67, 68, 69, 70, 71, 72, 73, 74, 75, 76, 77] (by decide +kernel) (by decide +kernel)
set_option maxRecDepth 20000 in
theorem ggX7_descantToCome_X7_linesUp_q5 : GoodIn wsX7_descantToCome (wsX70) := goodIn_r _ [86, 87, 88, 89, 90, 91, 92, 93, 94, 95, 96, 97, 98, 99, 100, 101] (by decide +kernel) (by decide +kernel)
theorem ggX7_descantToCome_X7_linesUp : GoodIn wsX7_descantToCome wsX7_linesUp := (goodIn_app (a := [Cond.code yX7_linesUp cX7_linesUp 8 (some .int)]) ggX7_descantToCome_X7_linesUp_q1 (goodIn_app (goodIn_app ggX7_descantToCome_X7_linesUp_q2 (goodIn_app ggX7_descantToCome_X7_linesUp_q3 ggX7_descantToCome_X7_linesUp_q4)) ggX7_descantToCome_X7_linesUp_q5))
set_option maxRecDepth 20000 in
theorem gX7_descantToCome_X7_linesUp : GoodIn wsX7_descantToCome (wsV RX7 130 RX7 yX7_linesUp wsX7_linesUp) := goodIn_app (goodIn_of _ (by decide +kernel)) ggX7_descantToCome_X7_linesUp
set_option maxRecDepth 20000 in
theorem ggX7_descantToCome_X7_descants : GoodIn wsX7_descantToCome wsX7_descants := goodIn_r _ [81, 1, 24, 82, 83, 84, 6, 85, 2, 8, 9, 10, 11, 86, 87, 88, 89, 90, 91, 92, 93, 94, 95, 96, 97, 98, 99, 100, 101] (by decide +kernel) (by decide +kernel)
set_option maxRecDepth 20000 in
theorem gX7_descantToCome_X7_descants : GoodIn wsX7_descantToCome (wsV RX7 133 RX7 yX7_descants wsX7_descants) := goodIn_app (goodIn_of _ (by decide +kernel)) ggX7_descantToCome_X7_descants
theorem dX7_descantToCome_0 : decode cX7_descantToCome 0 = .ok (.aload_n 0, 1) := by decide +kernel
theorem dX7_descantToCome_1 : decode cX7_descantToCome 1 = .ok (.invokevirtual 124, 3) := by decide +kernel
theorem dX7_descantToCome_4 : decode cX7_descantToCome 4 = .ok (.aload_n 0, 1) := by decide +kernel
theorem dX7_descantToCome_5 : decode cX7_descantToCome 5 = .ok (.getfield 7, 3) := by decide +kernel
theorem dX7_descantToCome_8 : decode cX7_descantToCome 8 = .ok (.iconst 0, 1) := by decide +kernel
theorem dX7_descantToCome_9 : decode cX7_descantToCome 9 = .ok (.iaload, 1) := by decide +kernel
theorem dX7_descantToCome_10 : decode cX7_descantToCome 10 = .ok (.istore_n 2, 1) := by decide +kernel
theorem dX7_descantToCome_11 : decode cX7_descantToCome 11 = .ok (.iconst (-1), 1) := by decide +kernel
theorem dX7_descantToCome_12 : decode cX7_descantToCome 12 = .ok (.istore_n 3, 1) := by decide +kernel
theorem dX7_descantToCome_13 : decode cX7_descantToCome 13 = .ok (.iload_n 2, 1) := by decide +kernel
theorem dX7_descantToCome_14 : decode cX7_descantToCome 14 = .ok (.aload_n 0, 1) := by decide +kernel
theorem dX7_descantToCome_15 : decode cX7_descantToCome 15 = .ok (.iload_n 1, 1) := by decide +kernel
theorem dX7_descantToCome_16 : decode cX7_descantToCome 16 = .ok (.invokevirtual 86, 3) := by decide +kernel
theorem dX7_descantToCome_19 : decode cX7_descantToCome 19 = .ok (.if_icmp .ge 53, 3) := by decide +kernel
theorem dX7_descantToCome_22 : decode cX7_descantToCome 22 = .ok (.aload_n 0, 1) := by decide +kernel
theorem dX7_descantToCome_23 : decode cX7_descantToCome 23 = .ok (.iload_n 2, 1) := by decide +kernel
theorem dX7_descantToCome_24 : decode cX7_descantToCome 24 = .ok (.invokevirtual 127, 3) := by decide +kernel
theorem dX7_descantToCome_27 : decode cX7_descantToCome 27 = .ok (.istore 4, 2) := by decide +kernel
theorem dX7_descantToCome_29 : decode cX7_descantToCome 29 = .ok (.aload_n 0, 1) := by decide +kernel
theorem dX7_descantToCome_30 : decode cX7_descantToCome 30 = .ok (.iload 4, 2) := by decide +kernel
theorem dX7_descantToCome_32 : decode cX7_descantToCome 32 = .ok (.invokevirtual 86, 3) := by decide +kernel
theorem dX7_descantToCome_35 : decode cX7_descantToCome 35 = .ok (.istore_n 2, 1) := by decide +kernel
theorem dX7_descantToCome_36 : decode cX7_descantToCome 36 = .ok (.aload_n 0, 1) := by decide +kernel
theorem dX7_descantToCome_37 : decode cX7_descantToCome 37 = .ok (.iload 4, 2) := by decide +kernel
theorem dX7_descantToCome_39 : decode cX7_descantToCome 39 = .ok (.invokevirtual 130, 3) := by decide +kernel
theorem dX7_descantToCome_42 : decode cX7_descantToCome 42 = .ok (.ifCond .ge 7, 3) := by decide +kernel
theorem dX7_descantToCome_45 : decode cX7_descantToCome 45 = .ok (.iconst (-1), 1) := by decide +kernel
theorem dX7_descantToCome_46 : decode cX7_descantToCome 46 = .ok (.goto 7, 3) := by decide +kernel
theorem dX7_descantToCome_49 : decode cX7_descantToCome 49 = .ok (.aload_n 0, 1) := by decide +kernel
theorem dX7_descantToCome_50 : decode cX7_descantToCome 50 = .ok (.invokevirtual 133, 3) := by decide +kernel
theorem dX7_descantToCome_53 : decode cX7_descantToCome 53 = .ok (.istore_n 3, 1) := by decide +kernel
theorem dX7_descantToCome_54 : decode cX7_descantToCome 54 = .ok (.iload_n 3, 1) := by decide +kernel
theorem dX7_descantToCome_55 : decode cX7_descantToCome 55 = .ok (.iconst (-1), 1) := by decide +kernel
theorem dX7_descantToCome_56 : decode cX7_descantToCome 56 = .ok (.if_icmp .eq 13, 3) := by decide +kernel
theorem dX7_descantToCome_59 : decode cX7_descantToCome 59 = .ok (.aload_n 0, 1) := by decide +kernel
theorem dX7_descantToCome_60 : decode cX7_descantToCome 60 = .ok (.getfield 31, 3) := by decide +kernel
theorem dX7_descantToCome_63 : decode cX7_descantToCome 63 = .ok (.iload_n 3, 1) := by decide +kernel
theorem dX7_descantToCome_64 : decode cX7_descantToCome 64 = .ok (.dup2, 1) := by decide +kernel
theorem dX7_descantToCome_65 : decode cX7_descantToCome 65 = .ok (.iaload, 1) := by decide +kernel
theorem dX7_descantToCome_66 : decode cX7_descantToCome 66 = .ok (.iconst 1, 1) := by decide +kernel
theorem dX7_descantToCome_67 : decode cX7_descantToCome 67 = .ok (.iadd, 1) := by decide +kernel
theorem dX7_descantToCome_68 : decode cX7_descantToCome 68 = .ok (.iastore, 1) := by decide +kernel
theorem dX7_descantToCome_69 : decode cX7_descantToCome 69 = .ok (.goto (-56), 3) := by decide +kernel
theorem dX7_descantToCome_72 : decode cX7_descantToCome 72 = .ok (.iload_n 3, 1) := by decide +kernel
theorem dX7_descantToCome_73 : decode cX7_descantToCome 73 = .ok (.ireturn, 1) := by decide +kernel
set_option maxRecDepth 20000 in
theorem ggX7_tells_X7_held : GoodIn wsX7_tells wsX7_held := goodIn_r _ [7, 2, 8, 9, 10, 6, 11, 73, 74, 75, 76, 77, 78, 79, 80, 81, 82, 83, 84, 85, 86, 87, 88] (by decide +kernel) (by decide +kernel)
set_option maxRecDepth 20000 in
theorem gX7_tells_X7_held : GoodIn wsX7_tells (wsV RX7 136 RX7 yX7_held wsX7_held) := goodIn_app (goodIn_of _ (by decide +kernel)) ggX7_tells_X7_held
set_option maxRecDepth 20000 in
theorem ggX7_tells_X7_linesUp_q1 : GoodIn wsX7_tells ([Cond.code yX7_linesUp cX7_linesUp 8 (some .int)]) := goodIn_r _ [15] (by decide +kernel) (by decide +kernel)
set_option maxRecDepth 20000 in
theorem ggX7_tells_X7_linesUp_q2 : GoodIn wsX7_tells (wsX7_linesUp_r1) := goodIn_r _ [1, 2, 16, 17, 18, 19, 20, 6, 21, 22, 23, 24, 25, 26, 27, 28, 29, 30, 31, 32, 33, 8, 9, 10] (by decide +kernel) (by decide +kernel)
set_option maxRecDepth 20000 in
theorem ggX7_tells_X7_linesUp_q3 : GoodIn wsX7_tells (wsX7_linesUp_r2) := goodIn_r _ [11, 34, 35, 36, 37, 38, 39, 40, 41, 42, 43, 44, 45, 46, 47, 48, 49, 50, 51, 52, 53, 54, 55, 56] (by decide +kernel) (by decide +kernel)
set_option maxRecDepth 20000 in
theorem ggX7_tells_X7_linesUp_q4 : GoodIn wsX7_tells (wsX7_linesUp_r3) := goodIn_r _ [57, 58, 59, 60, 61, 62, 63, 64, 65, 66, 67, 68, 69, 70, 71, 72] (by decide +kernel) (by decide +kernel)
set_option maxRecDepth 20000 in
theorem ggX7_tells_X7_linesUp_q5 : GoodIn wsX7_tells (wsX70) := goodIn_r _ [73, 74, 75, 76, 77, 78, 79, 80, 81, 82, 83, 84, 85, 86, 87, 88] (by decide +kernel) (by decide +kernel)
theorem ggX7_tells_X7_linesUp : GoodIn wsX7_tells wsX7_linesUp := (goodIn_app (a := [Cond.code yX7_linesUp cX7_linesUp 8 (some .int)]) ggX7_tells_X7_linesUp_q1 (goodIn_app (goodIn_app ggX7_tells_X7_linesUp_q2 (goodIn_app ggX7_tells_X7_linesUp_q3 ggX7_tells_X7_linesUp_q4)) ggX7_tells_X7_linesUp_q5))
set_option maxRecDepth 20000 in
theorem gX7_tells_X7_linesUp : GoodIn wsX7_tells (wsV RX7 130 RX7 yX7_linesUp wsX7_linesUp) := goodIn_app (goodIn_of _ (by decide +kernel)) ggX7_tells_X7_linesUp
theorem dX7_tells_0 : decode cX7_tells 0 = .ok (.iconst 0, 1) := by decide +kernel
theorem dX7_tells_1 : decode cX7_tells 1 = .ok (.istore_n 2, 1) := by decide +kernel
theorem dX7_tells_2 : decode cX7_tells 2 = .ok (.aload_n 0, 1) := by decide +kernel
theorem dX7_tells_3 : decode cX7_tells 3 = .ok (.iload_n 1, 1) := by decide +kernel
theorem dX7_tells_4 : decode cX7_tells 4 = .ok (.invokevirtual 136, 3) := by decide +kernel
theorem dX7_tells_7 : decode cX7_tells 7 = .ok (.ifCond .ne 9, 3) := by decide +kernel
theorem dX7_tells_10 : decode cX7_tells 10 = .ok (.aload_n 0, 1) := by decide +kernel
theorem dX7_tells_11 : decode cX7_tells 11 = .ok (.iload_n 1, 1) := by decide +kernel
theorem dX7_tells_12 : decode cX7_tells 12 = .ok (.invokevirtual 130, 3) := by decide +kernel
theorem dX7_tells_15 : decode cX7_tells 15 = .ok (.ireturn, 1) := by decide +kernel
theorem dX7_tells_16 : decode cX7_tells 16 = .ok (.iconst 0, 1) := by decide +kernel
theorem dX7_tells_17 : decode cX7_tells 17 = .ok (.istore_n 3, 1) := by decide +kernel
theorem dX7_tells_18 : decode cX7_tells 18 = .ok (.iload_n 3, 1) := by decide +kernel
theorem dX7_tells_19 : decode cX7_tells 19 = .ok (.bipush 30, 2) := by decide +kernel
theorem dX7_tells_21 : decode cX7_tells 21 = .ok (.if_icmp .ge 51, 3) := by decide +kernel
theorem dX7_tells_24 : decode cX7_tells 24 = .ok (.aload_n 0, 1) := by decide +kernel
theorem dX7_tells_25 : decode cX7_tells 25 = .ok (.getfield 22, 3) := by decide +kernel
theorem dX7_tells_28 : decode cX7_tells 28 = .ok (.iload_n 3, 1) := by decide +kernel
theorem dX7_tells_29 : decode cX7_tells 29 = .ok (.aload_n 0, 1) := by decide +kernel
theorem dX7_tells_30 : decode cX7_tells 30 = .ok (.getfield 7, 3) := by decide +kernel
theorem dX7_tells_33 : decode cX7_tells 33 = .ok (.sipush 583, 3) := by decide +kernel
theorem dX7_tells_36 : decode cX7_tells 36 = .ok (.bipush 45, 2) := by decide +kernel
theorem dX7_tells_38 : decode cX7_tells 38 = .ok (.iload_n 1, 1) := by decide +kernel
theorem dX7_tells_39 : decode cX7_tells 39 = .ok (.imul, 1) := by decide +kernel
theorem dX7_tells_40 : decode cX7_tells 40 = .ok (.iadd, 1) := by decide +kernel
theorem dX7_tells_41 : decode cX7_tells 41 = .ok (.bipush 15, 2) := by decide +kernel
theorem dX7_tells_43 : decode cX7_tells 43 = .ok (.iadd, 1) := by decide +kernel
theorem dX7_tells_44 : decode cX7_tells 44 = .ok (.iload_n 3, 1) := by decide +kernel
theorem dX7_tells_45 : decode cX7_tells 45 = .ok (.iadd, 1) := by decide +kernel
theorem dX7_tells_46 : decode cX7_tells 46 = .ok (.iaload, 1) := by decide +kernel
theorem dX7_tells_47 : decode cX7_tells 47 = .ok (.iastore, 1) := by decide +kernel
theorem dX7_tells_48 : decode cX7_tells 48 = .ok (.iload_n 2, 1) := by decide +kernel
theorem dX7_tells_49 : decode cX7_tells 49 = .ok (.aload_n 0, 1) := by decide +kernel
theorem dX7_tells_50 : decode cX7_tells 50 = .ok (.getfield 22, 3) := by decide +kernel
theorem dX7_tells_53 : decode cX7_tells 53 = .ok (.iload_n 3, 1) := by decide +kernel
theorem dX7_tells_54 : decode cX7_tells 54 = .ok (.iaload, 1) := by decide +kernel
theorem dX7_tells_55 : decode cX7_tells 55 = .ok (.iconst (-1), 1) := by decide +kernel
theorem dX7_tells_56 : decode cX7_tells 56 = .ok (.if_icmp .ne 7, 3) := by decide +kernel
theorem dX7_tells_59 : decode cX7_tells 59 = .ok (.iconst 0, 1) := by decide +kernel
theorem dX7_tells_60 : decode cX7_tells 60 = .ok (.goto 4, 3) := by decide +kernel
theorem dX7_tells_63 : decode cX7_tells 63 = .ok (.iconst 1, 1) := by decide +kernel
theorem dX7_tells_64 : decode cX7_tells 64 = .ok (.iadd, 1) := by decide +kernel
theorem dX7_tells_65 : decode cX7_tells 65 = .ok (.istore_n 2, 1) := by decide +kernel
theorem dX7_tells_66 : decode cX7_tells 66 = .ok (.iinc 3 1, 3) := by decide +kernel
theorem dX7_tells_69 : decode cX7_tells 69 = .ok (.goto (-51), 3) := by decide +kernel
theorem dX7_tells_72 : decode cX7_tells 72 = .ok (.iload_n 2, 1) := by decide +kernel
theorem dX7_tells_73 : decode cX7_tells 73 = .ok (.ireturn, 1) := by decide +kernel
set_option maxRecDepth 20000 in
theorem ggX7_holds_X7_linesUp_q1 : GoodIn wsX7_holds ([Cond.code yX7_linesUp cX7_linesUp 8 (some .int)]) := goodIn_r _ [7] (by decide +kernel) (by decide +kernel)
set_option maxRecDepth 20000 in
theorem ggX7_holds_X7_linesUp_q2 : GoodIn wsX7_holds (wsX7_linesUp_r1) := goodIn_r _ [2, 1, 8, 9, 10, 11, 12, 6, 13, 14, 15, 16, 17, 18, 19, 20, 21, 22, 23, 24, 25, 26, 27, 28] (by decide +kernel) (by decide +kernel)
set_option maxRecDepth 20000 in
theorem ggX7_holds_X7_linesUp_q3 : GoodIn wsX7_holds (wsX7_linesUp_r2) := goodIn_r _ [29, 30, 31, 32, 33, 34, 35, 36, 37, 38, 39, 40, 41, 42, 43, 44, 45, 46, 47, 48, 49, 50, 51, 52] (by decide +kernel) (by decide +kernel)
set_option maxRecDepth 20000 in
theorem ggX7_holds_X7_linesUp_q4 : GoodIn wsX7_holds (wsX7_linesUp_r3) := goodIn_r _ [53, 54, 55, 56, 57, 58, 59, 60, 61, 62, 63, 64, 65, 66, 67, 68] (by decide +kernel) (by decide +kernel)
set_option maxRecDepth 20000 in
theorem ggX7_holds_X7_linesUp_q5 : GoodIn wsX7_holds (wsX70) := goodIn_r _ [90, 91, 92, 93, 94, 95, 96, 97, 98, 99, 100, 101, 102, 103, 104, 105] (by decide +kernel) (by decide +kernel)
theorem ggX7_holds_X7_linesUp : GoodIn wsX7_holds wsX7_linesUp := (goodIn_app (a := [Cond.code yX7_linesUp cX7_linesUp 8 (some .int)]) ggX7_holds_X7_linesUp_q1 (goodIn_app (goodIn_app ggX7_holds_X7_linesUp_q2 (goodIn_app ggX7_holds_X7_linesUp_q3 ggX7_holds_X7_linesUp_q4)) ggX7_holds_X7_linesUp_q5))
set_option maxRecDepth 20000 in
theorem gX7_holds_X7_linesUp : GoodIn wsX7_holds (wsV RX7 130 RX7 yX7_linesUp wsX7_linesUp) := goodIn_app (goodIn_of _ (by decide +kernel)) ggX7_holds_X7_linesUp
set_option maxRecDepth 20000 in
theorem ggX7_holds_X7_readsTurns : GoodIn wsX7_holds wsX7_readsTurns := goodIn_r _ [72, 1, 73, 34, 35, 36, 6, 37, 90, 91, 92, 93, 94, 95, 96, 97, 98, 99, 100, 101, 102, 103, 104, 105] (by decide +kernel) (by decide +kernel)
set_option maxRecDepth 20000 in
theorem gX7_holds_X7_readsTurns : GoodIn wsX7_holds (wsV RX7 124 RX7 yX7_readsTurns wsX7_readsTurns) := goodIn_app (goodIn_of _ (by decide +kernel)) ggX7_holds_X7_readsTurns
set_option maxRecDepth 20000 in
theorem ggX7_holds_X7_descants : GoodIn wsX7_holds wsX7_descants := goodIn_r _ [77, 1, 2, 78, 79, 80, 6, 81, 73, 34, 35, 36, 37, 90, 91, 92, 93, 94, 95, 96, 97, 98, 99, 100, 101, 102, 103, 104, 105] (by decide +kernel) (by decide +kernel)
set_option maxRecDepth 20000 in
theorem gX7_holds_X7_descants : GoodIn wsX7_holds (wsV RX7 133 RX7 yX7_descants wsX7_descants) := goodIn_app (goodIn_of _ (by decide +kernel)) ggX7_holds_X7_descants
set_option maxRecDepth 20000 in
theorem ggX7_holds_X7_its : GoodIn wsX7_holds wsX7_its := goodIn_r _ [37, 1, 90, 91, 92, 93, 94, 95, 96, 97, 98, 99, 100, 101, 102, 103, 104, 105] (by decide +kernel) (by decide +kernel)
set_option maxRecDepth 20000 in
theorem gX7_holds_X7_its : GoodIn wsX7_holds (wsV RX7 70 RX7 yX7_its wsX7_its) := goodIn_app (goodIn_of _ (by decide +kernel)) ggX7_holds_X7_its
set_option maxRecDepth 20000 in
theorem ggX7_holds_X7_lay : GoodIn wsX7_holds wsX7_lay := goodIn_r _ [85, 1, 90, 91, 92, 93, 94, 95, 96, 97, 98, 99, 100, 101, 102, 103, 104, 105] (by decide +kernel) (by decide +kernel)
set_option maxRecDepth 20000 in
theorem gX7_holds_X7_lay : GoodIn wsX7_holds (wsV RX7 55 RX7 yX7_lay wsX7_lay) := goodIn_app (goodIn_of _ (by decide +kernel)) ggX7_holds_X7_lay
set_option maxRecDepth 20000 in
theorem ggX7_holds_X7_allPlaces : GoodIn wsX7_holds wsX7_allPlaces := goodIn_r _ [89, 14, 15, 16, 6, 17, 1, 90, 91, 92, 93, 94, 95, 96, 97, 98, 99, 100, 101, 102, 103, 104, 105] (by decide +kernel) (by decide +kernel)
set_option maxRecDepth 20000 in
theorem gX7_holds_X7_allPlaces : GoodIn wsX7_holds (wsV RX7 139 RX7 yX7_allPlaces wsX7_allPlaces) := goodIn_app (goodIn_of _ (by decide +kernel)) ggX7_holds_X7_allPlaces
theorem dX7_holds_0 : decode cX7_holds 0 = .ok (.aload_n 0, 1) := by decide +kernel
theorem dX7_holds_1 : decode cX7_holds 1 = .ok (.iload_n 1, 1) := by decide +kernel
theorem dX7_holds_2 : decode cX7_holds 2 = .ok (.invokevirtual 130, 3) := by decide +kernel
theorem dX7_holds_5 : decode cX7_holds 5 = .ok (.istore_n 2, 1) := by decide +kernel
theorem dX7_holds_6 : decode cX7_holds 6 = .ok (.aload_n 0, 1) := by decide +kernel
theorem dX7_holds_7 : decode cX7_holds 7 = .ok (.invokevirtual 124, 3) := by decide +kernel
theorem dX7_holds_10 : decode cX7_holds 10 = .ok (.aload_n 0, 1) := by decide +kernel
theorem dX7_holds_11 : decode cX7_holds 11 = .ok (.invokevirtual 133, 3) := by decide +kernel
theorem dX7_holds_14 : decode cX7_holds 14 = .ok (.istore_n 3, 1) := by decide +kernel
theorem dX7_holds_15 : decode cX7_holds 15 = .ok (.sipush 583, 3) := by decide +kernel
theorem dX7_holds_18 : decode cX7_holds 18 = .ok (.bipush 45, 2) := by decide +kernel
theorem dX7_holds_20 : decode cX7_holds 20 = .ok (.iload_n 1, 1) := by decide +kernel
theorem dX7_holds_21 : decode cX7_holds 21 = .ok (.imul, 1) := by decide +kernel
theorem dX7_holds_22 : decode cX7_holds 22 = .ok (.iadd, 1) := by decide +kernel
theorem dX7_holds_23 : decode cX7_holds 23 = .ok (.istore 4, 2) := by decide +kernel
theorem dX7_holds_25 : decode cX7_holds 25 = .ok (.aload_n 0, 1) := by decide +kernel
theorem dX7_holds_26 : decode cX7_holds 26 = .ok (.getfield 7, 3) := by decide +kernel
theorem dX7_holds_29 : decode cX7_holds 29 = .ok (.iload 4, 2) := by decide +kernel
theorem dX7_holds_31 : decode cX7_holds 31 = .ok (.iconst 1, 1) := by decide +kernel
theorem dX7_holds_32 : decode cX7_holds 32 = .ok (.iadd, 1) := by decide +kernel
theorem dX7_holds_33 : decode cX7_holds 33 = .ok (.iaload, 1) := by decide +kernel
theorem dX7_holds_34 : decode cX7_holds 34 = .ok (.istore 5, 2) := by decide +kernel
theorem dX7_holds_36 : decode cX7_holds 36 = .ok (.aload_n 0, 1) := by decide +kernel
theorem dX7_holds_37 : decode cX7_holds 37 = .ok (.getfield 7, 3) := by decide +kernel
theorem dX7_holds_40 : decode cX7_holds 40 = .ok (.iload 4, 2) := by decide +kernel
theorem dX7_holds_42 : decode cX7_holds 42 = .ok (.bipush 14, 2) := by decide +kernel
theorem dX7_holds_44 : decode cX7_holds 44 = .ok (.iadd, 1) := by decide +kernel
theorem dX7_holds_45 : decode cX7_holds 45 = .ok (.iload_n 3, 1) := by decide +kernel
theorem dX7_holds_46 : decode cX7_holds 46 = .ok (.iastore, 1) := by decide +kernel
theorem dX7_holds_47 : decode cX7_holds 47 = .ok (.iconst 0, 1) := by decide +kernel
theorem dX7_holds_48 : decode cX7_holds 48 = .ok (.istore 6, 2) := by decide +kernel
theorem dX7_holds_50 : decode cX7_holds 50 = .ok (.iload 6, 2) := by decide +kernel
theorem dX7_holds_52 : decode cX7_holds 52 = .ok (.bipush 30, 2) := by decide +kernel
theorem dX7_holds_54 : decode cX7_holds 54 = .ok (.if_icmp .ge 76, 3) := by decide +kernel
theorem dX7_holds_57 : decode cX7_holds 57 = .ok (.aload_n 0, 1) := by decide +kernel
theorem dX7_holds_58 : decode cX7_holds 58 = .ok (.getfield 7, 3) := by decide +kernel
theorem dX7_holds_61 : decode cX7_holds 61 = .ok (.iload 4, 2) := by decide +kernel
theorem dX7_holds_63 : decode cX7_holds 63 = .ok (.bipush 15, 2) := by decide +kernel
theorem dX7_holds_65 : decode cX7_holds 65 = .ok (.iadd, 1) := by decide +kernel
theorem dX7_holds_66 : decode cX7_holds 66 = .ok (.iload 6, 2) := by decide +kernel
theorem dX7_holds_68 : decode cX7_holds 68 = .ok (.iadd, 1) := by decide +kernel
theorem dX7_holds_69 : decode cX7_holds 69 = .ok (.aload_n 0, 1) := by decide +kernel
theorem dX7_holds_70 : decode cX7_holds 70 = .ok (.getfield 22, 3) := by decide +kernel
theorem dX7_holds_73 : decode cX7_holds 73 = .ok (.iload 6, 2) := by decide +kernel
theorem dX7_holds_75 : decode cX7_holds 75 = .ok (.iaload, 1) := by decide +kernel
theorem dX7_holds_76 : decode cX7_holds 76 = .ok (.iastore, 1) := by decide +kernel
theorem dX7_holds_77 : decode cX7_holds 77 = .ok (.aload_n 0, 1) := by decide +kernel
theorem dX7_holds_78 : decode cX7_holds 78 = .ok (.getfield 22, 3) := by decide +kernel
theorem dX7_holds_81 : decode cX7_holds 81 = .ok (.iload 6, 2) := by decide +kernel
theorem dX7_holds_83 : decode cX7_holds 83 = .ok (.iaload, 1) := by decide +kernel
theorem dX7_holds_84 : decode cX7_holds 84 = .ok (.iconst (-1), 1) := by decide +kernel
theorem dX7_holds_85 : decode cX7_holds 85 = .ok (.if_icmp .eq 39, 3) := by decide +kernel
theorem dX7_holds_88 : decode cX7_holds 88 = .ok (.aload_n 0, 1) := by decide +kernel
theorem dX7_holds_89 : decode cX7_holds 89 = .ok (.iload 6, 2) := by decide +kernel
theorem dX7_holds_91 : decode cX7_holds 91 = .ok (.bipush 11, 2) := by decide +kernel
theorem dX7_holds_93 : decode cX7_holds 93 = .ok (.aload_n 0, 1) := by decide +kernel
theorem dX7_holds_94 : decode cX7_holds 94 = .ok (.iload 6, 2) := by decide +kernel
theorem dX7_holds_96 : decode cX7_holds 96 = .ok (.bipush 11, 2) := by decide +kernel
theorem dX7_holds_98 : decode cX7_holds 98 = .ok (.invokevirtual 70, 3) := by decide +kernel
theorem dX7_holds_101 : decode cX7_holds 101 = .ok (.iconst 1, 1) := by decide +kernel
theorem dX7_holds_102 : decode cX7_holds 102 = .ok (.iadd, 1) := by decide +kernel
theorem dX7_holds_103 : decode cX7_holds 103 = .ok (.invokevirtual 55, 3) := by decide +kernel
theorem dX7_holds_106 : decode cX7_holds 106 = .ok (.aload_n 0, 1) := by decide +kernel
theorem dX7_holds_107 : decode cX7_holds 107 = .ok (.getfield 7, 3) := by decide +kernel
theorem dX7_holds_110 : decode cX7_holds 110 = .ok (.bipush 6, 2) := by decide +kernel
theorem dX7_holds_112 : decode cX7_holds 112 = .ok (.dup2, 1) := by decide +kernel
theorem dX7_holds_113 : decode cX7_holds 113 = .ok (.iaload, 1) := by decide +kernel
theorem dX7_holds_114 : decode cX7_holds 114 = .ok (.aload_n 0, 1) := by decide +kernel
theorem dX7_holds_115 : decode cX7_holds 115 = .ok (.iload 6, 2) := by decide +kernel
theorem dX7_holds_117 : decode cX7_holds 117 = .ok (.bipush 9, 2) := by decide +kernel
theorem dX7_holds_119 : decode cX7_holds 119 = .ok (.invokevirtual 70, 3) := by decide +kernel
theorem dX7_holds_122 : decode cX7_holds 122 = .ok (.iadd, 1) := by decide +kernel
theorem dX7_holds_123 : decode cX7_holds 123 = .ok (.iastore, 1) := by decide +kernel
theorem dX7_holds_124 : decode cX7_holds 124 = .ok (.iinc 6 1, 3) := by decide +kernel
theorem dX7_holds_127 : decode cX7_holds 127 = .ok (.goto (-77), 3) := by decide +kernel
theorem dX7_holds_130 : decode cX7_holds 130 = .ok (.iload_n 3, 1) := by decide +kernel
theorem dX7_holds_131 : decode cX7_holds 131 = .ok (.iconst (-1), 1) := by decide +kernel
theorem dX7_holds_132 : decode cX7_holds 132 = .ok (.if_icmp .eq 19, 3) := by decide +kernel
theorem dX7_holds_135 : decode cX7_holds 135 = .ok (.aload_n 0, 1) := by decide +kernel
theorem dX7_holds_136 : decode cX7_holds 136 = .ok (.iload_n 3, 1) := by decide +kernel
theorem dX7_holds_137 : decode cX7_holds 137 = .ok (.bipush 12, 2) := by decide +kernel
theorem dX7_holds_139 : decode cX7_holds 139 = .ok (.aload_n 0, 1) := by decide +kernel
theorem dX7_holds_140 : decode cX7_holds 140 = .ok (.iload_n 3, 1) := by decide +kernel
theorem dX7_holds_141 : decode cX7_holds 141 = .ok (.bipush 12, 2) := by decide +kernel
theorem dX7_holds_143 : decode cX7_holds 143 = .ok (.invokevirtual 70, 3) := by decide +kernel
theorem dX7_holds_146 : decode cX7_holds 146 = .ok (.iconst 1, 1) := by decide +kernel
theorem dX7_holds_147 : decode cX7_holds 147 = .ok (.iadd, 1) := by decide +kernel
theorem dX7_holds_148 : decode cX7_holds 148 = .ok (.invokevirtual 55, 3) := by decide +kernel
theorem dX7_holds_151 : decode cX7_holds 151 = .ok (.aload_n 0, 1) := by decide +kernel
theorem dX7_holds_152 : decode cX7_holds 152 = .ok (.getfield 7, 3) := by decide +kernel
theorem dX7_holds_155 : decode cX7_holds 155 = .ok (.iconst 4, 1) := by decide +kernel
theorem dX7_holds_156 : decode cX7_holds 156 = .ok (.dup2, 1) := by decide +kernel
theorem dX7_holds_157 : decode cX7_holds 157 = .ok (.iaload, 1) := by decide +kernel
theorem dX7_holds_158 : decode cX7_holds 158 = .ok (.iload 5, 2) := by decide +kernel
theorem dX7_holds_160 : decode cX7_holds 160 = .ok (.iload_n 2, 1) := by decide +kernel
theorem dX7_holds_161 : decode cX7_holds 161 = .ok (.imul, 1) := by decide +kernel
theorem dX7_holds_162 : decode cX7_holds 162 = .ok (.iadd, 1) := by decide +kernel
theorem dX7_holds_163 : decode cX7_holds 163 = .ok (.iastore, 1) := by decide +kernel
theorem dX7_holds_164 : decode cX7_holds 164 = .ok (.aload_n 0, 1) := by decide +kernel
theorem dX7_holds_165 : decode cX7_holds 165 = .ok (.getfield 7, 3) := by decide +kernel
theorem dX7_holds_168 : decode cX7_holds 168 = .ok (.bipush 7, 2) := by decide +kernel
theorem dX7_holds_170 : decode cX7_holds 170 = .ok (.dup2, 1) := by decide +kernel
theorem dX7_holds_171 : decode cX7_holds 171 = .ok (.iaload, 1) := by decide +kernel
theorem dX7_holds_172 : decode cX7_holds 172 = .ok (.iload 5, 2) := by decide +kernel
theorem dX7_holds_174 : decode cX7_holds 174 = .ok (.aload_n 0, 1) := by decide +kernel
theorem dX7_holds_175 : decode cX7_holds 175 = .ok (.iload_n 1, 1) := by decide +kernel
theorem dX7_holds_176 : decode cX7_holds 176 = .ok (.invokevirtual 139, 3) := by decide +kernel
theorem dX7_holds_179 : decode cX7_holds 179 = .ok (.iload_n 2, 1) := by decide +kernel
theorem dX7_holds_180 : decode cX7_holds 180 = .ok (.isub, 1) := by decide +kernel
theorem dX7_holds_181 : decode cX7_holds 181 = .ok (.imul, 1) := by decide +kernel
theorem dX7_holds_182 : decode cX7_holds 182 = .ok (.iadd, 1) := by decide +kernel
theorem dX7_holds_183 : decode cX7_holds 183 = .ok (.iastore, 1) := by decide +kernel
theorem dX7_holds_184 : decode cX7_holds 184 = .ok (.return_, 1) := by decide +kernel
set_option maxRecDepth 20000 in
theorem ggX7_canAnnounce_X7_dayAt : GoodIn wsX7_canAnnounce wsX7_dayAt := goodIn_r _ [6, 1, 7, 8, 9, 10, 11, 12, 13, 14, 15, 16, 17, 18, 19, 20, 21, 22] (by decide +kernel) (by decide +kernel)
set_option maxRecDepth 20000 in
theorem gX7_canAnnounce_X7_dayAt : GoodIn wsX7_canAnnounce (wsV RX7 86 RX7 yX7_dayAt wsX7_dayAt) := goodIn_app (goodIn_of _ (by decide +kernel)) ggX7_canAnnounce_X7_dayAt
theorem dX7_canAnnounce_0 : decode cX7_canAnnounce 0 = .ok (.aload_n 0, 1) := by decide +kernel
theorem dX7_canAnnounce_1 : decode cX7_canAnnounce 1 = .ok (.getfield 7, 3) := by decide +kernel
theorem dX7_canAnnounce_4 : decode cX7_canAnnounce 4 = .ok (.iconst 3, 1) := by decide +kernel
theorem dX7_canAnnounce_5 : decode cX7_canAnnounce 5 = .ok (.iaload, 1) := by decide +kernel
theorem dX7_canAnnounce_6 : decode cX7_canAnnounce 6 = .ok (.bipush 20, 2) := by decide +kernel
theorem dX7_canAnnounce_8 : decode cX7_canAnnounce 8 = .ok (.if_icmp .ge 7, 3) := by decide +kernel
theorem dX7_canAnnounce_11 : decode cX7_canAnnounce 11 = .ok (.iconst 1, 1) := by decide +kernel
theorem dX7_canAnnounce_12 : decode cX7_canAnnounce 12 = .ok (.goto 4, 3) := by decide +kernel
theorem dX7_canAnnounce_15 : decode cX7_canAnnounce 15 = .ok (.iconst 0, 1) := by decide +kernel
theorem dX7_canAnnounce_16 : decode cX7_canAnnounce 16 = .ok (.istore_n 2, 1) := by decide +kernel
theorem dX7_canAnnounce_17 : decode cX7_canAnnounce 17 = .ok (.iconst 0, 1) := by decide +kernel
theorem dX7_canAnnounce_18 : decode cX7_canAnnounce 18 = .ok (.istore_n 3, 1) := by decide +kernel
theorem dX7_canAnnounce_19 : decode cX7_canAnnounce 19 = .ok (.iload_n 3, 1) := by decide +kernel
theorem dX7_canAnnounce_20 : decode cX7_canAnnounce 20 = .ok (.aload_n 0, 1) := by decide +kernel
theorem dX7_canAnnounce_21 : decode cX7_canAnnounce 21 = .ok (.getfield 7, 3) := by decide +kernel
theorem dX7_canAnnounce_24 : decode cX7_canAnnounce 24 = .ok (.iconst 3, 1) := by decide +kernel
theorem dX7_canAnnounce_25 : decode cX7_canAnnounce 25 = .ok (.iaload, 1) := by decide +kernel
theorem dX7_canAnnounce_26 : decode cX7_canAnnounce 26 = .ok (.if_icmp .ge 28, 3) := by decide +kernel
theorem dX7_canAnnounce_29 : decode cX7_canAnnounce 29 = .ok (.iload_n 2, 1) := by decide +kernel
theorem dX7_canAnnounce_30 : decode cX7_canAnnounce 30 = .ok (.ifCond .eq 16, 3) := by decide +kernel
theorem dX7_canAnnounce_33 : decode cX7_canAnnounce 33 = .ok (.aload_n 0, 1) := by decide +kernel
theorem dX7_canAnnounce_34 : decode cX7_canAnnounce 34 = .ok (.iload_n 3, 1) := by decide +kernel
theorem dX7_canAnnounce_35 : decode cX7_canAnnounce 35 = .ok (.invokevirtual 86, 3) := by decide +kernel
theorem dX7_canAnnounce_38 : decode cX7_canAnnounce 38 = .ok (.iload_n 1, 1) := by decide +kernel
theorem dX7_canAnnounce_39 : decode cX7_canAnnounce 39 = .ok (.if_icmp .eq 7, 3) := by decide +kernel
theorem dX7_canAnnounce_42 : decode cX7_canAnnounce 42 = .ok (.iconst 1, 1) := by decide +kernel
theorem dX7_canAnnounce_43 : decode cX7_canAnnounce 43 = .ok (.goto 4, 3) := by decide +kernel
theorem dX7_canAnnounce_46 : decode cX7_canAnnounce 46 = .ok (.iconst 0, 1) := by decide +kernel
theorem dX7_canAnnounce_47 : decode cX7_canAnnounce 47 = .ok (.istore_n 2, 1) := by decide +kernel
theorem dX7_canAnnounce_48 : decode cX7_canAnnounce 48 = .ok (.iinc 3 1, 3) := by decide +kernel
theorem dX7_canAnnounce_51 : decode cX7_canAnnounce 51 = .ok (.goto (-32), 3) := by decide +kernel
theorem dX7_canAnnounce_54 : decode cX7_canAnnounce 54 = .ok (.iload_n 2, 1) := by decide +kernel
theorem dX7_canAnnounce_55 : decode cX7_canAnnounce 55 = .ok (.ireturn, 1) := by decide +kernel
theorem dX7_isFuture_0 : decode cX7_isFuture 0 = .ok (.iload_n 1, 1) := by decide +kernel
theorem dX7_isFuture_1 : decode cX7_isFuture 1 = .ok (.aload_n 0, 1) := by decide +kernel
theorem dX7_isFuture_2 : decode cX7_isFuture 2 = .ok (.getfield 7, 3) := by decide +kernel
theorem dX7_isFuture_5 : decode cX7_isFuture 5 = .ok (.iconst 0, 1) := by decide +kernel
theorem dX7_isFuture_6 : decode cX7_isFuture 6 = .ok (.iaload, 1) := by decide +kernel
theorem dX7_isFuture_7 : decode cX7_isFuture 7 = .ok (.if_icmp .le 14, 3) := by decide +kernel
theorem dX7_isFuture_10 : decode cX7_isFuture 10 = .ok (.iload_n 1, 1) := by decide +kernel
theorem dX7_isFuture_11 : decode cX7_isFuture 11 = .ok (.sipush 9999, 3) := by decide +kernel
theorem dX7_isFuture_14 : decode cX7_isFuture 14 = .ok (.if_icmp .gt 7, 3) := by decide +kernel
theorem dX7_isFuture_17 : decode cX7_isFuture 17 = .ok (.iconst 1, 1) := by decide +kernel
theorem dX7_isFuture_18 : decode cX7_isFuture 18 = .ok (.goto 4, 3) := by decide +kernel
theorem dX7_isFuture_21 : decode cX7_isFuture 21 = .ok (.iconst 0, 1) := by decide +kernel
theorem dX7_isFuture_22 : decode cX7_isFuture 22 = .ok (.ireturn, 1) := by decide +kernel
theorem dX7_announces_0 : decode cX7_announces 0 = .ok (.sipush 583, 3) := by decide +kernel
theorem dX7_announces_3 : decode cX7_announces 3 = .ok (.bipush 45, 2) := by decide +kernel
theorem dX7_announces_5 : decode cX7_announces 5 = .ok (.aload_n 0, 1) := by decide +kernel
theorem dX7_announces_6 : decode cX7_announces 6 = .ok (.getfield 7, 3) := by decide +kernel
theorem dX7_announces_9 : decode cX7_announces 9 = .ok (.iconst 3, 1) := by decide +kernel
theorem dX7_announces_10 : decode cX7_announces 10 = .ok (.iaload, 1) := by decide +kernel
theorem dX7_announces_11 : decode cX7_announces 11 = .ok (.imul, 1) := by decide +kernel
theorem dX7_announces_12 : decode cX7_announces 12 = .ok (.iadd, 1) := by decide +kernel
theorem dX7_announces_13 : decode cX7_announces 13 = .ok (.istore_n 3, 1) := by decide +kernel
theorem dX7_announces_14 : decode cX7_announces 14 = .ok (.iconst 0, 1) := by decide +kernel
theorem dX7_announces_15 : decode cX7_announces 15 = .ok (.istore 4, 2) := by decide +kernel
theorem dX7_announces_17 : decode cX7_announces 17 = .ok (.iload 4, 2) := by decide +kernel
theorem dX7_announces_19 : decode cX7_announces 19 = .ok (.bipush 45, 2) := by decide +kernel
theorem dX7_announces_21 : decode cX7_announces 21 = .ok (.if_icmp .ge 30, 3) := by decide +kernel
theorem dX7_announces_24 : decode cX7_announces 24 = .ok (.aload_n 0, 1) := by decide +kernel
theorem dX7_announces_25 : decode cX7_announces 25 = .ok (.getfield 7, 3) := by decide +kernel
theorem dX7_announces_28 : decode cX7_announces 28 = .ok (.iload_n 3, 1) := by decide +kernel
theorem dX7_announces_29 : decode cX7_announces 29 = .ok (.iload 4, 2) := by decide +kernel
theorem dX7_announces_31 : decode cX7_announces 31 = .ok (.iadd, 1) := by decide +kernel
theorem dX7_announces_32 : decode cX7_announces 32 = .ok (.iload 4, 2) := by decide +kernel
theorem dX7_announces_34 : decode cX7_announces 34 = .ok (.bipush 14, 2) := by decide +kernel
theorem dX7_announces_36 : decode cX7_announces 36 = .ok (.if_icmp .ge 7, 3) := by decide +kernel
theorem dX7_announces_39 : decode cX7_announces 39 = .ok (.iconst 0, 1) := by decide +kernel
theorem dX7_announces_40 : decode cX7_announces 40 = .ok (.goto 4, 3) := by decide +kernel
theorem dX7_announces_43 : decode cX7_announces 43 = .ok (.iconst (-1), 1) := by decide +kernel
theorem dX7_announces_44 : decode cX7_announces 44 = .ok (.iastore, 1) := by decide +kernel
theorem dX7_announces_45 : decode cX7_announces 45 = .ok (.iinc 4 1, 3) := by decide +kernel
theorem dX7_announces_48 : decode cX7_announces 48 = .ok (.goto (-31), 3) := by decide +kernel
theorem dX7_announces_51 : decode cX7_announces 51 = .ok (.aload_n 0, 1) := by decide +kernel
theorem dX7_announces_52 : decode cX7_announces 52 = .ok (.getfield 7, 3) := by decide +kernel
theorem dX7_announces_55 : decode cX7_announces 55 = .ok (.iload_n 3, 1) := by decide +kernel
theorem dX7_announces_56 : decode cX7_announces 56 = .ok (.iload_n 1, 1) := by decide +kernel
theorem dX7_announces_57 : decode cX7_announces 57 = .ok (.iastore, 1) := by decide +kernel
theorem dX7_announces_58 : decode cX7_announces 58 = .ok (.aload_n 0, 1) := by decide +kernel
theorem dX7_announces_59 : decode cX7_announces 59 = .ok (.getfield 7, 3) := by decide +kernel
theorem dX7_announces_62 : decode cX7_announces 62 = .ok (.iload_n 3, 1) := by decide +kernel
theorem dX7_announces_63 : decode cX7_announces 63 = .ok (.iconst 1, 1) := by decide +kernel
theorem dX7_announces_64 : decode cX7_announces 64 = .ok (.iadd, 1) := by decide +kernel
theorem dX7_announces_65 : decode cX7_announces 65 = .ok (.iload_n 2, 1) := by decide +kernel
theorem dX7_announces_66 : decode cX7_announces 66 = .ok (.iastore, 1) := by decide +kernel
theorem dX7_announces_67 : decode cX7_announces 67 = .ok (.aload_n 0, 1) := by decide +kernel
theorem dX7_announces_68 : decode cX7_announces 68 = .ok (.getfield 7, 3) := by decide +kernel
theorem dX7_announces_71 : decode cX7_announces 71 = .ok (.iconst 3, 1) := by decide +kernel
theorem dX7_announces_72 : decode cX7_announces 72 = .ok (.dup2, 1) := by decide +kernel
theorem dX7_announces_73 : decode cX7_announces 73 = .ok (.iaload, 1) := by decide +kernel
theorem dX7_announces_74 : decode cX7_announces 74 = .ok (.iconst 1, 1) := by decide +kernel
theorem dX7_announces_75 : decode cX7_announces 75 = .ok (.iadd, 1) := by decide +kernel
theorem dX7_announces_76 : decode cX7_announces 76 = .ok (.iastore, 1) := by decide +kernel
theorem dX7_announces_77 : decode cX7_announces 77 = .ok (.aload_n 0, 1) := by decide +kernel
theorem dX7_announces_78 : decode cX7_announces 78 = .ok (.getfield 7, 3) := by decide +kernel
theorem dX7_announces_81 : decode cX7_announces 81 = .ok (.iconst 3, 1) := by decide +kernel
theorem dX7_announces_82 : decode cX7_announces 82 = .ok (.iaload, 1) := by decide +kernel
theorem dX7_announces_83 : decode cX7_announces 83 = .ok (.iconst 1, 1) := by decide +kernel
theorem dX7_announces_84 : decode cX7_announces 84 = .ok (.isub, 1) := by decide +kernel
theorem dX7_announces_85 : decode cX7_announces 85 = .ok (.ireturn, 1) := by decide +kernel
set_option maxRecDepth 20000 in
theorem ggX7_sets_X7_allPlaces : GoodIn wsX7_sets wsX7_allPlaces := goodIn_r _ [6, 7, 8, 9, 5, 10, 1, 11, 12, 13, 14, 15, 16, 17, 18, 19, 20, 21, 22, 23, 24, 25, 26] (by decide +kernel) (by decide +kernel)
set_option maxRecDepth 20000 in
theorem gX7_sets_X7_allPlaces : GoodIn wsX7_sets (wsV RX7 139 RX7 yX7_allPlaces wsX7_allPlaces) := goodIn_app (goodIn_of _ (by decide +kernel)) ggX7_sets_X7_allPlaces
theorem dX7_sets_0 : decode cX7_sets 0 = .ok (.sipush 583, 3) := by decide +kernel
theorem dX7_sets_3 : decode cX7_sets 3 = .ok (.bipush 45, 2) := by decide +kernel
theorem dX7_sets_5 : decode cX7_sets 5 = .ok (.iload_n 1, 1) := by decide +kernel
theorem dX7_sets_6 : decode cX7_sets 6 = .ok (.imul, 1) := by decide +kernel
theorem dX7_sets_7 : decode cX7_sets 7 = .ok (.iadd, 1) := by decide +kernel
theorem dX7_sets_8 : decode cX7_sets 8 = .ok (.iconst 2, 1) := by decide +kernel
theorem dX7_sets_9 : decode cX7_sets 9 = .ok (.iadd, 1) := by decide +kernel
theorem dX7_sets_10 : decode cX7_sets 10 = .ok (.iconst 3, 1) := by decide +kernel
theorem dX7_sets_11 : decode cX7_sets 11 = .ok (.iload_n 2, 1) := by decide +kernel
theorem dX7_sets_12 : decode cX7_sets 12 = .ok (.imul, 1) := by decide +kernel
theorem dX7_sets_13 : decode cX7_sets 13 = .ok (.iadd, 1) := by decide +kernel
theorem dX7_sets_14 : decode cX7_sets 14 = .ok (.istore 6, 2) := by decide +kernel
theorem dX7_sets_16 : decode cX7_sets 16 = .ok (.aload_n 0, 1) := by decide +kernel
theorem dX7_sets_17 : decode cX7_sets 17 = .ok (.getfield 7, 3) := by decide +kernel
theorem dX7_sets_20 : decode cX7_sets 20 = .ok (.iload 6, 2) := by decide +kernel
theorem dX7_sets_22 : decode cX7_sets 22 = .ok (.iload_n 3, 1) := by decide +kernel
theorem dX7_sets_23 : decode cX7_sets 23 = .ok (.iastore, 1) := by decide +kernel
theorem dX7_sets_24 : decode cX7_sets 24 = .ok (.aload_n 0, 1) := by decide +kernel
theorem dX7_sets_25 : decode cX7_sets 25 = .ok (.getfield 7, 3) := by decide +kernel
theorem dX7_sets_28 : decode cX7_sets 28 = .ok (.iload 6, 2) := by decide +kernel
theorem dX7_sets_30 : decode cX7_sets 30 = .ok (.iconst 1, 1) := by decide +kernel
theorem dX7_sets_31 : decode cX7_sets 31 = .ok (.iadd, 1) := by decide +kernel
theorem dX7_sets_32 : decode cX7_sets 32 = .ok (.iload 4, 2) := by decide +kernel
theorem dX7_sets_34 : decode cX7_sets 34 = .ok (.iastore, 1) := by decide +kernel
theorem dX7_sets_35 : decode cX7_sets 35 = .ok (.aload_n 0, 1) := by decide +kernel
theorem dX7_sets_36 : decode cX7_sets 36 = .ok (.getfield 7, 3) := by decide +kernel
theorem dX7_sets_39 : decode cX7_sets 39 = .ok (.iload 6, 2) := by decide +kernel
theorem dX7_sets_41 : decode cX7_sets 41 = .ok (.iconst 2, 1) := by decide +kernel
theorem dX7_sets_42 : decode cX7_sets 42 = .ok (.iadd, 1) := by decide +kernel
theorem dX7_sets_43 : decode cX7_sets 43 = .ok (.iload 5, 2) := by decide +kernel
theorem dX7_sets_45 : decode cX7_sets 45 = .ok (.iastore, 1) := by decide +kernel
theorem dX7_sets_46 : decode cX7_sets 46 = .ok (.aload_n 0, 1) := by decide +kernel
theorem dX7_sets_47 : decode cX7_sets 47 = .ok (.iload_n 1, 1) := by decide +kernel
theorem dX7_sets_48 : decode cX7_sets 48 = .ok (.invokevirtual 139, 3) := by decide +kernel
theorem dX7_sets_51 : decode cX7_sets 51 = .ok (.ireturn, 1) := by decide +kernel
set_option maxRecDepth 20000 in
theorem ggX7_passes_X7_willHaveLeft : GoodIn wsX7_passes wsX7_willHaveLeft := goodIn_r _ [6, 7, 8, 9, 5, 10, 1, 94, 95, 96, 97, 98, 99, 100, 101, 102, 103, 104, 105, 106, 107, 108, 109] (by decide +kernel) (by decide +kernel)
set_option maxRecDepth 20000 in
theorem gX7_passes_X7_willHaveLeft : GoodIn wsX7_passes (wsV RX7 93 RX7 yX7_willHaveLeft wsX7_willHaveLeft) := goodIn_app (goodIn_of _ (by decide +kernel)) ggX7_passes_X7_willHaveLeft
set_option maxRecDepth 20000 in
theorem ggX7_passes_X7_lay : GoodIn wsX7_passes wsX7_lay := goodIn_r _ [14, 1, 94, 95, 96, 97, 98, 99, 100, 101, 102, 103, 104, 105, 106, 107, 108, 109] (by decide +kernel) (by decide +kernel)
set_option maxRecDepth 20000 in
theorem gX7_passes_X7_lay : GoodIn wsX7_passes (wsV RX7 55 RX7 yX7_lay wsX7_lay) := goodIn_app (goodIn_of _ (by decide +kernel)) ggX7_passes_X7_lay
set_option maxRecDepth 20000 in
theorem ggX7_passes_X7_dayAt : GoodIn wsX7_passes wsX7_dayAt := goodIn_r _ [18, 1, 94, 95, 96, 97, 98, 99, 100, 101, 102, 103, 104, 105, 106, 107, 108, 109] (by decide +kernel) (by decide +kernel)
set_option maxRecDepth 20000 in
theorem gX7_passes_X7_dayAt : GoodIn wsX7_passes (wsV RX7 86 RX7 yX7_dayAt wsX7_dayAt) := goodIn_app (goodIn_of _ (by decide +kernel)) ggX7_passes_X7_dayAt
set_option maxRecDepth 20000 in
theorem ggX7_passes_X7_holds_q1 : GoodIn wsX7_passes ([Cond.code yX7_holds cX7_holds 7 none]) := goodIn_r _ [22] (by decide +kernel) (by decide +kernel)
set_option maxRecDepth 20000 in
theorem ggX7_passes_X7_holds_q2 : GoodIn wsX7_passes (wsX7_holds_r1) := goodIn_r _ [1, 23, 24, 25, 26, 5, 27, 28, 29, 30, 31, 32, 33, 34, 35, 36, 37, 38, 39, 40, 41, 42, 43, 44] (by decide +kernel) (by decide +kernel)
set_option maxRecDepth 20000 in
theorem ggX7_passes_X7_holds_q3 : GoodIn wsX7_passes (wsX7_holds_r2) := goodIn_r _ [45, 15, 16, 17, 18, 2, 3, 4, 6, 7, 8, 9, 10, 46, 47, 48, 49, 50, 51, 52, 53, 54, 55, 56] (by decide +kernel) (by decide +kernel)
set_option maxRecDepth 20000 in
theorem ggX7_passes_X7_holds_q4 : GoodIn wsX7_passes (wsX7_holds_r3) := goodIn_r _ [57, 58, 59, 60, 61, 62, 63, 64, 65, 66, 67, 68, 69, 70, 71, 72, 73, 74, 75, 76, 77, 78, 79, 80] (by decide +kernel) (by decide +kernel)
set_option maxRecDepth 20000 in
theorem ggX7_passes_X7_holds_q5 : GoodIn wsX7_passes (wsX7_holds_r4) := goodIn_r _ [81, 82, 83, 84, 85, 86, 87, 88, 89, 11, 12, 13, 14, 90, 91, 92, 93] (by decide +kernel) (by decide +kernel)
set_option maxRecDepth 20000 in
theorem ggX7_passes_X7_holds_q6 : GoodIn wsX7_passes (wsX70) := goodIn_r _ [94, 95, 96, 97, 98, 99, 100, 101, 102, 103, 104, 105, 106, 107, 108, 109] (by decide +kernel) (by decide +kernel)
theorem ggX7_passes_X7_holds : GoodIn wsX7_passes wsX7_holds := (goodIn_app (a := [Cond.code yX7_holds cX7_holds 7 none]) ggX7_passes_X7_holds_q1 (goodIn_app (goodIn_app ggX7_passes_X7_holds_q2 (goodIn_app ggX7_passes_X7_holds_q3 (goodIn_app ggX7_passes_X7_holds_q4 ggX7_passes_X7_holds_q5))) ggX7_passes_X7_holds_q6))
set_option maxRecDepth 20000 in
theorem gX7_passes_X7_holds : GoodIn wsX7_passes (wsV RX7 142 RX7 yX7_holds wsX7_holds) := goodIn_app (goodIn_of _ (by decide +kernel)) ggX7_passes_X7_holds
theorem dX7_passes_0 : decode cX7_passes 0 = .ok (.aload_n 0, 1) := by decide +kernel
theorem dX7_passes_1 : decode cX7_passes 1 = .ok (.getfield 7, 3) := by decide +kernel
theorem dX7_passes_4 : decode cX7_passes 4 = .ok (.iconst 0, 1) := by decide +kernel
theorem dX7_passes_5 : decode cX7_passes 5 = .ok (.dup2, 1) := by decide +kernel
theorem dX7_passes_6 : decode cX7_passes 6 = .ok (.iaload, 1) := by decide +kernel
theorem dX7_passes_7 : decode cX7_passes 7 = .ok (.iconst 1, 1) := by decide +kernel
theorem dX7_passes_8 : decode cX7_passes 8 = .ok (.iadd, 1) := by decide +kernel
theorem dX7_passes_9 : decode cX7_passes 9 = .ok (.iastore, 1) := by decide +kernel
theorem dX7_passes_10 : decode cX7_passes 10 = .ok (.iconst 0, 1) := by decide +kernel
theorem dX7_passes_11 : decode cX7_passes 11 = .ok (.istore_n 1, 1) := by decide +kernel
theorem dX7_passes_12 : decode cX7_passes 12 = .ok (.iconst 0, 1) := by decide +kernel
theorem dX7_passes_13 : decode cX7_passes 13 = .ok (.istore_n 2, 1) := by decide +kernel
theorem dX7_passes_14 : decode cX7_passes 14 = .ok (.iload_n 2, 1) := by decide +kernel
theorem dX7_passes_15 : decode cX7_passes 15 = .ok (.aload_n 0, 1) := by decide +kernel
theorem dX7_passes_16 : decode cX7_passes 16 = .ok (.getfield 7, 3) := by decide +kernel
theorem dX7_passes_19 : decode cX7_passes 19 = .ok (.iconst 1, 1) := by decide +kernel
theorem dX7_passes_20 : decode cX7_passes 20 = .ok (.iaload, 1) := by decide +kernel
theorem dX7_passes_21 : decode cX7_passes 21 = .ok (.if_icmp .ge 31, 3) := by decide +kernel
theorem dX7_passes_24 : decode cX7_passes 24 = .ok (.aload_n 0, 1) := by decide +kernel
theorem dX7_passes_25 : decode cX7_passes 25 = .ok (.iload_n 2, 1) := by decide +kernel
theorem dX7_passes_26 : decode cX7_passes 26 = .ok (.aload_n 0, 1) := by decide +kernel
theorem dX7_passes_27 : decode cX7_passes 27 = .ok (.getfield 7, 3) := by decide +kernel
theorem dX7_passes_30 : decode cX7_passes 30 = .ok (.iconst 0, 1) := by decide +kernel
theorem dX7_passes_31 : decode cX7_passes 31 = .ok (.iaload, 1) := by decide +kernel
theorem dX7_passes_32 : decode cX7_passes 32 = .ok (.invokevirtual 93, 3) := by decide +kernel
theorem dX7_passes_35 : decode cX7_passes 35 = .ok (.ifCond .eq 11, 3) := by decide +kernel
theorem dX7_passes_38 : decode cX7_passes 38 = .ok (.aload_n 0, 1) := by decide +kernel
theorem dX7_passes_39 : decode cX7_passes 39 = .ok (.iload_n 2, 1) := by decide +kernel
theorem dX7_passes_40 : decode cX7_passes 40 = .ok (.bipush 7, 2) := by decide +kernel
theorem dX7_passes_42 : decode cX7_passes 42 = .ok (.iconst 1, 1) := by decide +kernel
theorem dX7_passes_43 : decode cX7_passes 43 = .ok (.invokevirtual 55, 3) := by decide +kernel
theorem dX7_passes_46 : decode cX7_passes 46 = .ok (.iinc 2 1, 3) := by decide +kernel
theorem dX7_passes_49 : decode cX7_passes 49 = .ok (.goto (-35), 3) := by decide +kernel
theorem dX7_passes_52 : decode cX7_passes 52 = .ok (.iconst 0, 1) := by decide +kernel
theorem dX7_passes_53 : decode cX7_passes 53 = .ok (.istore_n 2, 1) := by decide +kernel
theorem dX7_passes_54 : decode cX7_passes 54 = .ok (.iload_n 2, 1) := by decide +kernel
theorem dX7_passes_55 : decode cX7_passes 55 = .ok (.aload_n 0, 1) := by decide +kernel
theorem dX7_passes_56 : decode cX7_passes 56 = .ok (.getfield 7, 3) := by decide +kernel
theorem dX7_passes_59 : decode cX7_passes 59 = .ok (.iconst 3, 1) := by decide +kernel
theorem dX7_passes_60 : decode cX7_passes 60 = .ok (.iaload, 1) := by decide +kernel
theorem dX7_passes_61 : decode cX7_passes 61 = .ok (.if_icmp .ge 31, 3) := by decide +kernel
theorem dX7_passes_64 : decode cX7_passes 64 = .ok (.aload_n 0, 1) := by decide +kernel
theorem dX7_passes_65 : decode cX7_passes 65 = .ok (.iload_n 2, 1) := by decide +kernel
theorem dX7_passes_66 : decode cX7_passes 66 = .ok (.invokevirtual 86, 3) := by decide +kernel
theorem dX7_passes_69 : decode cX7_passes 69 = .ok (.aload_n 0, 1) := by decide +kernel
theorem dX7_passes_70 : decode cX7_passes 70 = .ok (.getfield 7, 3) := by decide +kernel
theorem dX7_passes_73 : decode cX7_passes 73 = .ok (.iconst 0, 1) := by decide +kernel
theorem dX7_passes_74 : decode cX7_passes 74 = .ok (.iaload, 1) := by decide +kernel
theorem dX7_passes_75 : decode cX7_passes 75 = .ok (.if_icmp .ne 11, 3) := by decide +kernel
theorem dX7_passes_78 : decode cX7_passes 78 = .ok (.aload_n 0, 1) := by decide +kernel
theorem dX7_passes_79 : decode cX7_passes 79 = .ok (.iload_n 2, 1) := by decide +kernel
theorem dX7_passes_80 : decode cX7_passes 80 = .ok (.invokevirtual 142, 3) := by decide +kernel
theorem dX7_passes_83 : decode cX7_passes 83 = .ok (.iinc 1 1, 3) := by decide +kernel
theorem dX7_passes_86 : decode cX7_passes 86 = .ok (.iinc 2 1, 3) := by decide +kernel
theorem dX7_passes_89 : decode cX7_passes 89 = .ok (.goto (-35), 3) := by decide +kernel
theorem dX7_passes_92 : decode cX7_passes 92 = .ok (.iload_n 1, 1) := by decide +kernel
theorem dX7_passes_93 : decode cX7_passes 93 = .ok (.ireturn, 1) := by decide +kernel
set_option maxRecDepth 20000 in
theorem ggX7_passesMany_X7_passes_q1 : GoodIn wsX7_passesMany ([Cond.code yX7_passes cX7_passes 3 (some .int)]) := goodIn_r _ [5] (by decide +kernel) (by decide +kernel)
set_option maxRecDepth 20000 in
theorem ggX7_passesMany_X7_passes_q2 : GoodIn wsX7_passesMany (wsX7_passes_r1) := goodIn_r _ [6, 7, 8, 9, 4, 10, 11, 12, 13, 14, 15, 16, 17, 18, 19, 20, 21, 22, 23, 24, 25, 26, 27, 28] (by decide +kernel) (by decide +kernel)
set_option maxRecDepth 20000 in
theorem ggX7_passesMany_X7_passes_q3 : GoodIn wsX7_passesMany (wsX7_passes_r2) := goodIn_r _ [29, 30, 31, 32, 33, 34, 35, 36, 37, 38, 39, 40, 41, 42, 43, 44, 45, 46, 47, 48, 49, 50, 51, 52] (by decide +kernel) (by decide +kernel)
set_option maxRecDepth 20000 in
theorem ggX7_passesMany_X7_passes_q4 : GoodIn wsX7_passesMany (wsX7_passes_r3) := goodIn_r _ [53, 54, 55, 56, 57, 58, 59, 60, 61, 62, 63, 64, 65, 66, 67, 68, 69, 70, 71, 72, 73, 74, 75, 76] (by decide +kernel) (by decide +kernel)
set_option maxRecDepth 20000 in
theorem ggX7_passesMany_X7_passes_q5 : GoodIn wsX7_passesMany (wsX7_passes_r4) := goodIn_r _ [77, 78, 79, 80, 81, 82, 83, 84, 85, 86, 87, 88, 89, 90, 91, 92, 93, 94, 95, 96, 97] (by decide +kernel) (by decide +kernel)
set_option maxRecDepth 20000 in
theorem ggX7_passesMany_X7_passes_q6 : GoodIn wsX7_passesMany (wsX70) := goodIn_r _ [98, 99, 100, 101, 102, 103, 104, 105, 106, 107, 108, 109, 110, 111, 112, 113] (by decide +kernel) (by decide +kernel)
theorem ggX7_passesMany_X7_passes : GoodIn wsX7_passesMany wsX7_passes := (goodIn_app (a := [Cond.code yX7_passes cX7_passes 3 (some .int)]) ggX7_passesMany_X7_passes_q1 (goodIn_app (goodIn_app ggX7_passesMany_X7_passes_q2 (goodIn_app ggX7_passesMany_X7_passes_q3 (goodIn_app ggX7_passesMany_X7_passes_q4 ggX7_passesMany_X7_passes_q5))) ggX7_passesMany_X7_passes_q6))
set_option maxRecDepth 20000 in
theorem gX7_passesMany_X7_passes : GoodIn wsX7_passesMany (wsV RX7 145 RX7 yX7_passes wsX7_passes) := goodIn_app (goodIn_of _ (by decide +kernel)) ggX7_passesMany_X7_passes
theorem dX7_passesMany_0 : decode cX7_passesMany 0 = .ok (.iconst 0, 1) := by decide +kernel
theorem dX7_passesMany_1 : decode cX7_passesMany 1 = .ok (.istore_n 2, 1) := by decide +kernel
theorem dX7_passesMany_2 : decode cX7_passesMany 2 = .ok (.iconst 0, 1) := by decide +kernel
theorem dX7_passesMany_3 : decode cX7_passesMany 3 = .ok (.istore_n 3, 1) := by decide +kernel
theorem dX7_passesMany_4 : decode cX7_passesMany 4 = .ok (.iload_n 3, 1) := by decide +kernel
theorem dX7_passesMany_5 : decode cX7_passesMany 5 = .ok (.iload_n 1, 1) := by decide +kernel
theorem dX7_passesMany_6 : decode cX7_passesMany 6 = .ok (.if_icmp .ge 16, 3) := by decide +kernel
theorem dX7_passesMany_9 : decode cX7_passesMany 9 = .ok (.iload_n 2, 1) := by decide +kernel
theorem dX7_passesMany_10 : decode cX7_passesMany 10 = .ok (.aload_n 0, 1) := by decide +kernel
theorem dX7_passesMany_11 : decode cX7_passesMany 11 = .ok (.invokevirtual 145, 3) := by decide +kernel
theorem dX7_passesMany_14 : decode cX7_passesMany 14 = .ok (.iadd, 1) := by decide +kernel
theorem dX7_passesMany_15 : decode cX7_passesMany 15 = .ok (.istore_n 2, 1) := by decide +kernel
theorem dX7_passesMany_16 : decode cX7_passesMany 16 = .ok (.iinc 3 1, 3) := by decide +kernel
theorem dX7_passesMany_19 : decode cX7_passesMany 19 = .ok (.goto (-15), 3) := by decide +kernel
theorem dX7_passesMany_22 : decode cX7_passesMany 22 = .ok (.iload_n 2, 1) := by decide +kernel
theorem dX7_passesMany_23 : decode cX7_passesMany 23 = .ok (.ireturn, 1) := by decide +kernel
set_option maxRecDepth 20000 in
theorem ggX7_register_X7_isOwn : GoodIn wsX7_register wsX7_isOwn := goodIn_r _ [6, 7, 8, 5, 9, 10, 11, 12, 13, 14, 15] (by decide +kernel) (by decide +kernel)
set_option maxRecDepth 20000 in
theorem gX7_register_X7_isOwn : GoodIn wsX7_register (va_wsS RX7 148 yX7_isOwn wsX7_isOwn) := goodIn_app (goodIn_of _ (by decide +kernel)) ggX7_register_X7_isOwn
set_option maxRecDepth 20000 in
theorem ggX7_register_X7_areNotes : GoodIn wsX7_register wsX7_areNotes := goodIn_r _ [18, 7, 8, 5, 9] (by decide +kernel) (by decide +kernel)
set_option maxRecDepth 20000 in
theorem gX7_register_X7_areNotes : GoodIn wsX7_register (va_wsS RX7 151 yX7_areNotes wsX7_areNotes) := goodIn_app (goodIn_of _ (by decide +kernel)) ggX7_register_X7_areNotes
set_option maxRecDepth 20000 in
theorem ggX7_register_X7_refuses : GoodIn wsX7_register wsX7_refuses := goodIn_r _ [22, 1, 44, 45, 46, 47, 48, 49, 50, 51, 52, 53, 54, 55, 56, 57, 58, 59] (by decide +kernel) (by decide +kernel)
set_option maxRecDepth 20000 in
theorem gX7_register_X7_refuses : GoodIn wsX7_register (wsV RX7 154 RX7 yX7_refuses wsX7_refuses) := goodIn_app (goodIn_of _ (by decide +kernel)) ggX7_register_X7_refuses
set_option maxRecDepth 20000 in
theorem ggX7_register_X7_saves : GoodIn wsX7_register wsX7_saves := goodIn_r _ [26, 27, 28, 29, 30, 5, 31, 44, 45, 46, 47, 48, 49, 50, 51, 52, 53, 54, 55, 56, 57, 58, 59] (by decide +kernel) (by decide +kernel)
set_option maxRecDepth 20000 in
theorem gX7_register_X7_saves : GoodIn wsX7_register (wsV RX7 157 RX7 yX7_saves wsX7_saves) := goodIn_app (goodIn_of _ (by decide +kernel)) ggX7_register_X7_saves
set_option maxRecDepth 20000 in
theorem ggX7_register_X7_registers : GoodIn wsX7_register wsX7_registers := goodIn_r _ [35, 2, 36, 37, 38, 5, 39, 40, 41, 42, 43, 44, 45, 46, 47, 48, 49, 50, 51, 52, 53, 54, 55, 56, 57, 58, 59] (by decide +kernel) (by decide +kernel)
set_option maxRecDepth 20000 in
theorem gX7_register_X7_registers : GoodIn wsX7_register (wsV RX7 161 RX7 yX7_registers wsX7_registers) := goodIn_app (goodIn_of _ (by decide +kernel)) ggX7_register_X7_registers
theorem dX7_register_0 : decode cX7_register 0 = .ok (.aload_n 0, 1) := by decide +kernel
theorem dX7_register_1 : decode cX7_register 1 = .ok (.iconst 0, 1) := by decide +kernel
theorem dX7_register_2 : decode cX7_register 2 = .ok (.putfield 40, 3) := by decide +kernel
theorem dX7_register_5 : decode cX7_register 5 = .ok (.iload_n 1, 1) := by decide +kernel
theorem dX7_register_6 : decode cX7_register 6 = .ok (.iload_n 2, 1) := by decide +kernel
theorem dX7_register_7 : decode cX7_register 7 = .ok (.iload 5, 2) := by decide +kernel
theorem dX7_register_9 : decode cX7_register 9 = .ok (.invokestatic 148, 3) := by decide +kernel
theorem dX7_register_12 : decode cX7_register 12 = .ok (.ifCond .eq 12, 3) := by decide +kernel
theorem dX7_register_15 : decode cX7_register 15 = .ok (.iload_n 3, 1) := by decide +kernel
theorem dX7_register_16 : decode cX7_register 16 = .ok (.iload 4, 2) := by decide +kernel
theorem dX7_register_18 : decode cX7_register 18 = .ok (.invokestatic 151, 3) := by decide +kernel
theorem dX7_register_21 : decode cX7_register 21 = .ok (.ifCond .ne 9, 3) := by decide +kernel
theorem dX7_register_24 : decode cX7_register 24 = .ok (.aload_n 0, 1) := by decide +kernel
theorem dX7_register_25 : decode cX7_register 25 = .ok (.iconst 1, 1) := by decide +kernel
theorem dX7_register_26 : decode cX7_register 26 = .ok (.invokevirtual 154, 3) := by decide +kernel
theorem dX7_register_29 : decode cX7_register 29 = .ok (.ireturn, 1) := by decide +kernel
theorem dX7_register_30 : decode cX7_register 30 = .ok (.aload_n 0, 1) := by decide +kernel
theorem dX7_register_31 : decode cX7_register 31 = .ok (.getfield 7, 3) := by decide +kernel
theorem dX7_register_34 : decode cX7_register 34 = .ok (.iconst 1, 1) := by decide +kernel
theorem dX7_register_35 : decode cX7_register 35 = .ok (.iaload, 1) := by decide +kernel
theorem dX7_register_36 : decode cX7_register 36 = .ok (.bipush 30, 2) := by decide +kernel
theorem dX7_register_38 : decode cX7_register 38 = .ok (.if_icmp .ne 9, 3) := by decide +kernel
theorem dX7_register_41 : decode cX7_register 41 = .ok (.aload_n 0, 1) := by decide +kernel
theorem dX7_register_42 : decode cX7_register 42 = .ok (.iconst 2, 1) := by decide +kernel
theorem dX7_register_43 : decode cX7_register 43 = .ok (.invokevirtual 154, 3) := by decide +kernel
theorem dX7_register_46 : decode cX7_register 46 = .ok (.ireturn, 1) := by decide +kernel
theorem dX7_register_47 : decode cX7_register 47 = .ok (.aload_n 0, 1) := by decide +kernel
theorem dX7_register_48 : decode cX7_register 48 = .ok (.aload_n 0, 1) := by decide +kernel
theorem dX7_register_49 : decode cX7_register 49 = .ok (.getfield 7, 3) := by decide +kernel
theorem dX7_register_52 : decode cX7_register 52 = .ok (.invokevirtual 157, 3) := by decide +kernel
theorem dX7_register_55 : decode cX7_register 55 = .ok (.aload_n 0, 1) := by decide +kernel
theorem dX7_register_56 : decode cX7_register 56 = .ok (.iload_n 1, 1) := by decide +kernel
theorem dX7_register_57 : decode cX7_register 57 = .ok (.iload_n 2, 1) := by decide +kernel
theorem dX7_register_58 : decode cX7_register 58 = .ok (.iload_n 3, 1) := by decide +kernel
theorem dX7_register_59 : decode cX7_register 59 = .ok (.iload 4, 2) := by decide +kernel
theorem dX7_register_61 : decode cX7_register 61 = .ok (.iload 5, 2) := by decide +kernel
theorem dX7_register_63 : decode cX7_register 63 = .ok (.invokevirtual 161, 3) := by decide +kernel
theorem dX7_register_66 : decode cX7_register 66 = .ok (.ireturn, 1) := by decide +kernel
set_option maxRecDepth 20000 in
theorem ggX7_leave_X7_isSinger : GoodIn wsX7_leave wsX7_isSinger := goodIn_r _ [7, 2, 8, 9, 6, 10, 40, 41, 42, 43, 44, 45, 46, 47, 48, 49, 50, 51, 52, 53, 54, 55] (by decide +kernel) (by decide +kernel)
set_option maxRecDepth 20000 in
theorem gX7_leave_X7_isSinger : GoodIn wsX7_leave (wsV RX7 164 RX7 yX7_isSinger wsX7_isSinger) := goodIn_app (goodIn_of _ (by decide +kernel)) ggX7_leave_X7_isSinger
set_option maxRecDepth 20000 in
theorem ggX7_leave_X7_refuses : GoodIn wsX7_leave wsX7_refuses := goodIn_r _ [14, 1, 40, 41, 42, 43, 44, 45, 46, 47, 48, 49, 50, 51, 52, 53, 54, 55] (by decide +kernel) (by decide +kernel)
set_option maxRecDepth 20000 in
theorem gX7_leave_X7_refuses : GoodIn wsX7_leave (wsV RX7 154 RX7 yX7_refuses wsX7_refuses) := goodIn_app (goodIn_of _ (by decide +kernel)) ggX7_leave_X7_refuses
set_option maxRecDepth 20000 in
theorem ggX7_leave_X7_its : GoodIn wsX7_leave wsX7_its := goodIn_r _ [18, 2, 40, 41, 42, 43, 44, 45, 46, 47, 48, 49, 50, 51, 52, 53, 54, 55] (by decide +kernel) (by decide +kernel)
set_option maxRecDepth 20000 in
theorem gX7_leave_X7_its : GoodIn wsX7_leave (wsV RX7 70 RX7 yX7_its wsX7_its) := goodIn_app (goodIn_of _ (by decide +kernel)) ggX7_leave_X7_its
set_option maxRecDepth 20000 in
theorem ggX7_leave_X7_saves : GoodIn wsX7_leave wsX7_saves := goodIn_r _ [22, 23, 24, 25, 26, 6, 27, 40, 41, 42, 43, 44, 45, 46, 47, 48, 49, 50, 51, 52, 53, 54, 55] (by decide +kernel) (by decide +kernel)
set_option maxRecDepth 20000 in
theorem gX7_leave_X7_saves : GoodIn wsX7_leave (wsV RX7 157 RX7 yX7_saves wsX7_saves) := goodIn_app (goodIn_of _ (by decide +kernel)) ggX7_leave_X7_saves
set_option maxRecDepth 20000 in
theorem ggX7_leave_X7_leaves : GoodIn wsX7_leave wsX7_leaves := goodIn_r _ [31, 32, 33, 34, 6, 35, 2, 36, 37, 38, 39, 15, 16, 17, 18, 40, 41, 42, 43, 44, 45, 46, 47, 48, 49, 50, 51, 52, 53, 54, 55] (by decide +kernel) (by decide +kernel)
set_option maxRecDepth 20000 in
theorem gX7_leave_X7_leaves : GoodIn wsX7_leave (wsV RX7 167 RX7 yX7_leaves wsX7_leaves) := goodIn_app (goodIn_of _ (by decide +kernel)) ggX7_leave_X7_leaves
theorem dX7_leave_0 : decode cX7_leave 0 = .ok (.aload_n 0, 1) := by decide +kernel
theorem dX7_leave_1 : decode cX7_leave 1 = .ok (.iconst 0, 1) := by decide +kernel
theorem dX7_leave_2 : decode cX7_leave 2 = .ok (.putfield 40, 3) := by decide +kernel
theorem dX7_leave_5 : decode cX7_leave 5 = .ok (.aload_n 0, 1) := by decide +kernel
theorem dX7_leave_6 : decode cX7_leave 6 = .ok (.iload_n 1, 1) := by decide +kernel
theorem dX7_leave_7 : decode cX7_leave 7 = .ok (.invokevirtual 164, 3) := by decide +kernel
theorem dX7_leave_10 : decode cX7_leave 10 = .ok (.ifCond .ne 9, 3) := by decide +kernel
theorem dX7_leave_13 : decode cX7_leave 13 = .ok (.aload_n 0, 1) := by decide +kernel
theorem dX7_leave_14 : decode cX7_leave 14 = .ok (.iconst 1, 1) := by decide +kernel
theorem dX7_leave_15 : decode cX7_leave 15 = .ok (.invokevirtual 154, 3) := by decide +kernel
theorem dX7_leave_18 : decode cX7_leave 18 = .ok (.ireturn, 1) := by decide +kernel
theorem dX7_leave_19 : decode cX7_leave 19 = .ok (.aload_n 0, 1) := by decide +kernel
theorem dX7_leave_20 : decode cX7_leave 20 = .ok (.iload_n 1, 1) := by decide +kernel
theorem dX7_leave_21 : decode cX7_leave 21 = .ok (.bipush 7, 2) := by decide +kernel
theorem dX7_leave_23 : decode cX7_leave 23 = .ok (.invokevirtual 70, 3) := by decide +kernel
theorem dX7_leave_26 : decode cX7_leave 26 = .ok (.iconst 1, 1) := by decide +kernel
theorem dX7_leave_27 : decode cX7_leave 27 = .ok (.if_icmp .ne 9, 3) := by decide +kernel
theorem dX7_leave_30 : decode cX7_leave 30 = .ok (.aload_n 0, 1) := by decide +kernel
theorem dX7_leave_31 : decode cX7_leave 31 = .ok (.iconst 2, 1) := by decide +kernel
theorem dX7_leave_32 : decode cX7_leave 32 = .ok (.invokevirtual 154, 3) := by decide +kernel
theorem dX7_leave_35 : decode cX7_leave 35 = .ok (.ireturn, 1) := by decide +kernel
theorem dX7_leave_36 : decode cX7_leave 36 = .ok (.aload_n 0, 1) := by decide +kernel
theorem dX7_leave_37 : decode cX7_leave 37 = .ok (.aload_n 0, 1) := by decide +kernel
theorem dX7_leave_38 : decode cX7_leave 38 = .ok (.getfield 7, 3) := by decide +kernel
theorem dX7_leave_41 : decode cX7_leave 41 = .ok (.invokevirtual 157, 3) := by decide +kernel
theorem dX7_leave_44 : decode cX7_leave 44 = .ok (.aload_n 0, 1) := by decide +kernel
theorem dX7_leave_45 : decode cX7_leave 45 = .ok (.iload_n 1, 1) := by decide +kernel
theorem dX7_leave_46 : decode cX7_leave 46 = .ok (.invokevirtual 167, 3) := by decide +kernel
theorem dX7_leave_49 : decode cX7_leave 49 = .ok (.ireturn, 1) := by decide +kernel
set_option maxRecDepth 20000 in
theorem ggX7_borrow_X7_isChoir : GoodIn wsX7_borrow wsX7_isChoir := goodIn_r _ [6, 7, 8, 5, 9] (by decide +kernel) (by decide +kernel)
set_option maxRecDepth 20000 in
theorem gX7_borrow_X7_isChoir : GoodIn wsX7_borrow (va_wsS RX7 170 yX7_isChoir wsX7_isChoir) := goodIn_app (goodIn_of _ (by decide +kernel)) ggX7_borrow_X7_isChoir
set_option maxRecDepth 20000 in
theorem ggX7_borrow_X7_refuses : GoodIn wsX7_borrow wsX7_refuses := goodIn_r _ [13, 1, 37, 38, 39, 40, 41, 42, 43, 44, 45, 46, 47, 48, 49, 50, 51, 52] (by decide +kernel) (by decide +kernel)
set_option maxRecDepth 20000 in
theorem gX7_borrow_X7_refuses : GoodIn wsX7_borrow (wsV RX7 154 RX7 yX7_refuses wsX7_refuses) := goodIn_app (goodIn_of _ (by decide +kernel)) ggX7_borrow_X7_refuses
set_option maxRecDepth 20000 in
theorem ggX7_borrow_X7_in : GoodIn wsX7_borrow wsX7_in := goodIn_r _ [9] (by decide +kernel) (by decide +kernel)
set_option maxRecDepth 20000 in
theorem gX7_borrow_X7_in : GoodIn wsX7_borrow (va_wsS RX7 51 yX7_in wsX7_in) := goodIn_app (goodIn_of _ (by decide +kernel)) ggX7_borrow_X7_in
set_option maxRecDepth 20000 in
theorem ggX7_borrow_X7_isHigh : GoodIn wsX7_borrow wsX7_isHigh := goodIn_r _ [16, 7, 8, 5, 9] (by decide +kernel) (by decide +kernel)
set_option maxRecDepth 20000 in
theorem gX7_borrow_X7_isHigh : GoodIn wsX7_borrow (va_wsS RX7 59 yX7_isHigh wsX7_isHigh) := goodIn_app (goodIn_of _ (by decide +kernel)) ggX7_borrow_X7_isHigh
set_option maxRecDepth 20000 in
theorem ggX7_borrow_X7_areNotes : GoodIn wsX7_borrow wsX7_areNotes := goodIn_r _ [19, 7, 8, 5, 9] (by decide +kernel) (by decide +kernel)
set_option maxRecDepth 20000 in
theorem gX7_borrow_X7_areNotes : GoodIn wsX7_borrow (va_wsS RX7 151 yX7_areNotes wsX7_areNotes) := goodIn_app (goodIn_of _ (by decide +kernel)) ggX7_borrow_X7_areNotes
set_option maxRecDepth 20000 in
theorem ggX7_borrow_X7_saves : GoodIn wsX7_borrow wsX7_saves := goodIn_r _ [23, 24, 25, 26, 27, 5, 28, 37, 38, 39, 40, 41, 42, 43, 44, 45, 46, 47, 48, 49, 50, 51, 52] (by decide +kernel) (by decide +kernel)
set_option maxRecDepth 20000 in
theorem gX7_borrow_X7_saves : GoodIn wsX7_borrow (wsV RX7 157 RX7 yX7_saves wsX7_saves) := goodIn_app (goodIn_of _ (by decide +kernel)) ggX7_borrow_X7_saves
set_option maxRecDepth 20000 in
theorem ggX7_borrow_X7_enters : GoodIn wsX7_borrow wsX7_enters := goodIn_r _ [32, 2, 33, 34, 35, 5, 36, 37, 38, 39, 40, 41, 42, 43, 44, 45, 46, 47, 48, 49, 50, 51, 52] (by decide +kernel) (by decide +kernel)
set_option maxRecDepth 20000 in
theorem gX7_borrow_X7_enters : GoodIn wsX7_borrow (wsV RX7 66 RX7 yX7_enters wsX7_enters) := goodIn_app (goodIn_of _ (by decide +kernel)) ggX7_borrow_X7_enters
set_option maxRecDepth 20000 in
theorem ggX7_borrow_X7_lay : GoodIn wsX7_borrow wsX7_lay := goodIn_r _ [36, 2, 37, 38, 39, 40, 41, 42, 43, 44, 45, 46, 47, 48, 49, 50, 51, 52] (by decide +kernel) (by decide +kernel)
set_option maxRecDepth 20000 in
theorem gX7_borrow_X7_lay : GoodIn wsX7_borrow (wsV RX7 55 RX7 yX7_lay wsX7_lay) := goodIn_app (goodIn_of _ (by decide +kernel)) ggX7_borrow_X7_lay
theorem dX7_borrow_0 : decode cX7_borrow 0 = .ok (.aload_n 0, 1) := by decide +kernel
theorem dX7_borrow_1 : decode cX7_borrow 1 = .ok (.iconst 0, 1) := by decide +kernel
theorem dX7_borrow_2 : decode cX7_borrow 2 = .ok (.putfield 40, 3) := by decide +kernel
theorem dX7_borrow_5 : decode cX7_borrow 5 = .ok (.iload_n 1, 1) := by decide +kernel
theorem dX7_borrow_6 : decode cX7_borrow 6 = .ok (.invokestatic 170, 3) := by decide +kernel
theorem dX7_borrow_9 : decode cX7_borrow 9 = .ok (.ifCond .ne 9, 3) := by decide +kernel
theorem dX7_borrow_12 : decode cX7_borrow 12 = .ok (.aload_n 0, 1) := by decide +kernel
theorem dX7_borrow_13 : decode cX7_borrow 13 = .ok (.iconst 1, 1) := by decide +kernel
theorem dX7_borrow_14 : decode cX7_borrow 14 = .ok (.invokevirtual 154, 3) := by decide +kernel
theorem dX7_borrow_17 : decode cX7_borrow 17 = .ok (.ireturn, 1) := by decide +kernel
theorem dX7_borrow_18 : decode cX7_borrow 18 = .ok (.iload_n 2, 1) := by decide +kernel
theorem dX7_borrow_19 : decode cX7_borrow 19 = .ok (.iconst 0, 1) := by decide +kernel
theorem dX7_borrow_20 : decode cX7_borrow 20 = .ok (.bipush 9, 2) := by decide +kernel
theorem dX7_borrow_22 : decode cX7_borrow 22 = .ok (.invokestatic 51, 3) := by decide +kernel
theorem dX7_borrow_25 : decode cX7_borrow 25 = .ok (.ifCond .eq 31, 3) := by decide +kernel
theorem dX7_borrow_28 : decode cX7_borrow 28 = .ok (.iload_n 3, 1) := by decide +kernel
theorem dX7_borrow_29 : decode cX7_borrow 29 = .ok (.invokestatic 59, 3) := by decide +kernel
theorem dX7_borrow_32 : decode cX7_borrow 32 = .ok (.ifCond .eq 24, 3) := by decide +kernel
theorem dX7_borrow_35 : decode cX7_borrow 35 = .ok (.iload 4, 2) := by decide +kernel
theorem dX7_borrow_37 : decode cX7_borrow 37 = .ok (.iload 5, 2) := by decide +kernel
theorem dX7_borrow_39 : decode cX7_borrow 39 = .ok (.invokestatic 151, 3) := by decide +kernel
theorem dX7_borrow_42 : decode cX7_borrow 42 = .ok (.ifCond .eq 14, 3) := by decide +kernel
theorem dX7_borrow_45 : decode cX7_borrow 45 = .ok (.iload 6, 2) := by decide +kernel
theorem dX7_borrow_47 : decode cX7_borrow 47 = .ok (.iconst 1, 1) := by decide +kernel
theorem dX7_borrow_48 : decode cX7_borrow 48 = .ok (.bipush 90, 2) := by decide +kernel
theorem dX7_borrow_50 : decode cX7_borrow 50 = .ok (.invokestatic 51, 3) := by decide +kernel
theorem dX7_borrow_53 : decode cX7_borrow 53 = .ok (.ifCond .ne 9, 3) := by decide +kernel
theorem dX7_borrow_56 : decode cX7_borrow 56 = .ok (.aload_n 0, 1) := by decide +kernel
theorem dX7_borrow_57 : decode cX7_borrow 57 = .ok (.iconst 2, 1) := by decide +kernel
theorem dX7_borrow_58 : decode cX7_borrow 58 = .ok (.invokevirtual 154, 3) := by decide +kernel
theorem dX7_borrow_61 : decode cX7_borrow 61 = .ok (.ireturn, 1) := by decide +kernel
theorem dX7_borrow_62 : decode cX7_borrow 62 = .ok (.aload_n 0, 1) := by decide +kernel
theorem dX7_borrow_63 : decode cX7_borrow 63 = .ok (.getfield 7, 3) := by decide +kernel
theorem dX7_borrow_66 : decode cX7_borrow 66 = .ok (.iconst 1, 1) := by decide +kernel
theorem dX7_borrow_67 : decode cX7_borrow 67 = .ok (.iaload, 1) := by decide +kernel
theorem dX7_borrow_68 : decode cX7_borrow 68 = .ok (.bipush 30, 2) := by decide +kernel
theorem dX7_borrow_70 : decode cX7_borrow 70 = .ok (.if_icmp .eq 17, 3) := by decide +kernel
theorem dX7_borrow_73 : decode cX7_borrow 73 = .ok (.aload_n 0, 1) := by decide +kernel
theorem dX7_borrow_74 : decode cX7_borrow 74 = .ok (.getfield 7, 3) := by decide +kernel
theorem dX7_borrow_77 : decode cX7_borrow 77 = .ok (.bipush 8, 2) := by decide +kernel
theorem dX7_borrow_79 : decode cX7_borrow 79 = .ok (.iload_n 1, 1) := by decide +kernel
theorem dX7_borrow_80 : decode cX7_borrow 80 = .ok (.iadd, 1) := by decide +kernel
theorem dX7_borrow_81 : decode cX7_borrow 81 = .ok (.iaload, 1) := by decide +kernel
theorem dX7_borrow_82 : decode cX7_borrow 82 = .ok (.bipush (-2), 2) := by decide +kernel
theorem dX7_borrow_84 : decode cX7_borrow 84 = .ok (.if_icmp .ge 9, 3) := by decide +kernel
theorem dX7_borrow_87 : decode cX7_borrow 87 = .ok (.aload_n 0, 1) := by decide +kernel
theorem dX7_borrow_88 : decode cX7_borrow 88 = .ok (.iconst 3, 1) := by decide +kernel
theorem dX7_borrow_89 : decode cX7_borrow 89 = .ok (.invokevirtual 154, 3) := by decide +kernel
theorem dX7_borrow_92 : decode cX7_borrow 92 = .ok (.ireturn, 1) := by decide +kernel
theorem dX7_borrow_93 : decode cX7_borrow 93 = .ok (.aload_n 0, 1) := by decide +kernel
theorem dX7_borrow_94 : decode cX7_borrow 94 = .ok (.aload_n 0, 1) := by decide +kernel
theorem dX7_borrow_95 : decode cX7_borrow 95 = .ok (.getfield 7, 3) := by decide +kernel
theorem dX7_borrow_98 : decode cX7_borrow 98 = .ok (.invokevirtual 157, 3) := by decide +kernel
theorem dX7_borrow_101 : decode cX7_borrow 101 = .ok (.aload_n 0, 1) := by decide +kernel
theorem dX7_borrow_102 : decode cX7_borrow 102 = .ok (.iload_n 1, 1) := by decide +kernel
theorem dX7_borrow_103 : decode cX7_borrow 103 = .ok (.bipush 30, 2) := by decide +kernel
theorem dX7_borrow_105 : decode cX7_borrow 105 = .ok (.iload_n 3, 1) := by decide +kernel
theorem dX7_borrow_106 : decode cX7_borrow 106 = .ok (.iload 4, 2) := by decide +kernel
theorem dX7_borrow_108 : decode cX7_borrow 108 = .ok (.iload 5, 2) := by decide +kernel
theorem dX7_borrow_110 : decode cX7_borrow 110 = .ok (.invokevirtual 66, 3) := by decide +kernel
theorem dX7_borrow_113 : decode cX7_borrow 113 = .ok (.istore 7, 2) := by decide +kernel
theorem dX7_borrow_115 : decode cX7_borrow 115 = .ok (.aload_n 0, 1) := by decide +kernel
theorem dX7_borrow_116 : decode cX7_borrow 116 = .ok (.iload 7, 2) := by decide +kernel
theorem dX7_borrow_118 : decode cX7_borrow 118 = .ok (.bipush 9, 2) := by decide +kernel
theorem dX7_borrow_120 : decode cX7_borrow 120 = .ok (.iload_n 2, 1) := by decide +kernel
theorem dX7_borrow_121 : decode cX7_borrow 121 = .ok (.invokevirtual 55, 3) := by decide +kernel
theorem dX7_borrow_124 : decode cX7_borrow 124 = .ok (.aload_n 0, 1) := by decide +kernel
theorem dX7_borrow_125 : decode cX7_borrow 125 = .ok (.iload 7, 2) := by decide +kernel
theorem dX7_borrow_127 : decode cX7_borrow 127 = .ok (.bipush 8, 2) := by decide +kernel
theorem dX7_borrow_129 : decode cX7_borrow 129 = .ok (.aload_n 0, 1) := by decide +kernel
theorem dX7_borrow_130 : decode cX7_borrow 130 = .ok (.getfield 7, 3) := by decide +kernel
theorem dX7_borrow_133 : decode cX7_borrow 133 = .ok (.iconst 0, 1) := by decide +kernel
theorem dX7_borrow_134 : decode cX7_borrow 134 = .ok (.iaload, 1) := by decide +kernel
theorem dX7_borrow_135 : decode cX7_borrow 135 = .ok (.iload 6, 2) := by decide +kernel
theorem dX7_borrow_137 : decode cX7_borrow 137 = .ok (.iadd, 1) := by decide +kernel
theorem dX7_borrow_138 : decode cX7_borrow 138 = .ok (.invokevirtual 55, 3) := by decide +kernel
theorem dX7_borrow_141 : decode cX7_borrow 141 = .ok (.aload_n 0, 1) := by decide +kernel
theorem dX7_borrow_142 : decode cX7_borrow 142 = .ok (.getfield 7, 3) := by decide +kernel
theorem dX7_borrow_145 : decode cX7_borrow 145 = .ok (.bipush 8, 2) := by decide +kernel
theorem dX7_borrow_147 : decode cX7_borrow 147 = .ok (.iload_n 1, 1) := by decide +kernel
theorem dX7_borrow_148 : decode cX7_borrow 148 = .ok (.iadd, 1) := by decide +kernel
theorem dX7_borrow_149 : decode cX7_borrow 149 = .ok (.dup2, 1) := by decide +kernel
theorem dX7_borrow_150 : decode cX7_borrow 150 = .ok (.iaload, 1) := by decide +kernel
theorem dX7_borrow_151 : decode cX7_borrow 151 = .ok (.iconst 1, 1) := by decide +kernel
theorem dX7_borrow_152 : decode cX7_borrow 152 = .ok (.isub, 1) := by decide +kernel
theorem dX7_borrow_153 : decode cX7_borrow 153 = .ok (.iastore, 1) := by decide +kernel
theorem dX7_borrow_154 : decode cX7_borrow 154 = .ok (.iload 7, 2) := by decide +kernel
theorem dX7_borrow_156 : decode cX7_borrow 156 = .ok (.ireturn, 1) := by decide +kernel
set_option maxRecDepth 20000 in
theorem ggX7_lend_X7_isSinger : GoodIn wsX7_lend wsX7_isSinger := goodIn_r _ [7, 2, 8, 9, 6, 10, 43, 44, 45, 46, 47, 48, 49, 50, 51, 52, 53, 54, 55, 56, 57, 58] (by decide +kernel) (by decide +kernel)
set_option maxRecDepth 20000 in
theorem gX7_lend_X7_isSinger : GoodIn wsX7_lend (wsV RX7 164 RX7 yX7_isSinger wsX7_isSinger) := goodIn_app (goodIn_of _ (by decide +kernel)) ggX7_lend_X7_isSinger
set_option maxRecDepth 20000 in
theorem ggX7_lend_X7_isChoir : GoodIn wsX7_lend wsX7_isChoir := goodIn_r _ [13, 8, 9, 6, 10] (by decide +kernel) (by decide +kernel)
set_option maxRecDepth 20000 in
theorem gX7_lend_X7_isChoir : GoodIn wsX7_lend (va_wsS RX7 170 yX7_isChoir wsX7_isChoir) := goodIn_app (goodIn_of _ (by decide +kernel)) ggX7_lend_X7_isChoir
set_option maxRecDepth 20000 in
theorem ggX7_lend_X7_refuses : GoodIn wsX7_lend wsX7_refuses := goodIn_r _ [17, 1, 43, 44, 45, 46, 47, 48, 49, 50, 51, 52, 53, 54, 55, 56, 57, 58] (by decide +kernel) (by decide +kernel)
set_option maxRecDepth 20000 in
theorem gX7_lend_X7_refuses : GoodIn wsX7_lend (wsV RX7 154 RX7 yX7_refuses wsX7_refuses) := goodIn_app (goodIn_of _ (by decide +kernel)) ggX7_lend_X7_refuses
set_option maxRecDepth 20000 in
theorem ggX7_lend_X7_in : GoodIn wsX7_lend wsX7_in := goodIn_r _ [10] (by decide +kernel) (by decide +kernel)
set_option maxRecDepth 20000 in
theorem gX7_lend_X7_in : GoodIn wsX7_lend (va_wsS RX7 51 yX7_in wsX7_in) := goodIn_app (goodIn_of _ (by decide +kernel)) ggX7_lend_X7_in
set_option maxRecDepth 20000 in
theorem ggX7_lend_X7_canLend : GoodIn wsX7_lend wsX7_canLend := goodIn_r _ [21, 2, 22, 23, 24, 6, 25, 43, 44, 45, 46, 47, 48, 49, 50, 51, 52, 53, 54, 55, 56, 57, 58] (by decide +kernel) (by decide +kernel)
set_option maxRecDepth 20000 in
theorem gX7_lend_X7_canLend : GoodIn wsX7_lend (wsV RX7 173 RX7 yX7_canLend wsX7_canLend) := goodIn_app (goodIn_of _ (by decide +kernel)) ggX7_lend_X7_canLend
set_option maxRecDepth 20000 in
theorem ggX7_lend_X7_saves : GoodIn wsX7_lend wsX7_saves := goodIn_r _ [29, 30, 31, 32, 33, 6, 34, 43, 44, 45, 46, 47, 48, 49, 50, 51, 52, 53, 54, 55, 56, 57, 58] (by decide +kernel) (by decide +kernel)
set_option maxRecDepth 20000 in
theorem gX7_lend_X7_saves : GoodIn wsX7_lend (wsV RX7 157 RX7 yX7_saves wsX7_saves) := goodIn_app (goodIn_of _ (by decide +kernel)) ggX7_lend_X7_saves
set_option maxRecDepth 20000 in
theorem ggX7_lend_X7_lends : GoodIn wsX7_lend wsX7_lends := goodIn_r _ [38, 2, 39, 40, 41, 6, 42, 43, 44, 45, 46, 47, 48, 49, 50, 51, 52, 53, 54, 55, 56, 57, 58] (by decide +kernel) (by decide +kernel)
set_option maxRecDepth 20000 in
theorem gX7_lend_X7_lends : GoodIn wsX7_lend (wsV RX7 176 RX7 yX7_lends wsX7_lends) := goodIn_app (goodIn_of _ (by decide +kernel)) ggX7_lend_X7_lends
theorem dX7_lend_0 : decode cX7_lend 0 = .ok (.aload_n 0, 1) := by decide +kernel
theorem dX7_lend_1 : decode cX7_lend 1 = .ok (.iconst 0, 1) := by decide +kernel
theorem dX7_lend_2 : decode cX7_lend 2 = .ok (.putfield 40, 3) := by decide +kernel
theorem dX7_lend_5 : decode cX7_lend 5 = .ok (.aload_n 0, 1) := by decide +kernel
theorem dX7_lend_6 : decode cX7_lend 6 = .ok (.iload_n 1, 1) := by decide +kernel
theorem dX7_lend_7 : decode cX7_lend 7 = .ok (.invokevirtual 164, 3) := by decide +kernel
theorem dX7_lend_10 : decode cX7_lend 10 = .ok (.ifCond .eq 10, 3) := by decide +kernel
theorem dX7_lend_13 : decode cX7_lend 13 = .ok (.iload_n 2, 1) := by decide +kernel
theorem dX7_lend_14 : decode cX7_lend 14 = .ok (.invokestatic 170, 3) := by decide +kernel
theorem dX7_lend_17 : decode cX7_lend 17 = .ok (.ifCond .ne 9, 3) := by decide +kernel
theorem dX7_lend_20 : decode cX7_lend 20 = .ok (.aload_n 0, 1) := by decide +kernel
theorem dX7_lend_21 : decode cX7_lend 21 = .ok (.iconst 1, 1) := by decide +kernel
theorem dX7_lend_22 : decode cX7_lend 22 = .ok (.invokevirtual 154, 3) := by decide +kernel
theorem dX7_lend_25 : decode cX7_lend 25 = .ok (.ireturn, 1) := by decide +kernel
theorem dX7_lend_26 : decode cX7_lend 26 = .ok (.iload_n 3, 1) := by decide +kernel
theorem dX7_lend_27 : decode cX7_lend 27 = .ok (.iconst 1, 1) := by decide +kernel
theorem dX7_lend_28 : decode cX7_lend 28 = .ok (.bipush 90, 2) := by decide +kernel
theorem dX7_lend_30 : decode cX7_lend 30 = .ok (.invokestatic 51, 3) := by decide +kernel
theorem dX7_lend_33 : decode cX7_lend 33 = .ok (.ifCond .ne 9, 3) := by decide +kernel
theorem dX7_lend_36 : decode cX7_lend 36 = .ok (.aload_n 0, 1) := by decide +kernel
theorem dX7_lend_37 : decode cX7_lend 37 = .ok (.iconst 2, 1) := by decide +kernel
theorem dX7_lend_38 : decode cX7_lend 38 = .ok (.invokevirtual 154, 3) := by decide +kernel
theorem dX7_lend_41 : decode cX7_lend 41 = .ok (.ireturn, 1) := by decide +kernel
theorem dX7_lend_42 : decode cX7_lend 42 = .ok (.aload_n 0, 1) := by decide +kernel
theorem dX7_lend_43 : decode cX7_lend 43 = .ok (.iload_n 1, 1) := by decide +kernel
theorem dX7_lend_44 : decode cX7_lend 44 = .ok (.invokevirtual 173, 3) := by decide +kernel
theorem dX7_lend_47 : decode cX7_lend 47 = .ok (.ifCond .ne 9, 3) := by decide +kernel
theorem dX7_lend_50 : decode cX7_lend 50 = .ok (.aload_n 0, 1) := by decide +kernel
theorem dX7_lend_51 : decode cX7_lend 51 = .ok (.iconst 3, 1) := by decide +kernel
theorem dX7_lend_52 : decode cX7_lend 52 = .ok (.invokevirtual 154, 3) := by decide +kernel
theorem dX7_lend_55 : decode cX7_lend 55 = .ok (.ireturn, 1) := by decide +kernel
theorem dX7_lend_56 : decode cX7_lend 56 = .ok (.aload_n 0, 1) := by decide +kernel
theorem dX7_lend_57 : decode cX7_lend 57 = .ok (.aload_n 0, 1) := by decide +kernel
theorem dX7_lend_58 : decode cX7_lend 58 = .ok (.getfield 7, 3) := by decide +kernel
theorem dX7_lend_61 : decode cX7_lend 61 = .ok (.invokevirtual 157, 3) := by decide +kernel
theorem dX7_lend_64 : decode cX7_lend 64 = .ok (.aload_n 0, 1) := by decide +kernel
theorem dX7_lend_65 : decode cX7_lend 65 = .ok (.iload_n 1, 1) := by decide +kernel
theorem dX7_lend_66 : decode cX7_lend 66 = .ok (.iload_n 2, 1) := by decide +kernel
theorem dX7_lend_67 : decode cX7_lend 67 = .ok (.iload_n 3, 1) := by decide +kernel
theorem dX7_lend_68 : decode cX7_lend 68 = .ok (.invokevirtual 176, 3) := by decide +kernel
theorem dX7_lend_71 : decode cX7_lend 71 = .ok (.ireturn, 1) := by decide +kernel
set_option maxRecDepth 20000 in
theorem ggX7_excuse_X7_isSinger : GoodIn wsX7_excuse wsX7_isSinger := goodIn_r _ [7, 2, 8, 9, 6, 10, 45, 46, 47, 48, 49, 50, 51, 52, 53, 54, 55, 56, 57, 58, 59, 60] (by decide +kernel) (by decide +kernel)
set_option maxRecDepth 20000 in
theorem gX7_excuse_X7_isSinger : GoodIn wsX7_excuse (wsV RX7 164 RX7 yX7_isSinger wsX7_isSinger) := goodIn_app (goodIn_of _ (by decide +kernel)) ggX7_excuse_X7_isSinger
set_option maxRecDepth 20000 in
theorem ggX7_excuse_X7_refuses : GoodIn wsX7_excuse wsX7_refuses := goodIn_r _ [14, 1, 45, 46, 47, 48, 49, 50, 51, 52, 53, 54, 55, 56, 57, 58, 59, 60] (by decide +kernel) (by decide +kernel)
set_option maxRecDepth 20000 in
theorem gX7_excuse_X7_refuses : GoodIn wsX7_excuse (wsV RX7 154 RX7 yX7_refuses wsX7_refuses) := goodIn_app (goodIn_of _ (by decide +kernel)) ggX7_excuse_X7_refuses
set_option maxRecDepth 20000 in
theorem ggX7_excuse_X7_areDays : GoodIn wsX7_excuse wsX7_areDays := goodIn_r _ [18, 2, 45, 46, 47, 48, 49, 50, 51, 52, 53, 54, 55, 56, 57, 58, 59, 60] (by decide +kernel) (by decide +kernel)
set_option maxRecDepth 20000 in
theorem gX7_excuse_X7_areDays : GoodIn wsX7_excuse (wsV RX7 179 RX7 yX7_areDays wsX7_areDays) := goodIn_app (goodIn_of _ (by decide +kernel)) ggX7_excuse_X7_areDays
set_option maxRecDepth 20000 in
theorem ggX7_excuse_X7_canExcuse : GoodIn wsX7_excuse wsX7_canExcuse := goodIn_r _ [22, 2, 23, 24, 25, 6, 26, 27, 28, 29, 30, 45, 46, 47, 48, 49, 50, 51, 52, 53, 54, 55, 56, 57, 58, 59, 60] (by decide +kernel) (by decide +kernel)
set_option maxRecDepth 20000 in
theorem gX7_excuse_X7_canExcuse : GoodIn wsX7_excuse (wsV RX7 182 RX7 yX7_canExcuse wsX7_canExcuse) := goodIn_app (goodIn_of _ (by decide +kernel)) ggX7_excuse_X7_canExcuse
set_option maxRecDepth 20000 in
theorem ggX7_excuse_X7_saves : GoodIn wsX7_excuse wsX7_saves := goodIn_r _ [34, 35, 36, 37, 38, 6, 39, 45, 46, 47, 48, 49, 50, 51, 52, 53, 54, 55, 56, 57, 58, 59, 60] (by decide +kernel) (by decide +kernel)
set_option maxRecDepth 20000 in
theorem gX7_excuse_X7_saves : GoodIn wsX7_excuse (wsV RX7 157 RX7 yX7_saves wsX7_saves) := goodIn_app (goodIn_of _ (by decide +kernel)) ggX7_excuse_X7_saves
set_option maxRecDepth 20000 in
theorem ggX7_excuse_X7_excuses : GoodIn wsX7_excuse wsX7_excuses := goodIn_r _ [43, 2, 44, 27, 28, 29, 6, 30, 45, 46, 47, 48, 49, 50, 51, 52, 53, 54, 55, 56, 57, 58, 59, 60] (by decide +kernel) (by decide +kernel)
set_option maxRecDepth 20000 in
theorem gX7_excuse_X7_excuses : GoodIn wsX7_excuse (wsV RX7 185 RX7 yX7_excuses wsX7_excuses) := goodIn_app (goodIn_of _ (by decide +kernel)) ggX7_excuse_X7_excuses
theorem dX7_excuse_0 : decode cX7_excuse 0 = .ok (.aload_n 0, 1) := by decide +kernel
theorem dX7_excuse_1 : decode cX7_excuse 1 = .ok (.iconst 0, 1) := by decide +kernel
theorem dX7_excuse_2 : decode cX7_excuse 2 = .ok (.putfield 40, 3) := by decide +kernel
theorem dX7_excuse_5 : decode cX7_excuse 5 = .ok (.aload_n 0, 1) := by decide +kernel
theorem dX7_excuse_6 : decode cX7_excuse 6 = .ok (.iload_n 1, 1) := by decide +kernel
theorem dX7_excuse_7 : decode cX7_excuse 7 = .ok (.invokevirtual 164, 3) := by decide +kernel
theorem dX7_excuse_10 : decode cX7_excuse 10 = .ok (.ifCond .ne 9, 3) := by decide +kernel
theorem dX7_excuse_13 : decode cX7_excuse 13 = .ok (.aload_n 0, 1) := by decide +kernel
theorem dX7_excuse_14 : decode cX7_excuse 14 = .ok (.iconst 1, 1) := by decide +kernel
theorem dX7_excuse_15 : decode cX7_excuse 15 = .ok (.invokevirtual 154, 3) := by decide +kernel
theorem dX7_excuse_18 : decode cX7_excuse 18 = .ok (.ireturn, 1) := by decide +kernel
theorem dX7_excuse_19 : decode cX7_excuse 19 = .ok (.aload_n 0, 1) := by decide +kernel
theorem dX7_excuse_20 : decode cX7_excuse 20 = .ok (.iload_n 2, 1) := by decide +kernel
theorem dX7_excuse_21 : decode cX7_excuse 21 = .ok (.iload_n 3, 1) := by decide +kernel
theorem dX7_excuse_22 : decode cX7_excuse 22 = .ok (.invokevirtual 179, 3) := by decide +kernel
theorem dX7_excuse_25 : decode cX7_excuse 25 = .ok (.ifCond .ne 9, 3) := by decide +kernel
theorem dX7_excuse_28 : decode cX7_excuse 28 = .ok (.aload_n 0, 1) := by decide +kernel
theorem dX7_excuse_29 : decode cX7_excuse 29 = .ok (.iconst 2, 1) := by decide +kernel
theorem dX7_excuse_30 : decode cX7_excuse 30 = .ok (.invokevirtual 154, 3) := by decide +kernel
theorem dX7_excuse_33 : decode cX7_excuse 33 = .ok (.ireturn, 1) := by decide +kernel
theorem dX7_excuse_34 : decode cX7_excuse 34 = .ok (.aload_n 0, 1) := by decide +kernel
theorem dX7_excuse_35 : decode cX7_excuse 35 = .ok (.iload_n 1, 1) := by decide +kernel
theorem dX7_excuse_36 : decode cX7_excuse 36 = .ok (.iload_n 2, 1) := by decide +kernel
theorem dX7_excuse_37 : decode cX7_excuse 37 = .ok (.iload_n 3, 1) := by decide +kernel
theorem dX7_excuse_38 : decode cX7_excuse 38 = .ok (.invokevirtual 182, 3) := by decide +kernel
theorem dX7_excuse_41 : decode cX7_excuse 41 = .ok (.ifCond .ne 9, 3) := by decide +kernel
theorem dX7_excuse_44 : decode cX7_excuse 44 = .ok (.aload_n 0, 1) := by decide +kernel
theorem dX7_excuse_45 : decode cX7_excuse 45 = .ok (.iconst 3, 1) := by decide +kernel
theorem dX7_excuse_46 : decode cX7_excuse 46 = .ok (.invokevirtual 154, 3) := by decide +kernel
theorem dX7_excuse_49 : decode cX7_excuse 49 = .ok (.ireturn, 1) := by decide +kernel
theorem dX7_excuse_50 : decode cX7_excuse 50 = .ok (.aload_n 0, 1) := by decide +kernel
theorem dX7_excuse_51 : decode cX7_excuse 51 = .ok (.aload_n 0, 1) := by decide +kernel
theorem dX7_excuse_52 : decode cX7_excuse 52 = .ok (.getfield 7, 3) := by decide +kernel
theorem dX7_excuse_55 : decode cX7_excuse 55 = .ok (.invokevirtual 157, 3) := by decide +kernel
theorem dX7_excuse_58 : decode cX7_excuse 58 = .ok (.aload_n 0, 1) := by decide +kernel
theorem dX7_excuse_59 : decode cX7_excuse 59 = .ok (.iload_n 1, 1) := by decide +kernel
theorem dX7_excuse_60 : decode cX7_excuse 60 = .ok (.iload_n 2, 1) := by decide +kernel
theorem dX7_excuse_61 : decode cX7_excuse 61 = .ok (.iload_n 3, 1) := by decide +kernel
theorem dX7_excuse_62 : decode cX7_excuse 62 = .ok (.invokevirtual 185, 3) := by decide +kernel
theorem dX7_excuse_65 : decode cX7_excuse 65 = .ok (.ireturn, 1) := by decide +kernel
set_option maxRecDepth 20000 in
theorem ggX7_announce_X7_isFuture : GoodIn wsX7_announce wsX7_isFuture := goodIn_r _ [7, 2, 36, 37, 38, 39, 40, 41, 42, 43, 44, 45, 46, 47, 48, 49, 50, 51] (by decide +kernel) (by decide +kernel)
set_option maxRecDepth 20000 in
theorem gX7_announce_X7_isFuture : GoodIn wsX7_announce (wsV RX7 188 RX7 yX7_isFuture wsX7_isFuture) := goodIn_app (goodIn_of _ (by decide +kernel)) ggX7_announce_X7_isFuture
set_option maxRecDepth 20000 in
theorem ggX7_announce_X7_in : GoodIn wsX7_announce wsX7_in := goodIn_r _ [10] (by decide +kernel) (by decide +kernel)
set_option maxRecDepth 20000 in
theorem gX7_announce_X7_in : GoodIn wsX7_announce (va_wsS RX7 51 yX7_in wsX7_in) := goodIn_app (goodIn_of _ (by decide +kernel)) ggX7_announce_X7_in
set_option maxRecDepth 20000 in
theorem ggX7_announce_X7_refuses : GoodIn wsX7_announce wsX7_refuses := goodIn_r _ [14, 1, 36, 37, 38, 39, 40, 41, 42, 43, 44, 45, 46, 47, 48, 49, 50, 51] (by decide +kernel) (by decide +kernel)
set_option maxRecDepth 20000 in
theorem gX7_announce_X7_refuses : GoodIn wsX7_announce (wsV RX7 154 RX7 yX7_refuses wsX7_refuses) := goodIn_app (goodIn_of _ (by decide +kernel)) ggX7_announce_X7_refuses
set_option maxRecDepth 20000 in
theorem ggX7_announce_X7_canAnnounce : GoodIn wsX7_announce wsX7_canAnnounce := goodIn_r _ [18, 2, 19, 20, 21, 6, 22, 36, 37, 38, 39, 40, 41, 42, 43, 44, 45, 46, 47, 48, 49, 50, 51] (by decide +kernel) (by decide +kernel)
set_option maxRecDepth 20000 in
theorem gX7_announce_X7_canAnnounce : GoodIn wsX7_announce (wsV RX7 191 RX7 yX7_canAnnounce wsX7_canAnnounce) := goodIn_app (goodIn_of _ (by decide +kernel)) ggX7_announce_X7_canAnnounce
set_option maxRecDepth 20000 in
theorem ggX7_announce_X7_saves : GoodIn wsX7_announce wsX7_saves := goodIn_r _ [26, 27, 28, 29, 30, 6, 31, 36, 37, 38, 39, 40, 41, 42, 43, 44, 45, 46, 47, 48, 49, 50, 51] (by decide +kernel) (by decide +kernel)
set_option maxRecDepth 20000 in
theorem gX7_announce_X7_saves : GoodIn wsX7_announce (wsV RX7 157 RX7 yX7_saves wsX7_saves) := goodIn_app (goodIn_of _ (by decide +kernel)) ggX7_announce_X7_saves
set_option maxRecDepth 20000 in
theorem ggX7_announce_X7_announces : GoodIn wsX7_announce wsX7_announces := goodIn_r _ [35, 2, 36, 37, 38, 39, 40, 41, 42, 43, 44, 45, 46, 47, 48, 49, 50, 51] (by decide +kernel) (by decide +kernel)
set_option maxRecDepth 20000 in
theorem gX7_announce_X7_announces : GoodIn wsX7_announce (wsV RX7 194 RX7 yX7_announces wsX7_announces) := goodIn_app (goodIn_of _ (by decide +kernel)) ggX7_announce_X7_announces
theorem dX7_announce_0 : decode cX7_announce 0 = .ok (.aload_n 0, 1) := by decide +kernel
theorem dX7_announce_1 : decode cX7_announce 1 = .ok (.iconst 0, 1) := by decide +kernel
theorem dX7_announce_2 : decode cX7_announce 2 = .ok (.putfield 40, 3) := by decide +kernel
theorem dX7_announce_5 : decode cX7_announce 5 = .ok (.aload_n 0, 1) := by decide +kernel
theorem dX7_announce_6 : decode cX7_announce 6 = .ok (.iload_n 1, 1) := by decide +kernel
theorem dX7_announce_7 : decode cX7_announce 7 = .ok (.invokevirtual 188, 3) := by decide +kernel
theorem dX7_announce_10 : decode cX7_announce 10 = .ok (.ifCond .eq 12, 3) := by decide +kernel
theorem dX7_announce_13 : decode cX7_announce 13 = .ok (.iload_n 2, 1) := by decide +kernel
theorem dX7_announce_14 : decode cX7_announce 14 = .ok (.iconst 1, 1) := by decide +kernel
theorem dX7_announce_15 : decode cX7_announce 15 = .ok (.iconst 3, 1) := by decide +kernel
theorem dX7_announce_16 : decode cX7_announce 16 = .ok (.invokestatic 51, 3) := by decide +kernel
theorem dX7_announce_19 : decode cX7_announce 19 = .ok (.ifCond .ne 9, 3) := by decide +kernel
theorem dX7_announce_22 : decode cX7_announce 22 = .ok (.aload_n 0, 1) := by decide +kernel
theorem dX7_announce_23 : decode cX7_announce 23 = .ok (.iconst 1, 1) := by decide +kernel
theorem dX7_announce_24 : decode cX7_announce 24 = .ok (.invokevirtual 154, 3) := by decide +kernel
theorem dX7_announce_27 : decode cX7_announce 27 = .ok (.ireturn, 1) := by decide +kernel
theorem dX7_announce_28 : decode cX7_announce 28 = .ok (.aload_n 0, 1) := by decide +kernel
theorem dX7_announce_29 : decode cX7_announce 29 = .ok (.iload_n 1, 1) := by decide +kernel
theorem dX7_announce_30 : decode cX7_announce 30 = .ok (.invokevirtual 191, 3) := by decide +kernel
theorem dX7_announce_33 : decode cX7_announce 33 = .ok (.ifCond .ne 9, 3) := by decide +kernel
theorem dX7_announce_36 : decode cX7_announce 36 = .ok (.aload_n 0, 1) := by decide +kernel
theorem dX7_announce_37 : decode cX7_announce 37 = .ok (.iconst 2, 1) := by decide +kernel
theorem dX7_announce_38 : decode cX7_announce 38 = .ok (.invokevirtual 154, 3) := by decide +kernel
theorem dX7_announce_41 : decode cX7_announce 41 = .ok (.ireturn, 1) := by decide +kernel
theorem dX7_announce_42 : decode cX7_announce 42 = .ok (.aload_n 0, 1) := by decide +kernel
theorem dX7_announce_43 : decode cX7_announce 43 = .ok (.aload_n 0, 1) := by decide +kernel
theorem dX7_announce_44 : decode cX7_announce 44 = .ok (.getfield 7, 3) := by decide +kernel
theorem dX7_announce_47 : decode cX7_announce 47 = .ok (.invokevirtual 157, 3) := by decide +kernel
theorem dX7_announce_50 : decode cX7_announce 50 = .ok (.aload_n 0, 1) := by decide +kernel
theorem dX7_announce_51 : decode cX7_announce 51 = .ok (.iload_n 1, 1) := by decide +kernel
theorem dX7_announce_52 : decode cX7_announce 52 = .ok (.iload_n 2, 1) := by decide +kernel
theorem dX7_announce_53 : decode cX7_announce 53 = .ok (.invokevirtual 194, 3) := by decide +kernel
theorem dX7_announce_56 : decode cX7_announce 56 = .ok (.ireturn, 1) := by decide +kernel
set_option maxRecDepth 20000 in
theorem ggX7_setLine_X7_isFeast : GoodIn wsX7_setLine wsX7_isFeast := goodIn_r _ [7, 2, 8, 9, 6, 10, 50, 51, 52, 53, 54, 55, 56, 57, 58, 59, 60, 61, 62, 63, 64, 65] (by decide +kernel) (by decide +kernel)
set_option maxRecDepth 20000 in
theorem gX7_setLine_X7_isFeast : GoodIn wsX7_setLine (wsV RX7 197 RX7 yX7_isFeast wsX7_isFeast) := goodIn_app (goodIn_of _ (by decide +kernel)) ggX7_setLine_X7_isFeast
set_option maxRecDepth 20000 in
theorem ggX7_setLine_X7_isLine : GoodIn wsX7_setLine wsX7_isLine := goodIn_r _ [13, 8, 9, 6, 10] (by decide +kernel) (by decide +kernel)
set_option maxRecDepth 20000 in
theorem gX7_setLine_X7_isLine : GoodIn wsX7_setLine (va_wsS RX7 200 yX7_isLine wsX7_isLine) := goodIn_app (goodIn_of _ (by decide +kernel)) ggX7_setLine_X7_isLine
set_option maxRecDepth 20000 in
theorem ggX7_setLine_X7_refuses : GoodIn wsX7_setLine wsX7_refuses := goodIn_r _ [17, 1, 50, 51, 52, 53, 54, 55, 56, 57, 58, 59, 60, 61, 62, 63, 64, 65] (by decide +kernel) (by decide +kernel)
set_option maxRecDepth 20000 in
theorem gX7_setLine_X7_refuses : GoodIn wsX7_setLine (wsV RX7 154 RX7 yX7_refuses wsX7_refuses) := goodIn_app (goodIn_of _ (by decide +kernel)) ggX7_setLine_X7_refuses
set_option maxRecDepth 20000 in
theorem ggX7_setLine_X7_in : GoodIn wsX7_setLine wsX7_in := goodIn_r _ [10] (by decide +kernel) (by decide +kernel)
set_option maxRecDepth 20000 in
theorem gX7_setLine_X7_in : GoodIn wsX7_setLine (va_wsS RX7 51 yX7_in wsX7_in) := goodIn_app (goodIn_of _ (by decide +kernel)) ggX7_setLine_X7_in
set_option maxRecDepth 20000 in
theorem ggX7_setLine_X7_areNotes : GoodIn wsX7_setLine wsX7_areNotes := goodIn_r _ [20, 8, 9, 6, 10] (by decide +kernel) (by decide +kernel)
set_option maxRecDepth 20000 in
theorem gX7_setLine_X7_areNotes : GoodIn wsX7_setLine (va_wsS RX7 151 yX7_areNotes wsX7_areNotes) := goodIn_app (goodIn_of _ (by decide +kernel)) ggX7_setLine_X7_areNotes
set_option maxRecDepth 20000 in
theorem ggX7_setLine_X7_held : GoodIn wsX7_setLine wsX7_held := goodIn_r _ [24, 2, 25, 26, 27, 6, 28, 50, 51, 52, 53, 54, 55, 56, 57, 58, 59, 60, 61, 62, 63, 64, 65] (by decide +kernel) (by decide +kernel)
set_option maxRecDepth 20000 in
theorem gX7_setLine_X7_held : GoodIn wsX7_setLine (wsV RX7 136 RX7 yX7_held wsX7_held) := goodIn_app (goodIn_of _ (by decide +kernel)) ggX7_setLine_X7_held
set_option maxRecDepth 20000 in
theorem ggX7_setLine_X7_saves : GoodIn wsX7_setLine wsX7_saves := goodIn_r _ [32, 33, 34, 35, 36, 6, 37, 50, 51, 52, 53, 54, 55, 56, 57, 58, 59, 60, 61, 62, 63, 64, 65] (by decide +kernel) (by decide +kernel)
set_option maxRecDepth 20000 in
theorem gX7_setLine_X7_saves : GoodIn wsX7_setLine (wsV RX7 157 RX7 yX7_saves wsX7_saves) := goodIn_app (goodIn_of _ (by decide +kernel)) ggX7_setLine_X7_saves
set_option maxRecDepth 20000 in
theorem ggX7_setLine_X7_sets : GoodIn wsX7_setLine wsX7_sets := goodIn_r _ [41, 2, 42, 43, 44, 6, 45, 46, 47, 48, 49, 50, 51, 52, 53, 54, 55, 56, 57, 58, 59, 60, 61, 62, 63, 64, 65] (by decide +kernel) (by decide +kernel)
set_option maxRecDepth 20000 in
theorem gX7_setLine_X7_sets : GoodIn wsX7_setLine (wsV RX7 203 RX7 yX7_sets wsX7_sets) := goodIn_app (goodIn_of _ (by decide +kernel)) ggX7_setLine_X7_sets
theorem dX7_setLine_0 : decode cX7_setLine 0 = .ok (.aload_n 0, 1) := by decide +kernel
theorem dX7_setLine_1 : decode cX7_setLine 1 = .ok (.iconst 0, 1) := by decide +kernel
theorem dX7_setLine_2 : decode cX7_setLine 2 = .ok (.putfield 40, 3) := by decide +kernel
theorem dX7_setLine_5 : decode cX7_setLine 5 = .ok (.aload_n 0, 1) := by decide +kernel
theorem dX7_setLine_6 : decode cX7_setLine 6 = .ok (.iload_n 1, 1) := by decide +kernel
theorem dX7_setLine_7 : decode cX7_setLine 7 = .ok (.invokevirtual 197, 3) := by decide +kernel
theorem dX7_setLine_10 : decode cX7_setLine 10 = .ok (.ifCond .eq 10, 3) := by decide +kernel
theorem dX7_setLine_13 : decode cX7_setLine 13 = .ok (.iload_n 2, 1) := by decide +kernel
theorem dX7_setLine_14 : decode cX7_setLine 14 = .ok (.invokestatic 200, 3) := by decide +kernel
theorem dX7_setLine_17 : decode cX7_setLine 17 = .ok (.ifCond .ne 9, 3) := by decide +kernel
theorem dX7_setLine_20 : decode cX7_setLine 20 = .ok (.aload_n 0, 1) := by decide +kernel
theorem dX7_setLine_21 : decode cX7_setLine 21 = .ok (.iconst 1, 1) := by decide +kernel
theorem dX7_setLine_22 : decode cX7_setLine 22 = .ok (.invokevirtual 154, 3) := by decide +kernel
theorem dX7_setLine_25 : decode cX7_setLine 25 = .ok (.ireturn, 1) := by decide +kernel
theorem dX7_setLine_26 : decode cX7_setLine 26 = .ok (.iload_n 3, 1) := by decide +kernel
theorem dX7_setLine_27 : decode cX7_setLine 27 = .ok (.iconst 0, 1) := by decide +kernel
theorem dX7_setLine_28 : decode cX7_setLine 28 = .ok (.bipush 6, 2) := by decide +kernel
theorem dX7_setLine_30 : decode cX7_setLine 30 = .ok (.invokestatic 51, 3) := by decide +kernel
theorem dX7_setLine_33 : decode cX7_setLine 33 = .ok (.ifCond .eq 13, 3) := by decide +kernel
theorem dX7_setLine_36 : decode cX7_setLine 36 = .ok (.iload 4, 2) := by decide +kernel
theorem dX7_setLine_38 : decode cX7_setLine 38 = .ok (.iload 5, 2) := by decide +kernel
theorem dX7_setLine_40 : decode cX7_setLine 40 = .ok (.invokestatic 151, 3) := by decide +kernel
theorem dX7_setLine_43 : decode cX7_setLine 43 = .ok (.ifCond .ne 9, 3) := by decide +kernel
theorem dX7_setLine_46 : decode cX7_setLine 46 = .ok (.aload_n 0, 1) := by decide +kernel
theorem dX7_setLine_47 : decode cX7_setLine 47 = .ok (.iconst 2, 1) := by decide +kernel
theorem dX7_setLine_48 : decode cX7_setLine 48 = .ok (.invokevirtual 154, 3) := by decide +kernel
theorem dX7_setLine_51 : decode cX7_setLine 51 = .ok (.ireturn, 1) := by decide +kernel
theorem dX7_setLine_52 : decode cX7_setLine 52 = .ok (.aload_n 0, 1) := by decide +kernel
theorem dX7_setLine_53 : decode cX7_setLine 53 = .ok (.iload_n 1, 1) := by decide +kernel
theorem dX7_setLine_54 : decode cX7_setLine 54 = .ok (.invokevirtual 136, 3) := by decide +kernel
theorem dX7_setLine_57 : decode cX7_setLine 57 = .ok (.ifCond .eq 9, 3) := by decide +kernel
theorem dX7_setLine_60 : decode cX7_setLine 60 = .ok (.aload_n 0, 1) := by decide +kernel
theorem dX7_setLine_61 : decode cX7_setLine 61 = .ok (.iconst 3, 1) := by decide +kernel
theorem dX7_setLine_62 : decode cX7_setLine 62 = .ok (.invokevirtual 154, 3) := by decide +kernel
theorem dX7_setLine_65 : decode cX7_setLine 65 = .ok (.ireturn, 1) := by decide +kernel
theorem dX7_setLine_66 : decode cX7_setLine 66 = .ok (.aload_n 0, 1) := by decide +kernel
theorem dX7_setLine_67 : decode cX7_setLine 67 = .ok (.aload_n 0, 1) := by decide +kernel
theorem dX7_setLine_68 : decode cX7_setLine 68 = .ok (.getfield 7, 3) := by decide +kernel
theorem dX7_setLine_71 : decode cX7_setLine 71 = .ok (.invokevirtual 157, 3) := by decide +kernel
theorem dX7_setLine_74 : decode cX7_setLine 74 = .ok (.aload_n 0, 1) := by decide +kernel
theorem dX7_setLine_75 : decode cX7_setLine 75 = .ok (.iload_n 1, 1) := by decide +kernel
theorem dX7_setLine_76 : decode cX7_setLine 76 = .ok (.iload_n 2, 1) := by decide +kernel
theorem dX7_setLine_77 : decode cX7_setLine 77 = .ok (.iload_n 3, 1) := by decide +kernel
theorem dX7_setLine_78 : decode cX7_setLine 78 = .ok (.iload 4, 2) := by decide +kernel
theorem dX7_setLine_80 : decode cX7_setLine 80 = .ok (.iload 5, 2) := by decide +kernel
theorem dX7_setLine_82 : decode cX7_setLine 82 = .ok (.invokevirtual 203, 3) := by decide +kernel
theorem dX7_setLine_85 : decode cX7_setLine 85 = .ok (.ireturn, 1) := by decide +kernel
set_option maxRecDepth 20000 in
theorem ggX7_passDays_X7_in : GoodIn wsX7_passDays wsX7_in := goodIn_r _ [6] (by decide +kernel) (by decide +kernel)
set_option maxRecDepth 20000 in
theorem gX7_passDays_X7_in : GoodIn wsX7_passDays (va_wsS RX7 51 yX7_in wsX7_in) := goodIn_app (goodIn_of _ (by decide +kernel)) ggX7_passDays_X7_in
set_option maxRecDepth 20000 in
theorem ggX7_passDays_X7_refuses : GoodIn wsX7_passDays wsX7_refuses := goodIn_r _ [10, 1, 116, 117, 118, 119, 120, 121, 122, 123, 124, 125, 126, 127, 128, 129, 130, 131] (by decide +kernel) (by decide +kernel)
set_option maxRecDepth 20000 in
theorem gX7_passDays_X7_refuses : GoodIn wsX7_passDays (wsV RX7 154 RX7 yX7_refuses wsX7_refuses) := goodIn_app (goodIn_of _ (by decide +kernel)) ggX7_passDays_X7_refuses
set_option maxRecDepth 20000 in
theorem ggX7_passDays_X7_saves : GoodIn wsX7_passDays wsX7_saves := goodIn_r _ [14, 15, 16, 17, 18, 5, 19, 116, 117, 118, 119, 120, 121, 122, 123, 124, 125, 126, 127, 128, 129, 130, 131] (by decide +kernel) (by decide +kernel)
set_option maxRecDepth 20000 in
theorem gX7_passDays_X7_saves : GoodIn wsX7_passDays (wsV RX7 157 RX7 yX7_saves wsX7_saves) := goodIn_app (goodIn_of _ (by decide +kernel)) ggX7_passDays_X7_saves
set_option maxRecDepth 20000 in
theorem ggX7_passDays_X7_passesMany_q1 : GoodIn wsX7_passDays ([Cond.code yX7_passesMany cX7_passesMany 4 (some .int)]) := goodIn_r _ [23] (by decide +kernel) (by decide +kernel)
set_option maxRecDepth 20000 in
theorem ggX7_passDays_X7_passesMany_q2 : GoodIn wsX7_passDays (wsX7_passesMany_r1) := goodIn_r _ [24, 25, 26, 5, 27, 2, 28, 29, 30, 31, 32, 33, 34, 35, 36, 37, 38, 39, 40, 41, 42, 43, 44, 45] (by decide +kernel) (by decide +kernel)
set_option maxRecDepth 20000 in
theorem ggX7_passDays_X7_passesMany_q3 : GoodIn wsX7_passDays (wsX7_passesMany_r2) := goodIn_r _ [46, 47, 48, 49, 50, 51, 52, 53, 54, 55, 56, 57, 58, 59, 60, 61, 62, 63, 64, 65, 66, 67, 68, 69] (by decide +kernel) (by decide +kernel)
set_option maxRecDepth 20000 in
theorem ggX7_passDays_X7_passesMany_q4 : GoodIn wsX7_passDays (wsX7_passesMany_r3) := goodIn_r _ [70, 71, 72, 73, 74, 75, 76, 77, 78, 3, 4, 6, 79, 80, 81, 82, 83, 84, 85, 86, 87, 88, 89, 90] (by decide +kernel) (by decide +kernel)
set_option maxRecDepth 20000 in
theorem ggX7_passDays_X7_passesMany_q5 : GoodIn wsX7_passDays (wsX7_passesMany_r4) := goodIn_r _ [91, 92, 93, 94, 95, 96, 97, 98, 99, 100, 101, 102, 103, 104, 105, 106, 107, 108, 109, 110, 111, 112, 113, 114] (by decide +kernel) (by decide +kernel)
set_option maxRecDepth 20000 in
theorem ggX7_passDays_X7_passesMany_q6 : GoodIn wsX7_passDays (wsX7_passesMany_r5) := goodIn_r _ [115] (by decide +kernel) (by decide +kernel)
set_option maxRecDepth 20000 in
theorem ggX7_passDays_X7_passesMany_q7 : GoodIn wsX7_passDays (wsX70) := goodIn_r _ [116, 117, 118, 119, 120, 121, 122, 123, 124, 125, 126, 127, 128, 129, 130, 131] (by decide +kernel) (by decide +kernel)
theorem ggX7_passDays_X7_passesMany : GoodIn wsX7_passDays wsX7_passesMany := (goodIn_app (a := [Cond.code yX7_passesMany cX7_passesMany 4 (some .int)]) ggX7_passDays_X7_passesMany_q1 (goodIn_app (goodIn_app ggX7_passDays_X7_passesMany_q2 (goodIn_app ggX7_passDays_X7_passesMany_q3 (goodIn_app ggX7_passDays_X7_passesMany_q4 (goodIn_app ggX7_passDays_X7_passesMany_q5 ggX7_passDays_X7_passesMany_q6)))) ggX7_passDays_X7_passesMany_q7))
set_option maxRecDepth 20000 in
theorem gX7_passDays_X7_passesMany : GoodIn wsX7_passDays (wsV RX7 206 RX7 yX7_passesMany wsX7_passesMany) := goodIn_app (goodIn_of _ (by decide +kernel)) ggX7_passDays_X7_passesMany
theorem dX7_passDays_0 : decode cX7_passDays 0 = .ok (.aload_n 0, 1) := by decide +kernel
theorem dX7_passDays_1 : decode cX7_passDays 1 = .ok (.iconst 0, 1) := by decide +kernel
theorem dX7_passDays_2 : decode cX7_passDays 2 = .ok (.putfield 40, 3) := by decide +kernel
theorem dX7_passDays_5 : decode cX7_passDays 5 = .ok (.iload_n 1, 1) := by decide +kernel
theorem dX7_passDays_6 : decode cX7_passDays 6 = .ok (.iconst 1, 1) := by decide +kernel
theorem dX7_passDays_7 : decode cX7_passDays 7 = .ok (.bipush 99, 2) := by decide +kernel
theorem dX7_passDays_9 : decode cX7_passDays 9 = .ok (.invokestatic 51, 3) := by decide +kernel
theorem dX7_passDays_12 : decode cX7_passDays 12 = .ok (.ifCond .ne 9, 3) := by decide +kernel
theorem dX7_passDays_15 : decode cX7_passDays 15 = .ok (.aload_n 0, 1) := by decide +kernel
theorem dX7_passDays_16 : decode cX7_passDays 16 = .ok (.iconst 1, 1) := by decide +kernel
theorem dX7_passDays_17 : decode cX7_passDays 17 = .ok (.invokevirtual 154, 3) := by decide +kernel
theorem dX7_passDays_20 : decode cX7_passDays 20 = .ok (.ireturn, 1) := by decide +kernel
theorem dX7_passDays_21 : decode cX7_passDays 21 = .ok (.aload_n 0, 1) := by decide +kernel
theorem dX7_passDays_22 : decode cX7_passDays 22 = .ok (.getfield 7, 3) := by decide +kernel
theorem dX7_passDays_25 : decode cX7_passDays 25 = .ok (.iconst 0, 1) := by decide +kernel
theorem dX7_passDays_26 : decode cX7_passDays 26 = .ok (.iaload, 1) := by decide +kernel
theorem dX7_passDays_27 : decode cX7_passDays 27 = .ok (.iload_n 1, 1) := by decide +kernel
theorem dX7_passDays_28 : decode cX7_passDays 28 = .ok (.iadd, 1) := by decide +kernel
theorem dX7_passDays_29 : decode cX7_passDays 29 = .ok (.sipush 9999, 3) := by decide +kernel
theorem dX7_passDays_32 : decode cX7_passDays 32 = .ok (.if_icmp .le 9, 3) := by decide +kernel
theorem dX7_passDays_35 : decode cX7_passDays 35 = .ok (.aload_n 0, 1) := by decide +kernel
theorem dX7_passDays_36 : decode cX7_passDays 36 = .ok (.iconst 2, 1) := by decide +kernel
theorem dX7_passDays_37 : decode cX7_passDays 37 = .ok (.invokevirtual 154, 3) := by decide +kernel
theorem dX7_passDays_40 : decode cX7_passDays 40 = .ok (.ireturn, 1) := by decide +kernel
theorem dX7_passDays_41 : decode cX7_passDays 41 = .ok (.aload_n 0, 1) := by decide +kernel
theorem dX7_passDays_42 : decode cX7_passDays 42 = .ok (.aload_n 0, 1) := by decide +kernel
theorem dX7_passDays_43 : decode cX7_passDays 43 = .ok (.getfield 7, 3) := by decide +kernel
theorem dX7_passDays_46 : decode cX7_passDays 46 = .ok (.invokevirtual 157, 3) := by decide +kernel
theorem dX7_passDays_49 : decode cX7_passDays 49 = .ok (.aload_n 0, 1) := by decide +kernel
theorem dX7_passDays_50 : decode cX7_passDays 50 = .ok (.iload_n 1, 1) := by decide +kernel
theorem dX7_passDays_51 : decode cX7_passDays 51 = .ok (.invokevirtual 206, 3) := by decide +kernel
theorem dX7_passDays_54 : decode cX7_passDays 54 = .ok (.ireturn, 1) := by decide +kernel
set_option maxRecDepth 20000 in
theorem ggX7_type_X7_refuses : GoodIn wsX7_type wsX7_refuses := goodIn_r _ [8, 1, 9, 10, 11, 12, 13, 14, 15, 16, 17, 18, 19, 20, 21, 22, 23, 24] (by decide +kernel) (by decide +kernel)
set_option maxRecDepth 20000 in
theorem gX7_type_X7_refuses : GoodIn wsX7_type (wsV RX7 154 RX7 yX7_refuses wsX7_refuses) := goodIn_app (goodIn_of _ (by decide +kernel)) ggX7_type_X7_refuses
theorem dX7_type_0 : decode cX7_type 0 = .ok (.aload_n 0, 1) := by decide +kernel
theorem dX7_type_1 : decode cX7_type 1 = .ok (.iconst 0, 1) := by decide +kernel
theorem dX7_type_2 : decode cX7_type 2 = .ok (.putfield 40, 3) := by decide +kernel
theorem dX7_type_5 : decode cX7_type 5 = .ok (.aload_n 0, 1) := by decide +kernel
theorem dX7_type_6 : decode cX7_type 6 = .ok (.getfield 209, 3) := by decide +kernel
theorem dX7_type_9 : decode cX7_type 9 = .ok (.bipush 80, 2) := by decide +kernel
theorem dX7_type_11 : decode cX7_type 11 = .ok (.if_icmp .ne 9, 3) := by decide +kernel
theorem dX7_type_14 : decode cX7_type 14 = .ok (.aload_n 0, 1) := by decide +kernel
theorem dX7_type_15 : decode cX7_type 15 = .ok (.iconst 1, 1) := by decide +kernel
theorem dX7_type_16 : decode cX7_type 16 = .ok (.invokevirtual 154, 3) := by decide +kernel
theorem dX7_type_19 : decode cX7_type 19 = .ok (.ireturn, 1) := by decide +kernel
theorem dX7_type_20 : decode cX7_type 20 = .ok (.aload_n 0, 1) := by decide +kernel
theorem dX7_type_21 : decode cX7_type 21 = .ok (.getfield 34, 3) := by decide +kernel
theorem dX7_type_24 : decode cX7_type 24 = .ok (.aload_n 0, 1) := by decide +kernel
theorem dX7_type_25 : decode cX7_type 25 = .ok (.getfield 209, 3) := by decide +kernel
theorem dX7_type_28 : decode cX7_type 28 = .ok (.iload_n 1, 1) := by decide +kernel
theorem dX7_type_29 : decode cX7_type 29 = .ok (.iastore, 1) := by decide +kernel
theorem dX7_type_30 : decode cX7_type 30 = .ok (.aload_n 0, 1) := by decide +kernel
theorem dX7_type_31 : decode cX7_type 31 = .ok (.dup, 1) := by decide +kernel
theorem dX7_type_32 : decode cX7_type 32 = .ok (.getfield 209, 3) := by decide +kernel
theorem dX7_type_35 : decode cX7_type 35 = .ok (.iconst 1, 1) := by decide +kernel
theorem dX7_type_36 : decode cX7_type 36 = .ok (.iadd, 1) := by decide +kernel
theorem dX7_type_37 : decode cX7_type 37 = .ok (.putfield 209, 3) := by decide +kernel
theorem dX7_type_40 : decode cX7_type 40 = .ok (.aload_n 0, 1) := by decide +kernel
theorem dX7_type_41 : decode cX7_type 41 = .ok (.getfield 209, 3) := by decide +kernel
theorem dX7_type_44 : decode cX7_type 44 = .ok (.ireturn, 1) := by decide +kernel
theorem dX7_clearLetter_0 : decode cX7_clearLetter 0 = .ok (.aload_n 0, 1) := by decide +kernel
theorem dX7_clearLetter_1 : decode cX7_clearLetter 1 = .ok (.iconst 0, 1) := by decide +kernel
theorem dX7_clearLetter_2 : decode cX7_clearLetter 2 = .ok (.putfield 40, 3) := by decide +kernel
theorem dX7_clearLetter_5 : decode cX7_clearLetter 5 = .ok (.aload_n 0, 1) := by decide +kernel
theorem dX7_clearLetter_6 : decode cX7_clearLetter 6 = .ok (.getfield 209, 3) := by decide +kernel
theorem dX7_clearLetter_9 : decode cX7_clearLetter 9 = .ok (.istore_n 1, 1) := by decide +kernel
theorem dX7_clearLetter_10 : decode cX7_clearLetter 10 = .ok (.aload_n 0, 1) := by decide +kernel
theorem dX7_clearLetter_11 : decode cX7_clearLetter 11 = .ok (.iconst 0, 1) := by decide +kernel
theorem dX7_clearLetter_12 : decode cX7_clearLetter 12 = .ok (.putfield 209, 3) := by decide +kernel
theorem dX7_clearLetter_15 : decode cX7_clearLetter 15 = .ok (.iload_n 1, 1) := by decide +kernel
theorem dX7_clearLetter_16 : decode cX7_clearLetter 16 = .ok (.ireturn, 1) := by decide +kernel
theorem dX7_takes_0 : decode cX7_takes 0 = .ok (.aload_n 0, 1) := by decide +kernel
theorem dX7_takes_1 : decode cX7_takes 1 = .ok (.getfield 212, 3) := by decide +kernel
theorem dX7_takes_4 : decode cX7_takes 4 = .ok (.aload_n 0, 1) := by decide +kernel
theorem dX7_takes_5 : decode cX7_takes 5 = .ok (.getfield 209, 3) := by decide +kernel
theorem dX7_takes_8 : decode cX7_takes 8 = .ok (.if_icmp .ge 20, 3) := by decide +kernel
theorem dX7_takes_11 : decode cX7_takes 11 = .ok (.aload_n 0, 1) := by decide +kernel
theorem dX7_takes_12 : decode cX7_takes 12 = .ok (.getfield 34, 3) := by decide +kernel
theorem dX7_takes_15 : decode cX7_takes 15 = .ok (.aload_n 0, 1) := by decide +kernel
theorem dX7_takes_16 : decode cX7_takes 16 = .ok (.getfield 212, 3) := by decide +kernel
theorem dX7_takes_19 : decode cX7_takes 19 = .ok (.iaload, 1) := by decide +kernel
theorem dX7_takes_20 : decode cX7_takes 20 = .ok (.iload_n 1, 1) := by decide +kernel
theorem dX7_takes_21 : decode cX7_takes 21 = .ok (.if_icmp .ne 7, 3) := by decide +kernel
theorem dX7_takes_24 : decode cX7_takes 24 = .ok (.iconst 1, 1) := by decide +kernel
theorem dX7_takes_25 : decode cX7_takes 25 = .ok (.goto 4, 3) := by decide +kernel
theorem dX7_takes_28 : decode cX7_takes 28 = .ok (.iconst 0, 1) := by decide +kernel
theorem dX7_takes_29 : decode cX7_takes 29 = .ok (.istore_n 2, 1) := by decide +kernel
theorem dX7_takes_30 : decode cX7_takes 30 = .ok (.aload_n 0, 1) := by decide +kernel
theorem dX7_takes_31 : decode cX7_takes 31 = .ok (.dup, 1) := by decide +kernel
theorem dX7_takes_32 : decode cX7_takes 32 = .ok (.getfield 212, 3) := by decide +kernel
theorem dX7_takes_35 : decode cX7_takes 35 = .ok (.iload_n 2, 1) := by decide +kernel
theorem dX7_takes_36 : decode cX7_takes 36 = .ok (.ifCond .eq 7, 3) := by decide +kernel
theorem dX7_takes_39 : decode cX7_takes 39 = .ok (.iconst 1, 1) := by decide +kernel
theorem dX7_takes_40 : decode cX7_takes 40 = .ok (.goto 4, 3) := by decide +kernel
theorem dX7_takes_43 : decode cX7_takes 43 = .ok (.iconst 0, 1) := by decide +kernel
theorem dX7_takes_44 : decode cX7_takes 44 = .ok (.iadd, 1) := by decide +kernel
theorem dX7_takes_45 : decode cX7_takes 45 = .ok (.putfield 212, 3) := by decide +kernel
theorem dX7_takes_48 : decode cX7_takes 48 = .ok (.iload_n 2, 1) := by decide +kernel
theorem dX7_takes_49 : decode cX7_takes 49 = .ok (.ireturn, 1) := by decide +kernel
theorem dX7_begins_0 : decode cX7_begins 0 = .ok (.iconst 0, 1) := by decide +kernel
theorem dX7_begins_1 : decode cX7_begins 1 = .ok (.istore_n 3, 1) := by decide +kernel
theorem dX7_begins_2 : decode cX7_begins 2 = .ok (.iload_n 0, 1) := by decide +kernel
theorem dX7_begins_3 : decode cX7_begins 3 = .ok (.istore 4, 2) := by decide +kernel
theorem dX7_begins_5 : decode cX7_begins 5 = .ok (.iload_n 0, 1) := by decide +kernel
theorem dX7_begins_6 : decode cX7_begins 6 = .ok (.istore 5, 2) := by decide +kernel
theorem dX7_begins_8 : decode cX7_begins 8 = .ok (.iconst 0, 1) := by decide +kernel
theorem dX7_begins_9 : decode cX7_begins 9 = .ok (.istore 6, 2) := by decide +kernel
theorem dX7_begins_11 : decode cX7_begins 11 = .ok (.iload 6, 2) := by decide +kernel
theorem dX7_begins_13 : decode cX7_begins 13 = .ok (.iconst 4, 1) := by decide +kernel
theorem dX7_begins_14 : decode cX7_begins 14 = .ok (.if_icmp .ge 48, 3) := by decide +kernel
theorem dX7_begins_17 : decode cX7_begins 17 = .ok (.iload_n 3, 1) := by decide +kernel
theorem dX7_begins_18 : decode cX7_begins 18 = .ok (.ifCond .ne 15, 3) := by decide +kernel
theorem dX7_begins_21 : decode cX7_begins 21 = .ok (.iload 4, 2) := by decide +kernel
theorem dX7_begins_23 : decode cX7_begins 23 = .ok (.iload_n 2, 1) := by decide +kernel
theorem dX7_begins_24 : decode cX7_begins 24 = .ok (.if_icmp .gt 13, 3) := by decide +kernel
theorem dX7_begins_27 : decode cX7_begins 27 = .ok (.iload 5, 2) := by decide +kernel
theorem dX7_begins_29 : decode cX7_begins 29 = .ok (.iload_n 1, 1) := by decide +kernel
theorem dX7_begins_30 : decode cX7_begins 30 = .ok (.if_icmp .lt 7, 3) := by decide +kernel
theorem dX7_begins_33 : decode cX7_begins 33 = .ok (.iconst 1, 1) := by decide +kernel
theorem dX7_begins_34 : decode cX7_begins 34 = .ok (.goto 4, 3) := by decide +kernel
theorem dX7_begins_37 : decode cX7_begins 37 = .ok (.iconst 0, 1) := by decide +kernel
theorem dX7_begins_38 : decode cX7_begins 38 = .ok (.istore_n 3, 1) := by decide +kernel
theorem dX7_begins_39 : decode cX7_begins 39 = .ok (.bipush 10, 2) := by decide +kernel
theorem dX7_begins_41 : decode cX7_begins 41 = .ok (.iload 4, 2) := by decide +kernel
theorem dX7_begins_43 : decode cX7_begins 43 = .ok (.imul, 1) := by decide +kernel
theorem dX7_begins_44 : decode cX7_begins 44 = .ok (.istore 4, 2) := by decide +kernel
theorem dX7_begins_46 : decode cX7_begins 46 = .ok (.bipush 10, 2) := by decide +kernel
theorem dX7_begins_48 : decode cX7_begins 48 = .ok (.iload 5, 2) := by decide +kernel
theorem dX7_begins_50 : decode cX7_begins 50 = .ok (.imul, 1) := by decide +kernel
theorem dX7_begins_51 : decode cX7_begins 51 = .ok (.bipush 9, 2) := by decide +kernel
theorem dX7_begins_53 : decode cX7_begins 53 = .ok (.iadd, 1) := by decide +kernel
theorem dX7_begins_54 : decode cX7_begins 54 = .ok (.istore 5, 2) := by decide +kernel
theorem dX7_begins_56 : decode cX7_begins 56 = .ok (.iinc 6 1, 3) := by decide +kernel
theorem dX7_begins_59 : decode cX7_begins 59 = .ok (.goto (-48), 3) := by decide +kernel
theorem dX7_begins_62 : decode cX7_begins 62 = .ok (.iload_n 0, 1) := by decide +kernel
theorem dX7_begins_63 : decode cX7_begins 63 = .ok (.ifCond .ne 15, 3) := by decide +kernel
theorem dX7_begins_66 : decode cX7_begins 66 = .ok (.iload_n 1, 1) := by decide +kernel
theorem dX7_begins_67 : decode cX7_begins 67 = .ok (.ifCond .ne 7, 3) := by decide +kernel
theorem dX7_begins_70 : decode cX7_begins 70 = .ok (.iconst 1, 1) := by decide +kernel
theorem dX7_begins_71 : decode cX7_begins 71 = .ok (.goto 8, 3) := by decide +kernel
theorem dX7_begins_74 : decode cX7_begins 74 = .ok (.iconst 0, 1) := by decide +kernel
theorem dX7_begins_75 : decode cX7_begins 75 = .ok (.goto 4, 3) := by decide +kernel
theorem dX7_begins_78 : decode cX7_begins 78 = .ok (.iload_n 3, 1) := by decide +kernel
theorem dX7_begins_79 : decode cX7_begins 79 = .ok (.ireturn, 1) := by decide +kernel
set_option maxRecDepth 20000 in
theorem ggX7_isNumber_X7_in : GoodIn wsX7_isNumber wsX7_in := goodIn_r _ [9] (by decide +kernel) (by decide +kernel)
set_option maxRecDepth 20000 in
theorem gX7_isNumber_X7_in : GoodIn wsX7_isNumber (va_wsS RX7 51 yX7_in wsX7_in) := goodIn_app (goodIn_of _ (by decide +kernel)) ggX7_isNumber_X7_in
set_option maxRecDepth 20000 in
theorem ggX7_isNumber_X7_begins : GoodIn wsX7_isNumber wsX7_begins := goodIn_r _ [12] (by decide +kernel) (by decide +kernel)
set_option maxRecDepth 20000 in
theorem gX7_isNumber_X7_begins : GoodIn wsX7_isNumber (va_wsS RX7 215 yX7_begins wsX7_begins) := goodIn_app (goodIn_of _ (by decide +kernel)) ggX7_isNumber_X7_begins
theorem dX7_isNumber_0 : decode cX7_isNumber 0 = .ok (.iconst 0, 1) := by decide +kernel
theorem dX7_isNumber_1 : decode cX7_isNumber 1 = .ok (.istore 4, 2) := by decide +kernel
theorem dX7_isNumber_3 : decode cX7_isNumber 3 = .ok (.iconst 0, 1) := by decide +kernel
theorem dX7_isNumber_4 : decode cX7_isNumber 4 = .ok (.istore 5, 2) := by decide +kernel
theorem dX7_isNumber_6 : decode cX7_isNumber 6 = .ok (.iconst 1, 1) := by decide +kernel
theorem dX7_isNumber_7 : decode cX7_isNumber 7 = .ok (.istore 6, 2) := by decide +kernel
theorem dX7_isNumber_9 : decode cX7_isNumber 9 = .ok (.iload 6, 2) := by decide +kernel
theorem dX7_isNumber_11 : decode cX7_isNumber 11 = .ok (.ifCond .eq 152, 3) := by decide +kernel
theorem dX7_isNumber_14 : decode cX7_isNumber 14 = .ok (.aload_n 0, 1) := by decide +kernel
theorem dX7_isNumber_15 : decode cX7_isNumber 15 = .ok (.getfield 212, 3) := by decide +kernel
theorem dX7_isNumber_18 : decode cX7_isNumber 18 = .ok (.aload_n 0, 1) := by decide +kernel
theorem dX7_isNumber_19 : decode cX7_isNumber 19 = .ok (.getfield 209, 3) := by decide +kernel
theorem dX7_isNumber_22 : decode cX7_isNumber 22 = .ok (.if_icmp .ge 36, 3) := by decide +kernel
theorem dX7_isNumber_25 : decode cX7_isNumber 25 = .ok (.aload_n 0, 1) := by decide +kernel
theorem dX7_isNumber_26 : decode cX7_isNumber 26 = .ok (.getfield 34, 3) := by decide +kernel
theorem dX7_isNumber_29 : decode cX7_isNumber 29 = .ok (.aload_n 0, 1) := by decide +kernel
theorem dX7_isNumber_30 : decode cX7_isNumber 30 = .ok (.getfield 212, 3) := by decide +kernel
theorem dX7_isNumber_33 : decode cX7_isNumber 33 = .ok (.iaload, 1) := by decide +kernel
theorem dX7_isNumber_34 : decode cX7_isNumber 34 = .ok (.bipush 48, 2) := by decide +kernel
theorem dX7_isNumber_36 : decode cX7_isNumber 36 = .ok (.bipush 57, 2) := by decide +kernel
theorem dX7_isNumber_38 : decode cX7_isNumber 38 = .ok (.invokestatic 51, 3) := by decide +kernel
theorem dX7_isNumber_41 : decode cX7_isNumber 41 = .ok (.ifCond .eq 17, 3) := by decide +kernel
theorem dX7_isNumber_44 : decode cX7_isNumber 44 = .ok (.iload 5, 2) := by decide +kernel
theorem dX7_isNumber_46 : decode cX7_isNumber 46 = .ok (.ifCond .eq 8, 3) := by decide +kernel
theorem dX7_isNumber_49 : decode cX7_isNumber 49 = .ok (.iload 4, 2) := by decide +kernel
theorem dX7_isNumber_51 : decode cX7_isNumber 51 = .ok (.ifCond .le 7, 3) := by decide +kernel
theorem dX7_isNumber_54 : decode cX7_isNumber 54 = .ok (.iconst 1, 1) := by decide +kernel
theorem dX7_isNumber_55 : decode cX7_isNumber 55 = .ok (.goto 4, 3) := by decide +kernel
theorem dX7_isNumber_58 : decode cX7_isNumber 58 = .ok (.iconst 0, 1) := by decide +kernel
theorem dX7_isNumber_59 : decode cX7_isNumber 59 = .ok (.istore 7, 2) := by decide +kernel
theorem dX7_isNumber_61 : decode cX7_isNumber 61 = .ok (.iload 7, 2) := by decide +kernel
theorem dX7_isNumber_63 : decode cX7_isNumber 63 = .ok (.ifCond .eq 24, 3) := by decide +kernel
theorem dX7_isNumber_66 : decode cX7_isNumber 66 = .ok (.bipush 10, 2) := by decide +kernel
theorem dX7_isNumber_68 : decode cX7_isNumber 68 = .ok (.iload 4, 2) := by decide +kernel
theorem dX7_isNumber_70 : decode cX7_isNumber 70 = .ok (.imul, 1) := by decide +kernel
theorem dX7_isNumber_71 : decode cX7_isNumber 71 = .ok (.aload_n 0, 1) := by decide +kernel
theorem dX7_isNumber_72 : decode cX7_isNumber 72 = .ok (.getfield 34, 3) := by decide +kernel
theorem dX7_isNumber_75 : decode cX7_isNumber 75 = .ok (.aload_n 0, 1) := by decide +kernel
theorem dX7_isNumber_76 : decode cX7_isNumber 76 = .ok (.getfield 212, 3) := by decide +kernel
theorem dX7_isNumber_79 : decode cX7_isNumber 79 = .ok (.iaload, 1) := by decide +kernel
theorem dX7_isNumber_80 : decode cX7_isNumber 80 = .ok (.iadd, 1) := by decide +kernel
theorem dX7_isNumber_81 : decode cX7_isNumber 81 = .ok (.bipush 48, 2) := by decide +kernel
theorem dX7_isNumber_83 : decode cX7_isNumber 83 = .ok (.isub, 1) := by decide +kernel
theorem dX7_isNumber_84 : decode cX7_isNumber 84 = .ok (.goto 4, 3) := by decide +kernel
theorem dX7_isNumber_87 : decode cX7_isNumber 87 = .ok (.iconst 0, 1) := by decide +kernel
theorem dX7_isNumber_88 : decode cX7_isNumber 88 = .ok (.istore 8, 2) := by decide +kernel
theorem dX7_isNumber_90 : decode cX7_isNumber 90 = .ok (.iload 7, 2) := by decide +kernel
theorem dX7_isNumber_92 : decode cX7_isNumber 92 = .ok (.ifCond .eq 17, 3) := by decide +kernel
theorem dX7_isNumber_95 : decode cX7_isNumber 95 = .ok (.iload 8, 2) := by decide +kernel
theorem dX7_isNumber_97 : decode cX7_isNumber 97 = .ok (.iload_n 2, 1) := by decide +kernel
theorem dX7_isNumber_98 : decode cX7_isNumber 98 = .ok (.iload_n 3, 1) := by decide +kernel
theorem dX7_isNumber_99 : decode cX7_isNumber 99 = .ok (.invokestatic 215, 3) := by decide +kernel
theorem dX7_isNumber_102 : decode cX7_isNumber 102 = .ok (.ifCond .eq 7, 3) := by decide +kernel
theorem dX7_isNumber_105 : decode cX7_isNumber 105 = .ok (.iconst 1, 1) := by decide +kernel
theorem dX7_isNumber_106 : decode cX7_isNumber 106 = .ok (.goto 4, 3) := by decide +kernel
theorem dX7_isNumber_109 : decode cX7_isNumber 109 = .ok (.iconst 0, 1) := by decide +kernel
theorem dX7_isNumber_110 : decode cX7_isNumber 110 = .ok (.istore 6, 2) := by decide +kernel
theorem dX7_isNumber_112 : decode cX7_isNumber 112 = .ok (.iload 6, 2) := by decide +kernel
theorem dX7_isNumber_114 : decode cX7_isNumber 114 = .ok (.ifCond .eq 8, 3) := by decide +kernel
theorem dX7_isNumber_117 : decode cX7_isNumber 117 = .ok (.iload 8, 2) := by decide +kernel
theorem dX7_isNumber_119 : decode cX7_isNumber 119 = .ok (.goto 5, 3) := by decide +kernel
theorem dX7_isNumber_122 : decode cX7_isNumber 122 = .ok (.iload 4, 2) := by decide +kernel
theorem dX7_isNumber_124 : decode cX7_isNumber 124 = .ok (.istore 4, 2) := by decide +kernel
theorem dX7_isNumber_126 : decode cX7_isNumber 126 = .ok (.iload 5, 2) := by decide +kernel
theorem dX7_isNumber_128 : decode cX7_isNumber 128 = .ok (.iload 6, 2) := by decide +kernel
theorem dX7_isNumber_130 : decode cX7_isNumber 130 = .ok (.ifCond .eq 7, 3) := by decide +kernel
theorem dX7_isNumber_133 : decode cX7_isNumber 133 = .ok (.iconst 1, 1) := by decide +kernel
theorem dX7_isNumber_134 : decode cX7_isNumber 134 = .ok (.goto 4, 3) := by decide +kernel
theorem dX7_isNumber_137 : decode cX7_isNumber 137 = .ok (.iconst 0, 1) := by decide +kernel
theorem dX7_isNumber_138 : decode cX7_isNumber 138 = .ok (.iadd, 1) := by decide +kernel
theorem dX7_isNumber_139 : decode cX7_isNumber 139 = .ok (.istore 5, 2) := by decide +kernel
theorem dX7_isNumber_141 : decode cX7_isNumber 141 = .ok (.aload_n 0, 1) := by decide +kernel
theorem dX7_isNumber_142 : decode cX7_isNumber 142 = .ok (.dup, 1) := by decide +kernel
theorem dX7_isNumber_143 : decode cX7_isNumber 143 = .ok (.getfield 212, 3) := by decide +kernel
theorem dX7_isNumber_146 : decode cX7_isNumber 146 = .ok (.iload 6, 2) := by decide +kernel
theorem dX7_isNumber_148 : decode cX7_isNumber 148 = .ok (.ifCond .eq 7, 3) := by decide +kernel
theorem dX7_isNumber_151 : decode cX7_isNumber 151 = .ok (.iconst 1, 1) := by decide +kernel
theorem dX7_isNumber_152 : decode cX7_isNumber 152 = .ok (.goto 4, 3) := by decide +kernel
theorem dX7_isNumber_155 : decode cX7_isNumber 155 = .ok (.iconst 0, 1) := by decide +kernel
theorem dX7_isNumber_156 : decode cX7_isNumber 156 = .ok (.iadd, 1) := by decide +kernel
theorem dX7_isNumber_157 : decode cX7_isNumber 157 = .ok (.putfield 212, 3) := by decide +kernel
theorem dX7_isNumber_160 : decode cX7_isNumber 160 = .ok (.goto (-151), 3) := by decide +kernel
theorem dX7_isNumber_163 : decode cX7_isNumber 163 = .ok (.aload_n 0, 1) := by decide +kernel
theorem dX7_isNumber_164 : decode cX7_isNumber 164 = .ok (.getfield 37, 3) := by decide +kernel
theorem dX7_isNumber_167 : decode cX7_isNumber 167 = .ok (.bipush 6, 2) := by decide +kernel
theorem dX7_isNumber_169 : decode cX7_isNumber 169 = .ok (.aload_n 0, 1) := by decide +kernel
theorem dX7_isNumber_170 : decode cX7_isNumber 170 = .ok (.getfield 218, 3) := by decide +kernel
theorem dX7_isNumber_173 : decode cX7_isNumber 173 = .ok (.imul, 1) := by decide +kernel
theorem dX7_isNumber_174 : decode cX7_isNumber 174 = .ok (.iload_n 1, 1) := by decide +kernel
theorem dX7_isNumber_175 : decode cX7_isNumber 175 = .ok (.iadd, 1) := by decide +kernel
theorem dX7_isNumber_176 : decode cX7_isNumber 176 = .ok (.iload 4, 2) := by decide +kernel
theorem dX7_isNumber_178 : decode cX7_isNumber 178 = .ok (.iastore, 1) := by decide +kernel
theorem dX7_isNumber_179 : decode cX7_isNumber 179 = .ok (.iload 5, 2) := by decide +kernel
theorem dX7_isNumber_181 : decode cX7_isNumber 181 = .ok (.ifCond .le 17, 3) := by decide +kernel
theorem dX7_isNumber_184 : decode cX7_isNumber 184 = .ok (.iload 4, 2) := by decide +kernel
theorem dX7_isNumber_186 : decode cX7_isNumber 186 = .ok (.iload_n 2, 1) := by decide +kernel
theorem dX7_isNumber_187 : decode cX7_isNumber 187 = .ok (.iload_n 3, 1) := by decide +kernel
theorem dX7_isNumber_188 : decode cX7_isNumber 188 = .ok (.invokestatic 51, 3) := by decide +kernel
theorem dX7_isNumber_191 : decode cX7_isNumber 191 = .ok (.ifCond .eq 7, 3) := by decide +kernel
theorem dX7_isNumber_194 : decode cX7_isNumber 194 = .ok (.iconst 1, 1) := by decide +kernel
theorem dX7_isNumber_195 : decode cX7_isNumber 195 = .ok (.goto 4, 3) := by decide +kernel
theorem dX7_isNumber_198 : decode cX7_isNumber 198 = .ok (.iconst 0, 1) := by decide +kernel
theorem dX7_isNumber_199 : decode cX7_isNumber 199 = .ok (.ireturn, 1) := by decide +kernel
set_option maxRecDepth 20000 in
theorem ggX7_areTold_X7_takes : GoodIn wsX7_areTold wsX7_takes := goodIn_r _ [5, 6, 7, 8, 21, 22, 23, 24, 25, 26, 27, 28, 29, 30, 31, 32, 33, 34, 35, 36] (by decide +kernel) (by decide +kernel)
set_option maxRecDepth 20000 in
theorem gX7_areTold_X7_takes : GoodIn wsX7_areTold (wsV RX7 221 RX7 yX7_takes wsX7_takes) := goodIn_app (goodIn_of _ (by decide +kernel)) ggX7_areTold_X7_takes
set_option maxRecDepth 20000 in
theorem ggX7_areTold_X7_isNumber : GoodIn wsX7_areTold wsX7_isNumber := goodIn_r _ [12, 6, 7, 8, 13, 14, 15, 16, 4, 17, 18, 19, 20, 21, 22, 23, 24, 25, 26, 27, 28, 29, 30, 31, 32, 33, 34, 35, 36] (by decide +kernel) (by decide +kernel)
set_option maxRecDepth 20000 in
theorem gX7_areTold_X7_isNumber : GoodIn wsX7_areTold (wsV RX7 224 RX7 yX7_isNumber wsX7_isNumber) := goodIn_app (goodIn_of _ (by decide +kernel)) ggX7_areTold_X7_isNumber
theorem dX7_areTold_0 : decode cX7_areTold 0 = .ok (.aload_n 0, 1) := by decide +kernel
theorem dX7_areTold_1 : decode cX7_areTold 1 = .ok (.bipush 114, 2) := by decide +kernel
theorem dX7_areTold_3 : decode cX7_areTold 3 = .ok (.invokevirtual 221, 3) := by decide +kernel
theorem dX7_areTold_6 : decode cX7_areTold 6 = .ok (.ifCond .eq 40, 3) := by decide +kernel
theorem dX7_areTold_9 : decode cX7_areTold 9 = .ok (.aload_n 0, 1) := by decide +kernel
theorem dX7_areTold_10 : decode cX7_areTold 10 = .ok (.iload_n 1, 1) := by decide +kernel
theorem dX7_areTold_11 : decode cX7_areTold 11 = .ok (.iconst 0, 1) := by decide +kernel
theorem dX7_areTold_12 : decode cX7_areTold 12 = .ok (.bipush 48, 2) := by decide +kernel
theorem dX7_areTold_14 : decode cX7_areTold 14 = .ok (.invokevirtual 224, 3) := by decide +kernel
theorem dX7_areTold_17 : decode cX7_areTold 17 = .ok (.ifCond .eq 29, 3) := by decide +kernel
theorem dX7_areTold_20 : decode cX7_areTold 20 = .ok (.aload_n 0, 1) := by decide +kernel
theorem dX7_areTold_21 : decode cX7_areTold 21 = .ok (.bipush 45, 2) := by decide +kernel
theorem dX7_areTold_23 : decode cX7_areTold 23 = .ok (.invokevirtual 221, 3) := by decide +kernel
theorem dX7_areTold_26 : decode cX7_areTold 26 = .ok (.ifCond .eq 20, 3) := by decide +kernel
theorem dX7_areTold_29 : decode cX7_areTold 29 = .ok (.aload_n 0, 1) := by decide +kernel
theorem dX7_areTold_30 : decode cX7_areTold 30 = .ok (.iload_n 1, 1) := by decide +kernel
theorem dX7_areTold_31 : decode cX7_areTold 31 = .ok (.iconst 1, 1) := by decide +kernel
theorem dX7_areTold_32 : decode cX7_areTold 32 = .ok (.iadd, 1) := by decide +kernel
theorem dX7_areTold_33 : decode cX7_areTold 33 = .ok (.iconst 0, 1) := by decide +kernel
theorem dX7_areTold_34 : decode cX7_areTold 34 = .ok (.bipush 48, 2) := by decide +kernel
theorem dX7_areTold_36 : decode cX7_areTold 36 = .ok (.invokevirtual 224, 3) := by decide +kernel
theorem dX7_areTold_39 : decode cX7_areTold 39 = .ok (.ifCond .eq 7, 3) := by decide +kernel
theorem dX7_areTold_42 : decode cX7_areTold 42 = .ok (.iconst 1, 1) := by decide +kernel
theorem dX7_areTold_43 : decode cX7_areTold 43 = .ok (.goto 4, 3) := by decide +kernel
theorem dX7_areTold_46 : decode cX7_areTold 46 = .ok (.iconst 0, 1) := by decide +kernel
theorem dX7_areTold_47 : decode cX7_areTold 47 = .ok (.ireturn, 1) := by decide +kernel
set_option maxRecDepth 20000 in
theorem ggX7_isSingerTold_X7_isNumber : GoodIn wsX7_isSingerTold wsX7_isNumber := goodIn_r _ [5, 6, 7, 8, 9, 10, 11, 12, 4, 13, 14, 15, 16, 25, 26, 27, 28, 29, 30, 31, 32, 33, 34, 35, 36, 37, 38, 39, 40] (by decide +kernel) (by decide +kernel)
set_option maxRecDepth 20000 in
theorem gX7_isSingerTold_X7_isNumber : GoodIn wsX7_isSingerTold (wsV RX7 224 RX7 yX7_isNumber wsX7_isNumber) := goodIn_app (goodIn_of _ (by decide +kernel)) ggX7_isSingerTold_X7_isNumber
set_option maxRecDepth 20000 in
theorem ggX7_isSingerTold_X7_takes : GoodIn wsX7_isSingerTold wsX7_takes := goodIn_r _ [20, 6, 7, 8, 25, 26, 27, 28, 29, 30, 31, 32, 33, 34, 35, 36, 37, 38, 39, 40] (by decide +kernel) (by decide +kernel)
set_option maxRecDepth 20000 in
theorem gX7_isSingerTold_X7_takes : GoodIn wsX7_isSingerTold (wsV RX7 221 RX7 yX7_takes wsX7_takes) := goodIn_app (goodIn_of _ (by decide +kernel)) ggX7_isSingerTold_X7_takes
set_option maxRecDepth 20000 in
theorem ggX7_isSingerTold_X7_areTold : GoodIn wsX7_isSingerTold wsX7_areTold := goodIn_r _ [24, 17, 18, 19, 4, 20, 6, 7, 8, 1, 2, 3, 5, 9, 10, 11, 12, 13, 14, 15, 16, 25, 26, 27, 28, 29, 30, 31, 32, 33, 34, 35, 36, 37, 38, 39, 40] (by decide +kernel) (by decide +kernel)
set_option maxRecDepth 20000 in
theorem gX7_isSingerTold_X7_areTold : GoodIn wsX7_isSingerTold (wsV RX7 227 RX7 yX7_areTold wsX7_areTold) := goodIn_app (goodIn_of _ (by decide +kernel)) ggX7_isSingerTold_X7_areTold
theorem dX7_isSingerTold_0 : decode cX7_isSingerTold 0 = .ok (.aload_n 0, 1) := by decide +kernel
theorem dX7_isSingerTold_1 : decode cX7_isSingerTold 1 = .ok (.iconst 3, 1) := by decide +kernel
theorem dX7_isSingerTold_2 : decode cX7_isSingerTold 2 = .ok (.bipush 7, 2) := by decide +kernel
theorem dX7_isSingerTold_4 : decode cX7_isSingerTold 4 = .ok (.bipush 70, 2) := by decide +kernel
theorem dX7_isSingerTold_6 : decode cX7_isSingerTold 6 = .ok (.invokevirtual 224, 3) := by decide +kernel
theorem dX7_isSingerTold_9 : decode cX7_isSingerTold 9 = .ok (.ifCond .eq 58, 3) := by decide +kernel
theorem dX7_isSingerTold_12 : decode cX7_isSingerTold 12 = .ok (.aload_n 0, 1) := by decide +kernel
theorem dX7_isSingerTold_13 : decode cX7_isSingerTold 13 = .ok (.bipush 104, 2) := by decide +kernel
theorem dX7_isSingerTold_15 : decode cX7_isSingerTold 15 = .ok (.invokevirtual 221, 3) := by decide +kernel
theorem dX7_isSingerTold_18 : decode cX7_isSingerTold 18 = .ok (.ifCond .eq 49, 3) := by decide +kernel
theorem dX7_isSingerTold_21 : decode cX7_isSingerTold 21 = .ok (.aload_n 0, 1) := by decide +kernel
theorem dX7_isSingerTold_22 : decode cX7_isSingerTold 22 = .ok (.iconst 4, 1) := by decide +kernel
theorem dX7_isSingerTold_23 : decode cX7_isSingerTold 23 = .ok (.bipush 90, 2) := by decide +kernel
theorem dX7_isSingerTold_25 : decode cX7_isSingerTold 25 = .ok (.sipush 210, 3) := by decide +kernel
theorem dX7_isSingerTold_28 : decode cX7_isSingerTold 28 = .ok (.invokevirtual 224, 3) := by decide +kernel
theorem dX7_isSingerTold_31 : decode cX7_isSingerTold 31 = .ok (.ifCond .eq 36, 3) := by decide +kernel
theorem dX7_isSingerTold_34 : decode cX7_isSingerTold 34 = .ok (.aload_n 0, 1) := by decide +kernel
theorem dX7_isSingerTold_35 : decode cX7_isSingerTold 35 = .ok (.iconst 1, 1) := by decide +kernel
theorem dX7_isSingerTold_36 : decode cX7_isSingerTold 36 = .ok (.invokevirtual 227, 3) := by decide +kernel
theorem dX7_isSingerTold_39 : decode cX7_isSingerTold 39 = .ok (.ifCond .eq 28, 3) := by decide +kernel
theorem dX7_isSingerTold_42 : decode cX7_isSingerTold 42 = .ok (.aload_n 0, 1) := by decide +kernel
theorem dX7_isSingerTold_43 : decode cX7_isSingerTold 43 = .ok (.bipush 98, 2) := by decide +kernel
theorem dX7_isSingerTold_45 : decode cX7_isSingerTold 45 = .ok (.invokevirtual 221, 3) := by decide +kernel
theorem dX7_isSingerTold_48 : decode cX7_isSingerTold 48 = .ok (.ifCond .eq 15, 3) := by decide +kernel
theorem dX7_isSingerTold_51 : decode cX7_isSingerTold 51 = .ok (.aload_n 0, 1) := by decide +kernel
theorem dX7_isSingerTold_52 : decode cX7_isSingerTold 52 = .ok (.iconst 5, 1) := by decide +kernel
theorem dX7_isSingerTold_53 : decode cX7_isSingerTold 53 = .ok (.bipush 12, 2) := by decide +kernel
theorem dX7_isSingerTold_55 : decode cX7_isSingerTold 55 = .ok (.bipush 17, 2) := by decide +kernel
theorem dX7_isSingerTold_57 : decode cX7_isSingerTold 57 = .ok (.invokevirtual 224, 3) := by decide +kernel
theorem dX7_isSingerTold_60 : decode cX7_isSingerTold 60 = .ok (.ifCond .eq 7, 3) := by decide +kernel
theorem dX7_isSingerTold_63 : decode cX7_isSingerTold 63 = .ok (.iconst 1, 1) := by decide +kernel
theorem dX7_isSingerTold_64 : decode cX7_isSingerTold 64 = .ok (.goto 4, 3) := by decide +kernel
theorem dX7_isSingerTold_67 : decode cX7_isSingerTold 67 = .ok (.iconst 0, 1) := by decide +kernel
theorem dX7_isSingerTold_68 : decode cX7_isSingerTold 68 = .ok (.ireturn, 1) := by decide +kernel
set_option maxRecDepth 20000 in
theorem ggX7_isOrder_X7_isSingerTold : GoodIn wsX7_isOrder wsX7_isSingerTold := goodIn_r _ [10, 11, 12, 13, 9, 14, 1, 2, 3, 4, 5, 15, 16, 17, 18, 19, 20, 21, 22, 23, 24, 25, 26, 27, 28, 29, 30, 31, 32, 33, 34, 35, 36, 37, 38, 39, 40, 41, 42, 43, 44] (by decide +kernel) (by decide +kernel)
set_option maxRecDepth 20000 in
theorem gX7_isOrder_X7_isSingerTold : GoodIn wsX7_isOrder (wsV RX7 230 RX7 yX7_isSingerTold wsX7_isSingerTold) := goodIn_app (goodIn_of _ (by decide +kernel)) ggX7_isOrder_X7_isSingerTold
set_option maxRecDepth 20000 in
theorem ggX7_isOrder_X7_isNumber : GoodIn wsX7_isOrder wsX7_isNumber := goodIn_r _ [14, 1, 2, 3, 4, 5, 15, 16, 9, 17, 18, 19, 20, 29, 30, 31, 32, 33, 34, 35, 36, 37, 38, 39, 40, 41, 42, 43, 44] (by decide +kernel) (by decide +kernel)
set_option maxRecDepth 20000 in
theorem gX7_isOrder_X7_isNumber : GoodIn wsX7_isOrder (wsV RX7 224 RX7 yX7_isNumber wsX7_isNumber) := goodIn_app (goodIn_of _ (by decide +kernel)) ggX7_isOrder_X7_isNumber
set_option maxRecDepth 20000 in
theorem ggX7_isOrder_X7_takes : GoodIn wsX7_isOrder wsX7_takes := goodIn_r _ [24, 1, 2, 3, 29, 30, 31, 32, 33, 34, 35, 36, 37, 38, 39, 40, 41, 42, 43, 44] (by decide +kernel) (by decide +kernel)
set_option maxRecDepth 20000 in
theorem gX7_isOrder_X7_takes : GoodIn wsX7_isOrder (wsV RX7 221 RX7 yX7_takes wsX7_takes) := goodIn_app (goodIn_of _ (by decide +kernel)) ggX7_isOrder_X7_takes
set_option maxRecDepth 20000 in
theorem ggX7_isOrder_X7_areTold : GoodIn wsX7_isOrder wsX7_areTold := goodIn_r _ [28, 21, 22, 23, 9, 24, 1, 2, 3, 11, 12, 13, 14, 4, 5, 15, 16, 17, 18, 19, 20, 29, 30, 31, 32, 33, 34, 35, 36, 37, 38, 39, 40, 41, 42, 43, 44] (by decide +kernel) (by decide +kernel)
set_option maxRecDepth 20000 in
theorem gX7_isOrder_X7_areTold : GoodIn wsX7_isOrder (wsV RX7 227 RX7 yX7_areTold wsX7_areTold) := goodIn_app (goodIn_of _ (by decide +kernel)) ggX7_isOrder_X7_areTold
theorem dX7_isOrder_0 : decode cX7_isOrder 0 = .ok (.aload_n 0, 1) := by decide +kernel
theorem dX7_isOrder_1 : decode cX7_isOrder 1 = .ok (.getfield 212, 3) := by decide +kernel
theorem dX7_isOrder_4 : decode cX7_isOrder 4 = .ok (.aload_n 0, 1) := by decide +kernel
theorem dX7_isOrder_5 : decode cX7_isOrder 5 = .ok (.getfield 209, 3) := by decide +kernel
theorem dX7_isOrder_8 : decode cX7_isOrder 8 = .ok (.if_icmp .ne 5, 3) := by decide +kernel
theorem dX7_isOrder_11 : decode cX7_isOrder 11 = .ok (.iconst 0, 1) := by decide +kernel
theorem dX7_isOrder_12 : decode cX7_isOrder 12 = .ok (.ireturn, 1) := by decide +kernel
theorem dX7_isOrder_13 : decode cX7_isOrder 13 = .ok (.aload_n 0, 1) := by decide +kernel
theorem dX7_isOrder_14 : decode cX7_isOrder 14 = .ok (.getfield 34, 3) := by decide +kernel
theorem dX7_isOrder_17 : decode cX7_isOrder 17 = .ok (.aload_n 0, 1) := by decide +kernel
theorem dX7_isOrder_18 : decode cX7_isOrder 18 = .ok (.getfield 212, 3) := by decide +kernel
theorem dX7_isOrder_21 : decode cX7_isOrder 21 = .ok (.iaload, 1) := by decide +kernel
theorem dX7_isOrder_22 : decode cX7_isOrder 22 = .ok (.istore_n 1, 1) := by decide +kernel
theorem dX7_isOrder_23 : decode cX7_isOrder 23 = .ok (.aload_n 0, 1) := by decide +kernel
theorem dX7_isOrder_24 : decode cX7_isOrder 24 = .ok (.getfield 37, 3) := by decide +kernel
theorem dX7_isOrder_27 : decode cX7_isOrder 27 = .ok (.bipush 6, 2) := by decide +kernel
theorem dX7_isOrder_29 : decode cX7_isOrder 29 = .ok (.aload_n 0, 1) := by decide +kernel
theorem dX7_isOrder_30 : decode cX7_isOrder 30 = .ok (.getfield 218, 3) := by decide +kernel
theorem dX7_isOrder_33 : decode cX7_isOrder 33 = .ok (.imul, 1) := by decide +kernel
theorem dX7_isOrder_34 : decode cX7_isOrder 34 = .ok (.iload_n 1, 1) := by decide +kernel
theorem dX7_isOrder_35 : decode cX7_isOrder 35 = .ok (.iastore, 1) := by decide +kernel
theorem dX7_isOrder_36 : decode cX7_isOrder 36 = .ok (.aload_n 0, 1) := by decide +kernel
theorem dX7_isOrder_37 : decode cX7_isOrder 37 = .ok (.getfield 37, 3) := by decide +kernel
theorem dX7_isOrder_40 : decode cX7_isOrder 40 = .ok (.bipush 6, 2) := by decide +kernel
theorem dX7_isOrder_42 : decode cX7_isOrder 42 = .ok (.aload_n 0, 1) := by decide +kernel
theorem dX7_isOrder_43 : decode cX7_isOrder 43 = .ok (.getfield 218, 3) := by decide +kernel
theorem dX7_isOrder_46 : decode cX7_isOrder 46 = .ok (.imul, 1) := by decide +kernel
theorem dX7_isOrder_47 : decode cX7_isOrder 47 = .ok (.iconst 5, 1) := by decide +kernel
theorem dX7_isOrder_48 : decode cX7_isOrder 48 = .ok (.iadd, 1) := by decide +kernel
theorem dX7_isOrder_49 : decode cX7_isOrder 49 = .ok (.iconst 0, 1) := by decide +kernel
theorem dX7_isOrder_50 : decode cX7_isOrder 50 = .ok (.iastore, 1) := by decide +kernel
theorem dX7_isOrder_51 : decode cX7_isOrder 51 = .ok (.aload_n 0, 1) := by decide +kernel
theorem dX7_isOrder_52 : decode cX7_isOrder 52 = .ok (.dup, 1) := by decide +kernel
theorem dX7_isOrder_53 : decode cX7_isOrder 53 = .ok (.getfield 212, 3) := by decide +kernel
theorem dX7_isOrder_56 : decode cX7_isOrder 56 = .ok (.iconst 1, 1) := by decide +kernel
theorem dX7_isOrder_57 : decode cX7_isOrder 57 = .ok (.iadd, 1) := by decide +kernel
theorem dX7_isOrder_58 : decode cX7_isOrder 58 = .ok (.putfield 212, 3) := by decide +kernel
theorem dX7_isOrder_61 : decode cX7_isOrder 61 = .ok (.iload_n 1, 1) := by decide +kernel
theorem dX7_isOrder_62 : decode cX7_isOrder 62 = .ok (.tableswitch 329 102 120 #[95, 329, 329, 329, 90, 329, 132, 329, 196, 255, 329, 329, 329, 329, 320, 329, 329, 329, 311], 90) := by decide +kernel
theorem dX7_isOrder_152 : decode cX7_isOrder 152 = .ok (.aload_n 0, 1) := by decide +kernel
theorem dX7_isOrder_153 : decode cX7_isOrder 153 = .ok (.invokevirtual 230, 3) := by decide +kernel
theorem dX7_isOrder_156 : decode cX7_isOrder 156 = .ok (.ireturn, 1) := by decide +kernel
theorem dX7_isOrder_157 : decode cX7_isOrder 157 = .ok (.aload_n 0, 1) := by decide +kernel
theorem dX7_isOrder_158 : decode cX7_isOrder 158 = .ok (.iconst 1, 1) := by decide +kernel
theorem dX7_isOrder_159 : decode cX7_isOrder 159 = .ok (.iconst 1, 1) := by decide +kernel
theorem dX7_isOrder_160 : decode cX7_isOrder 160 = .ok (.sipush 9999, 3) := by decide +kernel
theorem dX7_isOrder_163 : decode cX7_isOrder 163 = .ok (.invokevirtual 224, 3) := by decide +kernel
theorem dX7_isOrder_166 : decode cX7_isOrder 166 = .ok (.ifCond .eq 26, 3) := by decide +kernel
theorem dX7_isOrder_169 : decode cX7_isOrder 169 = .ok (.aload_n 0, 1) := by decide +kernel
theorem dX7_isOrder_170 : decode cX7_isOrder 170 = .ok (.bipush 42, 2) := by decide +kernel
theorem dX7_isOrder_172 : decode cX7_isOrder 172 = .ok (.invokevirtual 221, 3) := by decide +kernel
theorem dX7_isOrder_175 : decode cX7_isOrder 175 = .ok (.ifCond .eq 17, 3) := by decide +kernel
theorem dX7_isOrder_178 : decode cX7_isOrder 178 = .ok (.aload_n 0, 1) := by decide +kernel
theorem dX7_isOrder_179 : decode cX7_isOrder 179 = .ok (.iconst 2, 1) := by decide +kernel
theorem dX7_isOrder_180 : decode cX7_isOrder 180 = .ok (.iconst 1, 1) := by decide +kernel
theorem dX7_isOrder_181 : decode cX7_isOrder 181 = .ok (.iconst 3, 1) := by decide +kernel
theorem dX7_isOrder_182 : decode cX7_isOrder 182 = .ok (.invokevirtual 224, 3) := by decide +kernel
theorem dX7_isOrder_185 : decode cX7_isOrder 185 = .ok (.ifCond .eq 7, 3) := by decide +kernel
theorem dX7_isOrder_188 : decode cX7_isOrder 188 = .ok (.iconst 1, 1) := by decide +kernel
theorem dX7_isOrder_189 : decode cX7_isOrder 189 = .ok (.goto 4, 3) := by decide +kernel
theorem dX7_isOrder_192 : decode cX7_isOrder 192 = .ok (.iconst 0, 1) := by decide +kernel
theorem dX7_isOrder_193 : decode cX7_isOrder 193 = .ok (.ireturn, 1) := by decide +kernel
theorem dX7_isOrder_194 : decode cX7_isOrder 194 = .ok (.aload_n 0, 1) := by decide +kernel
theorem dX7_isOrder_195 : decode cX7_isOrder 195 = .ok (.iconst 3, 1) := by decide +kernel
theorem dX7_isOrder_196 : decode cX7_isOrder 196 = .ok (.iconst 0, 1) := by decide +kernel
theorem dX7_isOrder_197 : decode cX7_isOrder 197 = .ok (.bipush 19, 2) := by decide +kernel
theorem dX7_isOrder_199 : decode cX7_isOrder 199 = .ok (.invokevirtual 224, 3) := by decide +kernel
theorem dX7_isOrder_202 : decode cX7_isOrder 202 = .ok (.ifCond .eq 54, 3) := by decide +kernel
theorem dX7_isOrder_205 : decode cX7_isOrder 205 = .ok (.aload_n 0, 1) := by decide +kernel
theorem dX7_isOrder_206 : decode cX7_isOrder 206 = .ok (.bipush 46, 2) := by decide +kernel
theorem dX7_isOrder_208 : decode cX7_isOrder 208 = .ok (.invokevirtual 221, 3) := by decide +kernel
theorem dX7_isOrder_211 : decode cX7_isOrder 211 = .ok (.ifCond .eq 45, 3) := by decide +kernel
theorem dX7_isOrder_214 : decode cX7_isOrder 214 = .ok (.aload_n 0, 1) := by decide +kernel
theorem dX7_isOrder_215 : decode cX7_isOrder 215 = .ok (.iconst 4, 1) := by decide +kernel
theorem dX7_isOrder_216 : decode cX7_isOrder 216 = .ok (.iconst 0, 1) := by decide +kernel
theorem dX7_isOrder_217 : decode cX7_isOrder 217 = .ok (.iconst 3, 1) := by decide +kernel
theorem dX7_isOrder_218 : decode cX7_isOrder 218 = .ok (.invokevirtual 224, 3) := by decide +kernel
theorem dX7_isOrder_221 : decode cX7_isOrder 221 = .ok (.ifCond .eq 35, 3) := by decide +kernel
theorem dX7_isOrder_224 : decode cX7_isOrder 224 = .ok (.aload_n 0, 1) := by decide +kernel
theorem dX7_isOrder_225 : decode cX7_isOrder 225 = .ok (.bipush 61, 2) := by decide +kernel
theorem dX7_isOrder_227 : decode cX7_isOrder 227 = .ok (.invokevirtual 221, 3) := by decide +kernel
theorem dX7_isOrder_230 : decode cX7_isOrder 230 = .ok (.ifCond .eq 26, 3) := by decide +kernel
theorem dX7_isOrder_233 : decode cX7_isOrder 233 = .ok (.aload_n 0, 1) := by decide +kernel
theorem dX7_isOrder_234 : decode cX7_isOrder 234 = .ok (.iconst 5, 1) := by decide +kernel
theorem dX7_isOrder_235 : decode cX7_isOrder 235 = .ok (.iconst 0, 1) := by decide +kernel
theorem dX7_isOrder_236 : decode cX7_isOrder 236 = .ok (.bipush 6, 2) := by decide +kernel
theorem dX7_isOrder_238 : decode cX7_isOrder 238 = .ok (.invokevirtual 224, 3) := by decide +kernel
theorem dX7_isOrder_241 : decode cX7_isOrder 241 = .ok (.ifCond .eq 15, 3) := by decide +kernel
theorem dX7_isOrder_244 : decode cX7_isOrder 244 = .ok (.aload_n 0, 1) := by decide +kernel
theorem dX7_isOrder_245 : decode cX7_isOrder 245 = .ok (.iconst 1, 1) := by decide +kernel
theorem dX7_isOrder_246 : decode cX7_isOrder 246 = .ok (.invokevirtual 227, 3) := by decide +kernel
theorem dX7_isOrder_249 : decode cX7_isOrder 249 = .ok (.ifCond .eq 7, 3) := by decide +kernel
theorem dX7_isOrder_252 : decode cX7_isOrder 252 = .ok (.iconst 1, 1) := by decide +kernel
theorem dX7_isOrder_253 : decode cX7_isOrder 253 = .ok (.goto 4, 3) := by decide +kernel
theorem dX7_isOrder_256 : decode cX7_isOrder 256 = .ok (.iconst 0, 1) := by decide +kernel
theorem dX7_isOrder_257 : decode cX7_isOrder 257 = .ok (.ireturn, 1) := by decide +kernel
theorem dX7_isOrder_258 : decode cX7_isOrder 258 = .ok (.aload_n 0, 1) := by decide +kernel
theorem dX7_isOrder_259 : decode cX7_isOrder 259 = .ok (.iconst 1, 1) := by decide +kernel
theorem dX7_isOrder_260 : decode cX7_isOrder 260 = .ok (.iconst 0, 1) := by decide +kernel
theorem dX7_isOrder_261 : decode cX7_isOrder 261 = .ok (.bipush 29, 2) := by decide +kernel
theorem dX7_isOrder_263 : decode cX7_isOrder 263 = .ok (.invokevirtual 224, 3) := by decide +kernel
theorem dX7_isOrder_266 : decode cX7_isOrder 266 = .ok (.ifCond .eq 49, 3) := by decide +kernel
theorem dX7_isOrder_269 : decode cX7_isOrder 269 = .ok (.aload_n 0, 1) := by decide +kernel
theorem dX7_isOrder_270 : decode cX7_isOrder 270 = .ok (.bipush 58, 2) := by decide +kernel
theorem dX7_isOrder_272 : decode cX7_isOrder 272 = .ok (.invokevirtual 221, 3) := by decide +kernel
theorem dX7_isOrder_275 : decode cX7_isOrder 275 = .ok (.ifCond .eq 40, 3) := by decide +kernel
theorem dX7_isOrder_278 : decode cX7_isOrder 278 = .ok (.aload_n 0, 1) := by decide +kernel
theorem dX7_isOrder_279 : decode cX7_isOrder 279 = .ok (.iconst 2, 1) := by decide +kernel
theorem dX7_isOrder_280 : decode cX7_isOrder 280 = .ok (.iconst 1, 1) := by decide +kernel
theorem dX7_isOrder_281 : decode cX7_isOrder 281 = .ok (.sipush 9999, 3) := by decide +kernel
theorem dX7_isOrder_284 : decode cX7_isOrder 284 = .ok (.invokevirtual 224, 3) := by decide +kernel
theorem dX7_isOrder_287 : decode cX7_isOrder 287 = .ok (.ifCond .eq 28, 3) := by decide +kernel
theorem dX7_isOrder_290 : decode cX7_isOrder 290 = .ok (.aload_n 0, 1) := by decide +kernel
theorem dX7_isOrder_291 : decode cX7_isOrder 291 = .ok (.bipush 45, 2) := by decide +kernel
theorem dX7_isOrder_293 : decode cX7_isOrder 293 = .ok (.invokevirtual 221, 3) := by decide +kernel
theorem dX7_isOrder_296 : decode cX7_isOrder 296 = .ok (.ifCond .eq 19, 3) := by decide +kernel
theorem dX7_isOrder_299 : decode cX7_isOrder 299 = .ok (.aload_n 0, 1) := by decide +kernel
theorem dX7_isOrder_300 : decode cX7_isOrder 300 = .ok (.iconst 3, 1) := by decide +kernel
theorem dX7_isOrder_301 : decode cX7_isOrder 301 = .ok (.iconst 1, 1) := by decide +kernel
theorem dX7_isOrder_302 : decode cX7_isOrder 302 = .ok (.sipush 9999, 3) := by decide +kernel
theorem dX7_isOrder_305 : decode cX7_isOrder 305 = .ok (.invokevirtual 224, 3) := by decide +kernel
theorem dX7_isOrder_308 : decode cX7_isOrder 308 = .ok (.ifCond .eq 7, 3) := by decide +kernel
theorem dX7_isOrder_311 : decode cX7_isOrder 311 = .ok (.iconst 1, 1) := by decide +kernel
theorem dX7_isOrder_312 : decode cX7_isOrder 312 = .ok (.goto 4, 3) := by decide +kernel
theorem dX7_isOrder_315 : decode cX7_isOrder 315 = .ok (.iconst 0, 1) := by decide +kernel
theorem dX7_isOrder_316 : decode cX7_isOrder 316 = .ok (.ireturn, 1) := by decide +kernel
theorem dX7_isOrder_317 : decode cX7_isOrder 317 = .ok (.aload_n 0, 1) := by decide +kernel
theorem dX7_isOrder_318 : decode cX7_isOrder 318 = .ok (.iconst 1, 1) := by decide +kernel
theorem dX7_isOrder_319 : decode cX7_isOrder 319 = .ok (.iconst 0, 1) := by decide +kernel
theorem dX7_isOrder_320 : decode cX7_isOrder 320 = .ok (.bipush 29, 2) := by decide +kernel
theorem dX7_isOrder_322 : decode cX7_isOrder 322 = .ok (.invokevirtual 224, 3) := by decide +kernel
theorem dX7_isOrder_325 : decode cX7_isOrder 325 = .ok (.ifCond .eq 46, 3) := by decide +kernel
theorem dX7_isOrder_328 : decode cX7_isOrder 328 = .ok (.aload_n 0, 1) := by decide +kernel
theorem dX7_isOrder_329 : decode cX7_isOrder 329 = .ok (.bipush 62, 2) := by decide +kernel
theorem dX7_isOrder_331 : decode cX7_isOrder 331 = .ok (.invokevirtual 221, 3) := by decide +kernel
theorem dX7_isOrder_334 : decode cX7_isOrder 334 = .ok (.ifCond .eq 37, 3) := by decide +kernel
theorem dX7_isOrder_337 : decode cX7_isOrder 337 = .ok (.aload_n 0, 1) := by decide +kernel
theorem dX7_isOrder_338 : decode cX7_isOrder 338 = .ok (.iconst 2, 1) := by decide +kernel
theorem dX7_isOrder_339 : decode cX7_isOrder 339 = .ok (.iconst 0, 1) := by decide +kernel
theorem dX7_isOrder_340 : decode cX7_isOrder 340 = .ok (.iconst 4, 1) := by decide +kernel
theorem dX7_isOrder_341 : decode cX7_isOrder 341 = .ok (.invokevirtual 224, 3) := by decide +kernel
theorem dX7_isOrder_344 : decode cX7_isOrder 344 = .ok (.ifCond .eq 27, 3) := by decide +kernel
theorem dX7_isOrder_347 : decode cX7_isOrder 347 = .ok (.aload_n 0, 1) := by decide +kernel
theorem dX7_isOrder_348 : decode cX7_isOrder 348 = .ok (.bipush 43, 2) := by decide +kernel
theorem dX7_isOrder_350 : decode cX7_isOrder 350 = .ok (.invokevirtual 221, 3) := by decide +kernel
theorem dX7_isOrder_353 : decode cX7_isOrder 353 = .ok (.ifCond .eq 18, 3) := by decide +kernel
theorem dX7_isOrder_356 : decode cX7_isOrder 356 = .ok (.aload_n 0, 1) := by decide +kernel
theorem dX7_isOrder_357 : decode cX7_isOrder 357 = .ok (.iconst 3, 1) := by decide +kernel
theorem dX7_isOrder_358 : decode cX7_isOrder 358 = .ok (.iconst 1, 1) := by decide +kernel
theorem dX7_isOrder_359 : decode cX7_isOrder 359 = .ok (.bipush 90, 2) := by decide +kernel
theorem dX7_isOrder_361 : decode cX7_isOrder 361 = .ok (.invokevirtual 224, 3) := by decide +kernel
theorem dX7_isOrder_364 : decode cX7_isOrder 364 = .ok (.ifCond .eq 7, 3) := by decide +kernel
theorem dX7_isOrder_367 : decode cX7_isOrder 367 = .ok (.iconst 1, 1) := by decide +kernel
theorem dX7_isOrder_368 : decode cX7_isOrder 368 = .ok (.goto 4, 3) := by decide +kernel
theorem dX7_isOrder_371 : decode cX7_isOrder 371 = .ok (.iconst 0, 1) := by decide +kernel
theorem dX7_isOrder_372 : decode cX7_isOrder 372 = .ok (.ireturn, 1) := by decide +kernel
theorem dX7_isOrder_373 : decode cX7_isOrder 373 = .ok (.aload_n 0, 1) := by decide +kernel
theorem dX7_isOrder_374 : decode cX7_isOrder 374 = .ok (.iconst 1, 1) := by decide +kernel
theorem dX7_isOrder_375 : decode cX7_isOrder 375 = .ok (.iconst 0, 1) := by decide +kernel
theorem dX7_isOrder_376 : decode cX7_isOrder 376 = .ok (.bipush 29, 2) := by decide +kernel
theorem dX7_isOrder_378 : decode cX7_isOrder 378 = .ok (.invokevirtual 224, 3) := by decide +kernel
theorem dX7_isOrder_381 : decode cX7_isOrder 381 = .ok (.ireturn, 1) := by decide +kernel
theorem dX7_isOrder_382 : decode cX7_isOrder 382 = .ok (.aload_n 0, 1) := by decide +kernel
theorem dX7_isOrder_383 : decode cX7_isOrder 383 = .ok (.iconst 1, 1) := by decide +kernel
theorem dX7_isOrder_384 : decode cX7_isOrder 384 = .ok (.iconst 1, 1) := by decide +kernel
theorem dX7_isOrder_385 : decode cX7_isOrder 385 = .ok (.bipush 99, 2) := by decide +kernel
theorem dX7_isOrder_387 : decode cX7_isOrder 387 = .ok (.invokevirtual 224, 3) := by decide +kernel
theorem dX7_isOrder_390 : decode cX7_isOrder 390 = .ok (.ireturn, 1) := by decide +kernel
theorem dX7_isOrder_391 : decode cX7_isOrder 391 = .ok (.aload_n 0, 1) := by decide +kernel
theorem dX7_isOrder_392 : decode cX7_isOrder 392 = .ok (.dup, 1) := by decide +kernel
theorem dX7_isOrder_393 : decode cX7_isOrder 393 = .ok (.getfield 212, 3) := by decide +kernel
theorem dX7_isOrder_396 : decode cX7_isOrder 396 = .ok (.iconst 1, 1) := by decide +kernel
theorem dX7_isOrder_397 : decode cX7_isOrder 397 = .ok (.isub, 1) := by decide +kernel
theorem dX7_isOrder_398 : decode cX7_isOrder 398 = .ok (.putfield 212, 3) := by decide +kernel
theorem dX7_isOrder_401 : decode cX7_isOrder 401 = .ok (.iconst 0, 1) := by decide +kernel
theorem dX7_isOrder_402 : decode cX7_isOrder 402 = .ok (.ireturn, 1) := by decide +kernel
set_option maxRecDepth 20000 in
theorem ggX7_isValid_X7_isOrder : GoodIn wsX7_isValid wsX7_isOrder := goodIn_r _ [8, 1, 3, 9, 10, 2, 11, 12, 13, 7, 14, 15, 16, 17, 18, 19, 20, 21, 22, 23, 24, 25, 26, 27, 28, 29, 30, 31, 32, 33, 34, 35, 36, 37, 38, 39, 40, 41, 42, 43, 44, 45, 46, 47, 48] (by decide +kernel) (by decide +kernel)
set_option maxRecDepth 20000 in
theorem gX7_isValid_X7_isOrder : GoodIn wsX7_isValid (wsV RX7 234 RX7 yX7_isOrder wsX7_isOrder) := goodIn_app (goodIn_of _ (by decide +kernel)) ggX7_isValid_X7_isOrder
set_option maxRecDepth 20000 in
theorem ggX7_isValid_X7_takes : GoodIn wsX7_isValid wsX7_takes := goodIn_r _ [28, 1, 3, 9, 33, 34, 35, 36, 37, 38, 39, 40, 41, 42, 43, 44, 45, 46, 47, 48] (by decide +kernel) (by decide +kernel)
set_option maxRecDepth 20000 in
theorem gX7_isValid_X7_takes : GoodIn wsX7_isValid (wsV RX7 221 RX7 yX7_takes wsX7_takes) := goodIn_app (goodIn_of _ (by decide +kernel)) ggX7_isValid_X7_takes
theorem dX7_isValid_0 : decode cX7_isValid 0 = .ok (.aload_n 0, 1) := by decide +kernel
theorem dX7_isValid_1 : decode cX7_isValid 1 = .ok (.iconst 0, 1) := by decide +kernel
theorem dX7_isValid_2 : decode cX7_isValid 2 = .ok (.putfield 212, 3) := by decide +kernel
theorem dX7_isValid_5 : decode cX7_isValid 5 = .ok (.aload_n 0, 1) := by decide +kernel
theorem dX7_isValid_6 : decode cX7_isValid 6 = .ok (.iconst 0, 1) := by decide +kernel
theorem dX7_isValid_7 : decode cX7_isValid 7 = .ok (.putfield 218, 3) := by decide +kernel
theorem dX7_isValid_10 : decode cX7_isValid 10 = .ok (.iconst 1, 1) := by decide +kernel
theorem dX7_isValid_11 : decode cX7_isValid 11 = .ok (.istore_n 1, 1) := by decide +kernel
theorem dX7_isValid_12 : decode cX7_isValid 12 = .ok (.iload_n 1, 1) := by decide +kernel
theorem dX7_isValid_13 : decode cX7_isValid 13 = .ok (.ifCond .eq 32, 3) := by decide +kernel
theorem dX7_isValid_16 : decode cX7_isValid 16 = .ok (.aload_n 0, 1) := by decide +kernel
theorem dX7_isValid_17 : decode cX7_isValid 17 = .ok (.invokevirtual 234, 3) := by decide +kernel
theorem dX7_isValid_20 : decode cX7_isValid 20 = .ok (.ifCond .ne 5, 3) := by decide +kernel
theorem dX7_isValid_23 : decode cX7_isValid 23 = .ok (.iconst 0, 1) := by decide +kernel
theorem dX7_isValid_24 : decode cX7_isValid 24 = .ok (.ireturn, 1) := by decide +kernel
theorem dX7_isValid_25 : decode cX7_isValid 25 = .ok (.aload_n 0, 1) := by decide +kernel
theorem dX7_isValid_26 : decode cX7_isValid 26 = .ok (.dup, 1) := by decide +kernel
theorem dX7_isValid_27 : decode cX7_isValid 27 = .ok (.getfield 218, 3) := by decide +kernel
theorem dX7_isValid_30 : decode cX7_isValid 30 = .ok (.iconst 1, 1) := by decide +kernel
theorem dX7_isValid_31 : decode cX7_isValid 31 = .ok (.iadd, 1) := by decide +kernel
theorem dX7_isValid_32 : decode cX7_isValid 32 = .ok (.putfield 218, 3) := by decide +kernel
theorem dX7_isValid_35 : decode cX7_isValid 35 = .ok (.aload_n 0, 1) := by decide +kernel
theorem dX7_isValid_36 : decode cX7_isValid 36 = .ok (.bipush 59, 2) := by decide +kernel
theorem dX7_isValid_38 : decode cX7_isValid 38 = .ok (.invokevirtual 221, 3) := by decide +kernel
theorem dX7_isValid_41 : decode cX7_isValid 41 = .ok (.istore_n 1, 1) := by decide +kernel
theorem dX7_isValid_42 : decode cX7_isValid 42 = .ok (.goto (-30), 3) := by decide +kernel
theorem dX7_isValid_45 : decode cX7_isValid 45 = .ok (.aload_n 0, 1) := by decide +kernel
theorem dX7_isValid_46 : decode cX7_isValid 46 = .ok (.getfield 212, 3) := by decide +kernel
theorem dX7_isValid_49 : decode cX7_isValid 49 = .ok (.aload_n 0, 1) := by decide +kernel
theorem dX7_isValid_50 : decode cX7_isValid 50 = .ok (.getfield 209, 3) := by decide +kernel
theorem dX7_isValid_53 : decode cX7_isValid 53 = .ok (.if_icmp .ne 7, 3) := by decide +kernel
theorem dX7_isValid_56 : decode cX7_isValid 56 = .ok (.iconst 1, 1) := by decide +kernel
theorem dX7_isValid_57 : decode cX7_isValid 57 = .ok (.goto 4, 3) := by decide +kernel
theorem dX7_isValid_60 : decode cX7_isValid 60 = .ok (.iconst 0, 1) := by decide +kernel
theorem dX7_isValid_61 : decode cX7_isValid 61 = .ok (.ireturn, 1) := by decide +kernel
set_option maxRecDepth 20000 in
theorem ggX7_letterError_X7_isValid : GoodIn wsX7_letterError wsX7_isValid := goodIn_r _ [7, 2, 8, 9, 10, 11, 12, 6, 13, 14, 15, 16, 17, 18, 19, 20, 21, 22, 23, 24, 25, 26, 27, 28, 29, 30, 31, 32, 33, 34, 35, 36, 37, 38, 39, 40, 41, 42, 43, 44, 45, 46, 47, 48, 49, 50, 51, 52, 53] (by decide +kernel) (by decide +kernel)
set_option maxRecDepth 20000 in
theorem gX7_letterError_X7_isValid : GoodIn wsX7_letterError (wsV RX7 237 RX7 yX7_isValid wsX7_isValid) := goodIn_app (goodIn_of _ (by decide +kernel)) ggX7_letterError_X7_isValid
theorem dX7_letterError_0 : decode cX7_letterError 0 = .ok (.aload_n 0, 1) := by decide +kernel
theorem dX7_letterError_1 : decode cX7_letterError 1 = .ok (.iconst 0, 1) := by decide +kernel
theorem dX7_letterError_2 : decode cX7_letterError 2 = .ok (.putfield 40, 3) := by decide +kernel
theorem dX7_letterError_5 : decode cX7_letterError 5 = .ok (.aload_n 0, 1) := by decide +kernel
theorem dX7_letterError_6 : decode cX7_letterError 6 = .ok (.invokevirtual 237, 3) := by decide +kernel
theorem dX7_letterError_9 : decode cX7_letterError 9 = .ok (.ifCond .eq 7, 3) := by decide +kernel
theorem dX7_letterError_12 : decode cX7_letterError 12 = .ok (.iconst (-1), 1) := by decide +kernel
theorem dX7_letterError_13 : decode cX7_letterError 13 = .ok (.goto 7, 3) := by decide +kernel
theorem dX7_letterError_16 : decode cX7_letterError 16 = .ok (.aload_n 0, 1) := by decide +kernel
theorem dX7_letterError_17 : decode cX7_letterError 17 = .ok (.getfield 212, 3) := by decide +kernel
theorem dX7_letterError_20 : decode cX7_letterError 20 = .ok (.ireturn, 1) := by decide +kernel
theorem dX7_told_0 : decode cX7_told 0 = .ok (.aload_n 0, 1) := by decide +kernel
theorem dX7_told_1 : decode cX7_told 1 = .ok (.getfield 37, 3) := by decide +kernel
theorem dX7_told_4 : decode cX7_told 4 = .ok (.bipush 6, 2) := by decide +kernel
theorem dX7_told_6 : decode cX7_told 6 = .ok (.iload_n 1, 1) := by decide +kernel
theorem dX7_told_7 : decode cX7_told 7 = .ok (.imul, 1) := by decide +kernel
theorem dX7_told_8 : decode cX7_told 8 = .ok (.iload_n 2, 1) := by decide +kernel
theorem dX7_told_9 : decode cX7_told 9 = .ok (.iadd, 1) := by decide +kernel
theorem dX7_told_10 : decode cX7_told 10 = .ok (.iaload, 1) := by decide +kernel
theorem dX7_told_11 : decode cX7_told 11 = .ok (.ireturn, 1) := by decide +kernel
set_option maxRecDepth 20000 in
theorem ggX7_joins_X7_told : GoodIn wsX7_joins wsX7_told := goodIn_r _ [6, 7, 26, 27, 28, 29, 30, 31, 32, 33, 34, 35, 36, 37, 38, 39, 40, 41] (by decide +kernel) (by decide +kernel)
set_option maxRecDepth 20000 in
theorem gX7_joins_X7_told : GoodIn wsX7_joins (wsV RX7 240 RX7 yX7_told wsX7_told) := goodIn_app (goodIn_of _ (by decide +kernel)) ggX7_joins_X7_told
set_option maxRecDepth 20000 in
theorem ggX7_joins_X7_areNotes : GoodIn wsX7_joins wsX7_areNotes := goodIn_r _ [10, 11, 12, 5, 13] (by decide +kernel) (by decide +kernel)
set_option maxRecDepth 20000 in
theorem gX7_joins_X7_areNotes : GoodIn wsX7_joins (va_wsS RX7 151 yX7_areNotes wsX7_areNotes) := goodIn_app (goodIn_of _ (by decide +kernel)) ggX7_joins_X7_areNotes
set_option maxRecDepth 20000 in
theorem ggX7_joins_X7_registers : GoodIn wsX7_joins wsX7_registers := goodIn_r _ [17, 1, 18, 19, 20, 5, 21, 22, 23, 24, 25, 26, 27, 28, 29, 30, 31, 32, 33, 34, 35, 36, 37, 38, 39, 40, 41] (by decide +kernel) (by decide +kernel)
set_option maxRecDepth 20000 in
theorem gX7_joins_X7_registers : GoodIn wsX7_joins (wsV RX7 161 RX7 yX7_registers wsX7_registers) := goodIn_app (goodIn_of _ (by decide +kernel)) ggX7_joins_X7_registers
theorem dX7_joins_0 : decode cX7_joins 0 = .ok (.aload_n 0, 1) := by decide +kernel
theorem dX7_joins_1 : decode cX7_joins 1 = .ok (.iload_n 1, 1) := by decide +kernel
theorem dX7_joins_2 : decode cX7_joins 2 = .ok (.iconst 1, 1) := by decide +kernel
theorem dX7_joins_3 : decode cX7_joins 3 = .ok (.invokevirtual 240, 3) := by decide +kernel
theorem dX7_joins_6 : decode cX7_joins 6 = .ok (.aload_n 0, 1) := by decide +kernel
theorem dX7_joins_7 : decode cX7_joins 7 = .ok (.iload_n 1, 1) := by decide +kernel
theorem dX7_joins_8 : decode cX7_joins 8 = .ok (.iconst 2, 1) := by decide +kernel
theorem dX7_joins_9 : decode cX7_joins 9 = .ok (.invokevirtual 240, 3) := by decide +kernel
theorem dX7_joins_12 : decode cX7_joins 12 = .ok (.invokestatic 151, 3) := by decide +kernel
theorem dX7_joins_15 : decode cX7_joins 15 = .ok (.ifCond .eq 18, 3) := by decide +kernel
theorem dX7_joins_18 : decode cX7_joins 18 = .ok (.aload_n 0, 1) := by decide +kernel
theorem dX7_joins_19 : decode cX7_joins 19 = .ok (.getfield 7, 3) := by decide +kernel
theorem dX7_joins_22 : decode cX7_joins 22 = .ok (.iconst 1, 1) := by decide +kernel
theorem dX7_joins_23 : decode cX7_joins 23 = .ok (.iaload, 1) := by decide +kernel
theorem dX7_joins_24 : decode cX7_joins 24 = .ok (.bipush 30, 2) := by decide +kernel
theorem dX7_joins_26 : decode cX7_joins 26 = .ok (.if_icmp .ge 7, 3) := by decide +kernel
theorem dX7_joins_29 : decode cX7_joins 29 = .ok (.iconst 1, 1) := by decide +kernel
theorem dX7_joins_30 : decode cX7_joins 30 = .ok (.goto 4, 3) := by decide +kernel
theorem dX7_joins_33 : decode cX7_joins 33 = .ok (.iconst 0, 1) := by decide +kernel
theorem dX7_joins_34 : decode cX7_joins 34 = .ok (.istore_n 2, 1) := by decide +kernel
theorem dX7_joins_35 : decode cX7_joins 35 = .ok (.iload_n 2, 1) := by decide +kernel
theorem dX7_joins_36 : decode cX7_joins 36 = .ok (.ifCond .eq 44, 3) := by decide +kernel
theorem dX7_joins_39 : decode cX7_joins 39 = .ok (.aload_n 0, 1) := by decide +kernel
theorem dX7_joins_40 : decode cX7_joins 40 = .ok (.aload_n 0, 1) := by decide +kernel
theorem dX7_joins_41 : decode cX7_joins 41 = .ok (.iload_n 1, 1) := by decide +kernel
theorem dX7_joins_42 : decode cX7_joins 42 = .ok (.iconst 3, 1) := by decide +kernel
theorem dX7_joins_43 : decode cX7_joins 43 = .ok (.invokevirtual 240, 3) := by decide +kernel
theorem dX7_joins_46 : decode cX7_joins 46 = .ok (.aload_n 0, 1) := by decide +kernel
theorem dX7_joins_47 : decode cX7_joins 47 = .ok (.iload_n 1, 1) := by decide +kernel
theorem dX7_joins_48 : decode cX7_joins 48 = .ok (.iconst 4, 1) := by decide +kernel
theorem dX7_joins_49 : decode cX7_joins 49 = .ok (.invokevirtual 240, 3) := by decide +kernel
theorem dX7_joins_52 : decode cX7_joins 52 = .ok (.aload_n 0, 1) := by decide +kernel
theorem dX7_joins_53 : decode cX7_joins 53 = .ok (.iload_n 1, 1) := by decide +kernel
theorem dX7_joins_54 : decode cX7_joins 54 = .ok (.iconst 1, 1) := by decide +kernel
theorem dX7_joins_55 : decode cX7_joins 55 = .ok (.invokevirtual 240, 3) := by decide +kernel
theorem dX7_joins_58 : decode cX7_joins 58 = .ok (.aload_n 0, 1) := by decide +kernel
theorem dX7_joins_59 : decode cX7_joins 59 = .ok (.iload_n 1, 1) := by decide +kernel
theorem dX7_joins_60 : decode cX7_joins 60 = .ok (.iconst 2, 1) := by decide +kernel
theorem dX7_joins_61 : decode cX7_joins 61 = .ok (.invokevirtual 240, 3) := by decide +kernel
theorem dX7_joins_64 : decode cX7_joins 64 = .ok (.aload_n 0, 1) := by decide +kernel
theorem dX7_joins_65 : decode cX7_joins 65 = .ok (.iload_n 1, 1) := by decide +kernel
theorem dX7_joins_66 : decode cX7_joins 66 = .ok (.iconst 5, 1) := by decide +kernel
theorem dX7_joins_67 : decode cX7_joins 67 = .ok (.invokevirtual 240, 3) := by decide +kernel
theorem dX7_joins_70 : decode cX7_joins 70 = .ok (.invokevirtual 161, 3) := by decide +kernel
theorem dX7_joins_73 : decode cX7_joins 73 = .ok (.ifCond .lt 7, 3) := by decide +kernel
theorem dX7_joins_76 : decode cX7_joins 76 = .ok (.iconst 1, 1) := by decide +kernel
theorem dX7_joins_77 : decode cX7_joins 77 = .ok (.goto 4, 3) := by decide +kernel
theorem dX7_joins_80 : decode cX7_joins 80 = .ok (.iconst 0, 1) := by decide +kernel
theorem dX7_joins_81 : decode cX7_joins 81 = .ok (.ireturn, 1) := by decide +kernel
set_option maxRecDepth 20000 in
theorem ggX7_lines_X7_told : GoodIn wsX7_lines wsX7_told := goodIn_r _ [5, 6, 38, 39, 40, 41, 42, 43, 44, 45, 46, 47, 48, 49, 50, 51, 52, 53] (by decide +kernel) (by decide +kernel)
set_option maxRecDepth 20000 in
theorem gX7_lines_X7_told : GoodIn wsX7_lines (wsV RX7 240 RX7 yX7_told wsX7_told) := goodIn_app (goodIn_of _ (by decide +kernel)) ggX7_lines_X7_told
set_option maxRecDepth 20000 in
theorem ggX7_lines_X7_isFeast : GoodIn wsX7_lines wsX7_isFeast := goodIn_r _ [10, 11, 12, 13, 4, 14, 38, 39, 40, 41, 42, 43, 44, 45, 46, 47, 48, 49, 50, 51, 52, 53] (by decide +kernel) (by decide +kernel)
set_option maxRecDepth 20000 in
theorem gX7_lines_X7_isFeast : GoodIn wsX7_lines (wsV RX7 197 RX7 yX7_isFeast wsX7_isFeast) := goodIn_app (goodIn_of _ (by decide +kernel)) ggX7_lines_X7_isFeast
set_option maxRecDepth 20000 in
theorem ggX7_lines_X7_held : GoodIn wsX7_lines wsX7_held := goodIn_r _ [18, 11, 19, 20, 21, 4, 22, 38, 39, 40, 41, 42, 43, 44, 45, 46, 47, 48, 49, 50, 51, 52, 53] (by decide +kernel) (by decide +kernel)
set_option maxRecDepth 20000 in
theorem gX7_lines_X7_held : GoodIn wsX7_lines (wsV RX7 136 RX7 yX7_held wsX7_held) := goodIn_app (goodIn_of _ (by decide +kernel)) ggX7_lines_X7_held
set_option maxRecDepth 20000 in
theorem ggX7_lines_X7_areNotes : GoodIn wsX7_lines wsX7_areNotes := goodIn_r _ [25, 12, 13, 4, 14] (by decide +kernel) (by decide +kernel)
set_option maxRecDepth 20000 in
theorem gX7_lines_X7_areNotes : GoodIn wsX7_lines (va_wsS RX7 151 yX7_areNotes wsX7_areNotes) := goodIn_app (goodIn_of _ (by decide +kernel)) ggX7_lines_X7_areNotes
set_option maxRecDepth 20000 in
theorem ggX7_lines_X7_sets : GoodIn wsX7_lines wsX7_sets := goodIn_r _ [29, 11, 30, 31, 32, 4, 33, 34, 35, 36, 37, 38, 39, 40, 41, 42, 43, 44, 45, 46, 47, 48, 49, 50, 51, 52, 53] (by decide +kernel) (by decide +kernel)
set_option maxRecDepth 20000 in
theorem gX7_lines_X7_sets : GoodIn wsX7_lines (wsV RX7 203 RX7 yX7_sets wsX7_sets) := goodIn_app (goodIn_of _ (by decide +kernel)) ggX7_lines_X7_sets
theorem dX7_lines_0 : decode cX7_lines 0 = .ok (.aload_n 0, 1) := by decide +kernel
theorem dX7_lines_1 : decode cX7_lines 1 = .ok (.iload_n 1, 1) := by decide +kernel
theorem dX7_lines_2 : decode cX7_lines 2 = .ok (.iconst 3, 1) := by decide +kernel
theorem dX7_lines_3 : decode cX7_lines 3 = .ok (.invokevirtual 240, 3) := by decide +kernel
theorem dX7_lines_6 : decode cX7_lines 6 = .ok (.istore_n 2, 1) := by decide +kernel
theorem dX7_lines_7 : decode cX7_lines 7 = .ok (.aload_n 0, 1) := by decide +kernel
theorem dX7_lines_8 : decode cX7_lines 8 = .ok (.iload_n 2, 1) := by decide +kernel
theorem dX7_lines_9 : decode cX7_lines 9 = .ok (.invokevirtual 197, 3) := by decide +kernel
theorem dX7_lines_12 : decode cX7_lines 12 = .ok (.ifCond .eq 33, 3) := by decide +kernel
theorem dX7_lines_15 : decode cX7_lines 15 = .ok (.aload_n 0, 1) := by decide +kernel
theorem dX7_lines_16 : decode cX7_lines 16 = .ok (.iload_n 2, 1) := by decide +kernel
theorem dX7_lines_17 : decode cX7_lines 17 = .ok (.invokevirtual 136, 3) := by decide +kernel
theorem dX7_lines_20 : decode cX7_lines 20 = .ok (.ifCond .ne 25, 3) := by decide +kernel
theorem dX7_lines_23 : decode cX7_lines 23 = .ok (.aload_n 0, 1) := by decide +kernel
theorem dX7_lines_24 : decode cX7_lines 24 = .ok (.iload_n 1, 1) := by decide +kernel
theorem dX7_lines_25 : decode cX7_lines 25 = .ok (.iconst 1, 1) := by decide +kernel
theorem dX7_lines_26 : decode cX7_lines 26 = .ok (.invokevirtual 240, 3) := by decide +kernel
theorem dX7_lines_29 : decode cX7_lines 29 = .ok (.aload_n 0, 1) := by decide +kernel
theorem dX7_lines_30 : decode cX7_lines 30 = .ok (.iload_n 1, 1) := by decide +kernel
theorem dX7_lines_31 : decode cX7_lines 31 = .ok (.iconst 2, 1) := by decide +kernel
theorem dX7_lines_32 : decode cX7_lines 32 = .ok (.invokevirtual 240, 3) := by decide +kernel
theorem dX7_lines_35 : decode cX7_lines 35 = .ok (.invokestatic 151, 3) := by decide +kernel
theorem dX7_lines_38 : decode cX7_lines 38 = .ok (.ifCond .eq 7, 3) := by decide +kernel
theorem dX7_lines_41 : decode cX7_lines 41 = .ok (.iconst 1, 1) := by decide +kernel
theorem dX7_lines_42 : decode cX7_lines 42 = .ok (.goto 4, 3) := by decide +kernel
theorem dX7_lines_45 : decode cX7_lines 45 = .ok (.iconst 0, 1) := by decide +kernel
theorem dX7_lines_46 : decode cX7_lines 46 = .ok (.istore_n 3, 1) := by decide +kernel
theorem dX7_lines_47 : decode cX7_lines 47 = .ok (.iload_n 3, 1) := by decide +kernel
theorem dX7_lines_48 : decode cX7_lines 48 = .ok (.ifCond .eq 39, 3) := by decide +kernel
theorem dX7_lines_51 : decode cX7_lines 51 = .ok (.aload_n 0, 1) := by decide +kernel
theorem dX7_lines_52 : decode cX7_lines 52 = .ok (.iload_n 2, 1) := by decide +kernel
theorem dX7_lines_53 : decode cX7_lines 53 = .ok (.aload_n 0, 1) := by decide +kernel
theorem dX7_lines_54 : decode cX7_lines 54 = .ok (.iload_n 1, 1) := by decide +kernel
theorem dX7_lines_55 : decode cX7_lines 55 = .ok (.iconst 4, 1) := by decide +kernel
theorem dX7_lines_56 : decode cX7_lines 56 = .ok (.invokevirtual 240, 3) := by decide +kernel
theorem dX7_lines_59 : decode cX7_lines 59 = .ok (.aload_n 0, 1) := by decide +kernel
theorem dX7_lines_60 : decode cX7_lines 60 = .ok (.iload_n 1, 1) := by decide +kernel
theorem dX7_lines_61 : decode cX7_lines 61 = .ok (.iconst 5, 1) := by decide +kernel
theorem dX7_lines_62 : decode cX7_lines 62 = .ok (.invokevirtual 240, 3) := by decide +kernel
theorem dX7_lines_65 : decode cX7_lines 65 = .ok (.aload_n 0, 1) := by decide +kernel
theorem dX7_lines_66 : decode cX7_lines 66 = .ok (.iload_n 1, 1) := by decide +kernel
theorem dX7_lines_67 : decode cX7_lines 67 = .ok (.iconst 1, 1) := by decide +kernel
theorem dX7_lines_68 : decode cX7_lines 68 = .ok (.invokevirtual 240, 3) := by decide +kernel
theorem dX7_lines_71 : decode cX7_lines 71 = .ok (.aload_n 0, 1) := by decide +kernel
theorem dX7_lines_72 : decode cX7_lines 72 = .ok (.iload_n 1, 1) := by decide +kernel
theorem dX7_lines_73 : decode cX7_lines 73 = .ok (.iconst 2, 1) := by decide +kernel
theorem dX7_lines_74 : decode cX7_lines 74 = .ok (.invokevirtual 240, 3) := by decide +kernel
theorem dX7_lines_77 : decode cX7_lines 77 = .ok (.invokevirtual 203, 3) := by decide +kernel
theorem dX7_lines_80 : decode cX7_lines 80 = .ok (.ifCond .lt 7, 3) := by decide +kernel
theorem dX7_lines_83 : decode cX7_lines 83 = .ok (.iconst 1, 1) := by decide +kernel
theorem dX7_lines_84 : decode cX7_lines 84 = .ok (.goto 4, 3) := by decide +kernel
theorem dX7_lines_87 : decode cX7_lines 87 = .ok (.iconst 0, 1) := by decide +kernel
theorem dX7_lines_88 : decode cX7_lines 88 = .ok (.ireturn, 1) := by decide +kernel
set_option maxRecDepth 20000 in
theorem ggX7_does_X7_told : GoodIn wsX7_does wsX7_told := goodIn_r _ [6, 7, 183, 184, 185, 186, 187, 188, 189, 190, 191, 192, 193, 194, 195, 196, 197, 198] (by decide +kernel) (by decide +kernel)
set_option maxRecDepth 20000 in
theorem gX7_does_X7_told : GoodIn wsX7_does (wsV RX7 240 RX7 yX7_told wsX7_told) := goodIn_app (goodIn_of _ (by decide +kernel)) ggX7_does_X7_told
set_option maxRecDepth 20000 in
theorem ggX7_does_X7_joins : GoodIn wsX7_does wsX7_joins := goodIn_r _ [11, 1, 2, 3, 4, 5, 6, 7, 12, 13, 14, 15, 16, 17, 18, 19, 20, 21, 22, 23, 24, 25, 26, 27, 28, 29, 183, 184, 185, 186, 187, 188, 189, 190, 191, 192, 193, 194, 195, 196, 197, 198] (by decide +kernel) (by decide +kernel)
set_option maxRecDepth 20000 in
theorem gX7_does_X7_joins : GoodIn wsX7_does (wsV RX7 242 RX7 yX7_joins wsX7_joins) := goodIn_app (goodIn_of _ (by decide +kernel)) ggX7_does_X7_joins
set_option maxRecDepth 20000 in
theorem ggX7_does_X7_isFuture : GoodIn wsX7_does wsX7_isFuture := goodIn_r _ [33, 1, 183, 184, 185, 186, 187, 188, 189, 190, 191, 192, 193, 194, 195, 196, 197, 198] (by decide +kernel) (by decide +kernel)
set_option maxRecDepth 20000 in
theorem gX7_does_X7_isFuture : GoodIn wsX7_does (wsV RX7 188 RX7 yX7_isFuture wsX7_isFuture) := goodIn_app (goodIn_of _ (by decide +kernel)) ggX7_does_X7_isFuture
set_option maxRecDepth 20000 in
theorem ggX7_does_X7_canAnnounce : GoodIn wsX7_does wsX7_canAnnounce := goodIn_r _ [37, 1, 38, 39, 40, 5, 41, 183, 184, 185, 186, 187, 188, 189, 190, 191, 192, 193, 194, 195, 196, 197, 198] (by decide +kernel) (by decide +kernel)
set_option maxRecDepth 20000 in
theorem gX7_does_X7_canAnnounce : GoodIn wsX7_does (wsV RX7 191 RX7 yX7_canAnnounce wsX7_canAnnounce) := goodIn_app (goodIn_of _ (by decide +kernel)) ggX7_does_X7_canAnnounce
set_option maxRecDepth 20000 in
theorem ggX7_does_X7_announces : GoodIn wsX7_does wsX7_announces := goodIn_r _ [45, 1, 183, 184, 185, 186, 187, 188, 189, 190, 191, 192, 193, 194, 195, 196, 197, 198] (by decide +kernel) (by decide +kernel)
set_option maxRecDepth 20000 in
theorem gX7_does_X7_announces : GoodIn wsX7_does (wsV RX7 194 RX7 yX7_announces wsX7_announces) := goodIn_app (goodIn_of _ (by decide +kernel)) ggX7_does_X7_announces
set_option maxRecDepth 20000 in
theorem ggX7_does_X7_lines : GoodIn wsX7_does wsX7_lines := goodIn_r _ [49, 2, 3, 4, 5, 6, 7, 50, 51, 52, 53, 1, 15, 16, 17, 54, 55, 56, 57, 38, 39, 40, 41, 12, 13, 14, 58, 59, 60, 61, 62, 63, 64, 65, 66, 67, 68, 69, 183, 184, 185, 186, 187, 188, 189, 190, 191, 192, 193, 194, 195, 196, 197, 198] (by decide +kernel) (by decide +kernel)
set_option maxRecDepth 20000 in
theorem gX7_does_X7_lines : GoodIn wsX7_does (wsV RX7 245 RX7 yX7_lines wsX7_lines) := goodIn_app (goodIn_of _ (by decide +kernel)) ggX7_does_X7_lines
set_option maxRecDepth 20000 in
theorem ggX7_does_X7_isSinger : GoodIn wsX7_does wsX7_isSinger := goodIn_r _ [73, 1, 15, 16, 5, 17, 183, 184, 185, 186, 187, 188, 189, 190, 191, 192, 193, 194, 195, 196, 197, 198] (by decide +kernel) (by decide +kernel)
set_option maxRecDepth 20000 in
theorem gX7_does_X7_isSinger : GoodIn wsX7_does (wsV RX7 164 RX7 yX7_isSinger wsX7_isSinger) := goodIn_app (goodIn_of _ (by decide +kernel)) ggX7_does_X7_isSinger
set_option maxRecDepth 20000 in
theorem ggX7_does_X7_areDays : GoodIn wsX7_does wsX7_areDays := goodIn_r _ [77, 1, 183, 184, 185, 186, 187, 188, 189, 190, 191, 192, 193, 194, 195, 196, 197, 198] (by decide +kernel) (by decide +kernel)
set_option maxRecDepth 20000 in
theorem gX7_does_X7_areDays : GoodIn wsX7_does (wsV RX7 179 RX7 yX7_areDays wsX7_areDays) := goodIn_app (goodIn_of _ (by decide +kernel)) ggX7_does_X7_areDays
set_option maxRecDepth 20000 in
theorem ggX7_does_X7_canExcuse : GoodIn wsX7_does wsX7_canExcuse := goodIn_r _ [81, 1, 82, 83, 84, 5, 85, 86, 87, 88, 89, 183, 184, 185, 186, 187, 188, 189, 190, 191, 192, 193, 194, 195, 196, 197, 198] (by decide +kernel) (by decide +kernel)
set_option maxRecDepth 20000 in
theorem gX7_does_X7_canExcuse : GoodIn wsX7_does (wsV RX7 182 RX7 yX7_canExcuse wsX7_canExcuse) := goodIn_app (goodIn_of _ (by decide +kernel)) ggX7_does_X7_canExcuse
set_option maxRecDepth 20000 in
theorem ggX7_does_X7_excuses : GoodIn wsX7_does wsX7_excuses := goodIn_r _ [93, 1, 94, 86, 87, 88, 5, 89, 183, 184, 185, 186, 187, 188, 189, 190, 191, 192, 193, 194, 195, 196, 197, 198] (by decide +kernel) (by decide +kernel)
set_option maxRecDepth 20000 in
theorem gX7_does_X7_excuses : GoodIn wsX7_does (wsV RX7 185 RX7 yX7_excuses wsX7_excuses) := goodIn_app (goodIn_of _ (by decide +kernel)) ggX7_does_X7_excuses
set_option maxRecDepth 20000 in
theorem ggX7_does_X7_canLend : GoodIn wsX7_does wsX7_canLend := goodIn_r _ [98, 1, 82, 83, 84, 5, 85, 183, 184, 185, 186, 187, 188, 189, 190, 191, 192, 193, 194, 195, 196, 197, 198] (by decide +kernel) (by decide +kernel)
set_option maxRecDepth 20000 in
theorem gX7_does_X7_canLend : GoodIn wsX7_does (wsV RX7 173 RX7 yX7_canLend wsX7_canLend) := goodIn_app (goodIn_of _ (by decide +kernel)) ggX7_does_X7_canLend
set_option maxRecDepth 20000 in
theorem ggX7_does_X7_lends : GoodIn wsX7_does wsX7_lends := goodIn_r _ [102, 1, 26, 27, 28, 5, 29, 183, 184, 185, 186, 187, 188, 189, 190, 191, 192, 193, 194, 195, 196, 197, 198] (by decide +kernel) (by decide +kernel)
set_option maxRecDepth 20000 in
theorem gX7_does_X7_lends : GoodIn wsX7_does (wsV RX7 176 RX7 yX7_lends wsX7_lends) := goodIn_app (goodIn_of _ (by decide +kernel)) ggX7_does_X7_lends
set_option maxRecDepth 20000 in
theorem ggX7_does_X7_its : GoodIn wsX7_does wsX7_its := goodIn_r _ [85, 1, 183, 184, 185, 186, 187, 188, 189, 190, 191, 192, 193, 194, 195, 196, 197, 198] (by decide +kernel) (by decide +kernel)
set_option maxRecDepth 20000 in
theorem gX7_does_X7_its : GoodIn wsX7_does (wsV RX7 70 RX7 yX7_its wsX7_its) := goodIn_app (goodIn_of _ (by decide +kernel)) ggX7_does_X7_its
set_option maxRecDepth 20000 in
theorem ggX7_does_X7_leaves : GoodIn wsX7_does wsX7_leaves := goodIn_r _ [106, 26, 27, 28, 5, 29, 1, 107, 108, 109, 110, 82, 83, 84, 85, 183, 184, 185, 186, 187, 188, 189, 190, 191, 192, 193, 194, 195, 196, 197, 198] (by decide +kernel) (by decide +kernel)
set_option maxRecDepth 20000 in
theorem gX7_does_X7_leaves : GoodIn wsX7_does (wsV RX7 167 RX7 yX7_leaves wsX7_leaves) := goodIn_app (goodIn_of _ (by decide +kernel)) ggX7_does_X7_leaves
set_option maxRecDepth 20000 in
theorem ggX7_does_X7_passesMany_q1 : GoodIn wsX7_does ([Cond.code yX7_passesMany cX7_passesMany 4 (some .int)]) := goodIn_r _ [114] (by decide +kernel) (by decide +kernel)
set_option maxRecDepth 20000 in
theorem ggX7_does_X7_passesMany_q2 : GoodIn wsX7_does (wsX7_passesMany_r1) := goodIn_r _ [115, 116, 117, 5, 118, 1, 119, 120, 121, 122, 82, 83, 84, 85, 26, 27, 28, 29, 38, 39, 40, 41, 123, 124] (by decide +kernel) (by decide +kernel)
set_option maxRecDepth 20000 in
theorem ggX7_does_X7_passesMany_q3 : GoodIn wsX7_does (wsX7_passesMany_r2) := goodIn_r _ [125, 126, 127, 128, 129, 130, 131, 132, 133, 134, 135, 136, 137, 66, 67, 68, 69, 138, 139, 140, 141, 142, 143, 144] (by decide +kernel) (by decide +kernel)
set_option maxRecDepth 20000 in
theorem ggX7_does_X7_passesMany_q4 : GoodIn wsX7_does (wsX7_passesMany_r3) := goodIn_r _ [145, 86, 87, 88, 89, 146, 147, 148, 149, 15, 16, 17, 150, 151, 152, 153, 154, 155, 156, 157, 158, 159, 160, 161] (by decide +kernel) (by decide +kernel)
set_option maxRecDepth 20000 in
theorem ggX7_does_X7_passesMany_q5 : GoodIn wsX7_does (wsX7_passesMany_r4) := goodIn_r _ [162, 163, 164, 165, 166, 167, 168, 169, 170, 171, 172, 173, 174, 175, 176, 177, 178, 179, 180, 181, 182, 62, 63, 64] (by decide +kernel) (by decide +kernel)
set_option maxRecDepth 20000 in
theorem ggX7_does_X7_passesMany_q6 : GoodIn wsX7_does (wsX7_passesMany_r5) := goodIn_r _ [65] (by decide +kernel) (by decide +kernel)
set_option maxRecDepth 20000 in
theorem ggX7_does_X7_passesMany_q7 : GoodIn wsX7_does (wsX70) := goodIn_r _ [183, 184, 185, 186, 187, 188, 189, 190, 191, 192, 193, 194, 195, 196, 197, 198] (by decide +kernel) (by decide +kernel)
theorem ggX7_does_X7_passesMany : GoodIn wsX7_does wsX7_passesMany := (goodIn_app (a := [Cond.code yX7_passesMany cX7_passesMany 4 (some .int)]) ggX7_does_X7_passesMany_q1 (goodIn_app (goodIn_app ggX7_does_X7_passesMany_q2 (goodIn_app ggX7_does_X7_passesMany_q3 (goodIn_app ggX7_does_X7_passesMany_q4 (goodIn_app ggX7_does_X7_passesMany_q5 ggX7_does_X7_passesMany_q6)))) ggX7_does_X7_passesMany_q7))
set_option maxRecDepth 20000 in
theorem gX7_does_X7_passesMany : GoodIn wsX7_does (wsV RX7 206 RX7 yX7_passesMany wsX7_passesMany) := goodIn_app (goodIn_of _ (by decide +kernel)) ggX7_does_X7_passesMany
theorem dX7_does_0 : decode cX7_does 0 = .ok (.aload_n 0, 1) := by decide +kernel
theorem dX7_does_1 : decode cX7_does 1 = .ok (.iload_n 1, 1) := by decide +kernel
theorem dX7_does_2 : decode cX7_does 2 = .ok (.iconst 1, 1) := by decide +kernel
theorem dX7_does_3 : decode cX7_does 3 = .ok (.invokevirtual 240, 3) := by decide +kernel
theorem dX7_does_6 : decode cX7_does 6 = .ok (.istore_n 2, 1) := by decide +kernel
theorem dX7_does_7 : decode cX7_does 7 = .ok (.aload_n 0, 1) := by decide +kernel
theorem dX7_does_8 : decode cX7_does 8 = .ok (.iload_n 1, 1) := by decide +kernel
theorem dX7_does_9 : decode cX7_does 9 = .ok (.iconst 2, 1) := by decide +kernel
theorem dX7_does_10 : decode cX7_does 10 = .ok (.invokevirtual 240, 3) := by decide +kernel
theorem dX7_does_13 : decode cX7_does 13 = .ok (.istore_n 3, 1) := by decide +kernel
theorem dX7_does_14 : decode cX7_does 14 = .ok (.aload_n 0, 1) := by decide +kernel
theorem dX7_does_15 : decode cX7_does 15 = .ok (.iload_n 1, 1) := by decide +kernel
theorem dX7_does_16 : decode cX7_does 16 = .ok (.iconst 3, 1) := by decide +kernel
theorem dX7_does_17 : decode cX7_does 17 = .ok (.invokevirtual 240, 3) := by decide +kernel
theorem dX7_does_20 : decode cX7_does 20 = .ok (.istore 4, 2) := by decide +kernel
theorem dX7_does_22 : decode cX7_does 22 = .ok (.aload_n 0, 1) := by decide +kernel
theorem dX7_does_23 : decode cX7_does 23 = .ok (.iload_n 1, 1) := by decide +kernel
theorem dX7_does_24 : decode cX7_does 24 = .ok (.iconst 0, 1) := by decide +kernel
theorem dX7_does_25 : decode cX7_does 25 = .ok (.invokevirtual 240, 3) := by decide +kernel
theorem dX7_does_28 : decode cX7_does 28 = .ok (.tableswitch 246 102 120 #[98, 246, 246, 246, 92, 246, 129, 246, 135, 181, 246, 246, 246, 246, 246, 246, 246, 246, 214], 92) := by decide +kernel
theorem dX7_does_120 : decode cX7_does 120 = .ok (.aload_n 0, 1) := by decide +kernel
theorem dX7_does_121 : decode cX7_does 121 = .ok (.iload_n 1, 1) := by decide +kernel
theorem dX7_does_122 : decode cX7_does 122 = .ok (.invokevirtual 242, 3) := by decide +kernel
theorem dX7_does_125 : decode cX7_does 125 = .ok (.ireturn, 1) := by decide +kernel
theorem dX7_does_126 : decode cX7_does 126 = .ok (.aload_n 0, 1) := by decide +kernel
theorem dX7_does_127 : decode cX7_does 127 = .ok (.iload_n 2, 1) := by decide +kernel
theorem dX7_does_128 : decode cX7_does 128 = .ok (.invokevirtual 188, 3) := by decide +kernel
theorem dX7_does_131 : decode cX7_does 131 = .ok (.ifCond .eq 24, 3) := by decide +kernel
theorem dX7_does_134 : decode cX7_does 134 = .ok (.aload_n 0, 1) := by decide +kernel
theorem dX7_does_135 : decode cX7_does 135 = .ok (.iload_n 2, 1) := by decide +kernel
theorem dX7_does_136 : decode cX7_does 136 = .ok (.invokevirtual 191, 3) := by decide +kernel
theorem dX7_does_139 : decode cX7_does 139 = .ok (.ifCond .eq 16, 3) := by decide +kernel
theorem dX7_does_142 : decode cX7_does 142 = .ok (.aload_n 0, 1) := by decide +kernel
theorem dX7_does_143 : decode cX7_does 143 = .ok (.iload_n 2, 1) := by decide +kernel
theorem dX7_does_144 : decode cX7_does 144 = .ok (.iload_n 3, 1) := by decide +kernel
theorem dX7_does_145 : decode cX7_does 145 = .ok (.invokevirtual 194, 3) := by decide +kernel
theorem dX7_does_148 : decode cX7_does 148 = .ok (.ifCond .lt 7, 3) := by decide +kernel
theorem dX7_does_151 : decode cX7_does 151 = .ok (.iconst 1, 1) := by decide +kernel
theorem dX7_does_152 : decode cX7_does 152 = .ok (.goto 4, 3) := by decide +kernel
theorem dX7_does_155 : decode cX7_does 155 = .ok (.iconst 0, 1) := by decide +kernel
theorem dX7_does_156 : decode cX7_does 156 = .ok (.ireturn, 1) := by decide +kernel
theorem dX7_does_157 : decode cX7_does 157 = .ok (.aload_n 0, 1) := by decide +kernel
theorem dX7_does_158 : decode cX7_does 158 = .ok (.iload_n 1, 1) := by decide +kernel
theorem dX7_does_159 : decode cX7_does 159 = .ok (.invokevirtual 245, 3) := by decide +kernel
theorem dX7_does_162 : decode cX7_does 162 = .ok (.ireturn, 1) := by decide +kernel
theorem dX7_does_163 : decode cX7_does 163 = .ok (.aload_n 0, 1) := by decide +kernel
theorem dX7_does_164 : decode cX7_does 164 = .ok (.iload_n 2, 1) := by decide +kernel
theorem dX7_does_165 : decode cX7_does 165 = .ok (.invokevirtual 164, 3) := by decide +kernel
theorem dX7_does_168 : decode cX7_does 168 = .ok (.ifCond .eq 39, 3) := by decide +kernel
theorem dX7_does_171 : decode cX7_does 171 = .ok (.aload_n 0, 1) := by decide +kernel
theorem dX7_does_172 : decode cX7_does 172 = .ok (.iload_n 3, 1) := by decide +kernel
theorem dX7_does_173 : decode cX7_does 173 = .ok (.iload 4, 2) := by decide +kernel
theorem dX7_does_175 : decode cX7_does 175 = .ok (.invokevirtual 179, 3) := by decide +kernel
theorem dX7_does_178 : decode cX7_does 178 = .ok (.ifCond .eq 29, 3) := by decide +kernel
theorem dX7_does_181 : decode cX7_does 181 = .ok (.aload_n 0, 1) := by decide +kernel
theorem dX7_does_182 : decode cX7_does 182 = .ok (.iload_n 2, 1) := by decide +kernel
theorem dX7_does_183 : decode cX7_does 183 = .ok (.iload_n 3, 1) := by decide +kernel
theorem dX7_does_184 : decode cX7_does 184 = .ok (.iload 4, 2) := by decide +kernel
theorem dX7_does_186 : decode cX7_does 186 = .ok (.invokevirtual 182, 3) := by decide +kernel
theorem dX7_does_189 : decode cX7_does 189 = .ok (.ifCond .eq 18, 3) := by decide +kernel
theorem dX7_does_192 : decode cX7_does 192 = .ok (.aload_n 0, 1) := by decide +kernel
theorem dX7_does_193 : decode cX7_does 193 = .ok (.iload_n 2, 1) := by decide +kernel
theorem dX7_does_194 : decode cX7_does 194 = .ok (.iload_n 3, 1) := by decide +kernel
theorem dX7_does_195 : decode cX7_does 195 = .ok (.iload 4, 2) := by decide +kernel
theorem dX7_does_197 : decode cX7_does 197 = .ok (.invokevirtual 185, 3) := by decide +kernel
theorem dX7_does_200 : decode cX7_does 200 = .ok (.ifCond .le 7, 3) := by decide +kernel
theorem dX7_does_203 : decode cX7_does 203 = .ok (.iconst 1, 1) := by decide +kernel
theorem dX7_does_204 : decode cX7_does 204 = .ok (.goto 4, 3) := by decide +kernel
theorem dX7_does_207 : decode cX7_does 207 = .ok (.iconst 0, 1) := by decide +kernel
theorem dX7_does_208 : decode cX7_does 208 = .ok (.ireturn, 1) := by decide +kernel
theorem dX7_does_209 : decode cX7_does 209 = .ok (.aload_n 0, 1) := by decide +kernel
theorem dX7_does_210 : decode cX7_does 210 = .ok (.iload_n 2, 1) := by decide +kernel
theorem dX7_does_211 : decode cX7_does 211 = .ok (.invokevirtual 164, 3) := by decide +kernel
theorem dX7_does_214 : decode cX7_does 214 = .ok (.ifCond .eq 26, 3) := by decide +kernel
theorem dX7_does_217 : decode cX7_does 217 = .ok (.aload_n 0, 1) := by decide +kernel
theorem dX7_does_218 : decode cX7_does 218 = .ok (.iload_n 2, 1) := by decide +kernel
theorem dX7_does_219 : decode cX7_does 219 = .ok (.invokevirtual 173, 3) := by decide +kernel
theorem dX7_does_222 : decode cX7_does 222 = .ok (.ifCond .eq 18, 3) := by decide +kernel
theorem dX7_does_225 : decode cX7_does 225 = .ok (.aload_n 0, 1) := by decide +kernel
theorem dX7_does_226 : decode cX7_does 226 = .ok (.iload_n 2, 1) := by decide +kernel
theorem dX7_does_227 : decode cX7_does 227 = .ok (.iload_n 3, 1) := by decide +kernel
theorem dX7_does_228 : decode cX7_does 228 = .ok (.iload 4, 2) := by decide +kernel
theorem dX7_does_230 : decode cX7_does 230 = .ok (.invokevirtual 176, 3) := by decide +kernel
theorem dX7_does_233 : decode cX7_does 233 = .ok (.ifCond .le 7, 3) := by decide +kernel
theorem dX7_does_236 : decode cX7_does 236 = .ok (.iconst 1, 1) := by decide +kernel
theorem dX7_does_237 : decode cX7_does 237 = .ok (.goto 4, 3) := by decide +kernel
theorem dX7_does_240 : decode cX7_does 240 = .ok (.iconst 0, 1) := by decide +kernel
theorem dX7_does_241 : decode cX7_does 241 = .ok (.ireturn, 1) := by decide +kernel
theorem dX7_does_242 : decode cX7_does 242 = .ok (.aload_n 0, 1) := by decide +kernel
theorem dX7_does_243 : decode cX7_does 243 = .ok (.iload_n 2, 1) := by decide +kernel
theorem dX7_does_244 : decode cX7_does 244 = .ok (.invokevirtual 164, 3) := by decide +kernel
theorem dX7_does_247 : decode cX7_does 247 = .ok (.ifCond .eq 25, 3) := by decide +kernel
theorem dX7_does_250 : decode cX7_does 250 = .ok (.aload_n 0, 1) := by decide +kernel
theorem dX7_does_251 : decode cX7_does 251 = .ok (.iload_n 2, 1) := by decide +kernel
theorem dX7_does_252 : decode cX7_does 252 = .ok (.bipush 7, 2) := by decide +kernel
theorem dX7_does_254 : decode cX7_does 254 = .ok (.invokevirtual 70, 3) := by decide +kernel
theorem dX7_does_257 : decode cX7_does 257 = .ok (.ifCond .ne 15, 3) := by decide +kernel
theorem dX7_does_260 : decode cX7_does 260 = .ok (.aload_n 0, 1) := by decide +kernel
theorem dX7_does_261 : decode cX7_does 261 = .ok (.iload_n 2, 1) := by decide +kernel
theorem dX7_does_262 : decode cX7_does 262 = .ok (.invokevirtual 167, 3) := by decide +kernel
theorem dX7_does_265 : decode cX7_does 265 = .ok (.ifCond .lt 7, 3) := by decide +kernel
theorem dX7_does_268 : decode cX7_does 268 = .ok (.iconst 1, 1) := by decide +kernel
theorem dX7_does_269 : decode cX7_does 269 = .ok (.goto 4, 3) := by decide +kernel
theorem dX7_does_272 : decode cX7_does 272 = .ok (.iconst 0, 1) := by decide +kernel
theorem dX7_does_273 : decode cX7_does 273 = .ok (.ireturn, 1) := by decide +kernel
theorem dX7_does_274 : decode cX7_does 274 = .ok (.aload_n 0, 1) := by decide +kernel
theorem dX7_does_275 : decode cX7_does 275 = .ok (.getfield 7, 3) := by decide +kernel
theorem dX7_does_278 : decode cX7_does 278 = .ok (.iconst 0, 1) := by decide +kernel
theorem dX7_does_279 : decode cX7_does 279 = .ok (.iaload, 1) := by decide +kernel
theorem dX7_does_280 : decode cX7_does 280 = .ok (.iload_n 2, 1) := by decide +kernel
theorem dX7_does_281 : decode cX7_does 281 = .ok (.iadd, 1) := by decide +kernel
theorem dX7_does_282 : decode cX7_does 282 = .ok (.sipush 9999, 3) := by decide +kernel
theorem dX7_does_285 : decode cX7_does 285 = .ok (.if_icmp .gt 15, 3) := by decide +kernel
theorem dX7_does_288 : decode cX7_does 288 = .ok (.aload_n 0, 1) := by decide +kernel
theorem dX7_does_289 : decode cX7_does 289 = .ok (.iload_n 2, 1) := by decide +kernel
theorem dX7_does_290 : decode cX7_does 290 = .ok (.invokevirtual 206, 3) := by decide +kernel
theorem dX7_does_293 : decode cX7_does 293 = .ok (.ifCond .lt 7, 3) := by decide +kernel
theorem dX7_does_296 : decode cX7_does 296 = .ok (.iconst 1, 1) := by decide +kernel
theorem dX7_does_297 : decode cX7_does 297 = .ok (.goto 4, 3) := by decide +kernel
theorem dX7_does_300 : decode cX7_does 300 = .ok (.iconst 0, 1) := by decide +kernel
theorem dX7_does_301 : decode cX7_does 301 = .ok (.ireturn, 1) := by decide +kernel
set_option maxRecDepth 20000 in
theorem ggX7_doesAll_X7_does_q1 : GoodIn wsX7_doesAll ([Cond.code yX7_does cX7_does 5 (some .boolean)]) := goodIn_r _ [6] (by decide +kernel) (by decide +kernel)
