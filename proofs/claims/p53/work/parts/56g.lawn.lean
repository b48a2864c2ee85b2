/-! the law's names -/
theorem dL_turns_59 : decode cL_turns 59 = .ok (.invokevirtual 53, 3) := by decide +kernel
theorem dL_turns_62 : decode cL_turns 62 = .ok (.iload_n 1, 1) := by decide +kernel
theorem dL_turns_63 : decode cL_turns 63 = .ok (.if_icmp .ne 17, 3) := by decide +kernel
theorem dL_turns_66 : decode cL_turns 66 = .ok (.aload_n 0, 1) := by decide +kernel
theorem dL_turns_67 : decode cL_turns 67 = .ok (.iload_n 1, 1) := by decide +kernel
theorem dL_turns_68 : decode cL_turns 68 = .ok (.iconst 0, 1) := by decide +kernel
theorem dL_turns_69 : decode cL_turns 69 = .ok (.iconst 3, 1) := by decide +kernel
theorem dL_turns_70 : decode cL_turns 70 = .ok (.iconst 0, 1) := by decide +kernel
theorem dL_turns_71 : decode cL_turns 71 = .ok (.bipush 48, 2) := by decide +kernel
theorem dL_turns_73 : decode cL_turns 73 = .ok (.invokevirtual 57, 3) := by decide +kernel
theorem dL_turns_76 : decode cL_turns 76 = .ok (.iconst 3, 1) := by decide +kernel
theorem dL_turns_77 : decode cL_turns 77 = .ok (.if_icmp .eq 5, 3) := by decide +kernel
theorem dL_turns_80 : decode cL_turns 80 = .ok (.iconst 0, 1) := by decide +kernel
theorem dL_turns_81 : decode cL_turns 81 = .ok (.ireturn, 1) := by decide +kernel
theorem dL_turns_82 : decode cL_turns 82 = .ok (.iinc 1 1, 3) := by decide +kernel
theorem dL_turns_85 : decode cL_turns 85 = .ok (.goto (-37), 3) := by decide +kernel
theorem dL_turns_88 : decode cL_turns 88 = .ok (.iconst 0, 1) := by decide +kernel
theorem dL_turns_89 : decode cL_turns 89 = .ok (.istore_n 1, 1) := by decide +kernel
theorem dL_turns_90 : decode cL_turns 90 = .ok (.iload_n 1, 1) := by decide +kernel
theorem dL_turns_91 : decode cL_turns 91 = .ok (.iconst 5, 1) := by decide +kernel
theorem dL_turns_92 : decode cL_turns 92 = .ok (.if_icmp .ge 66, 3) := by decide +kernel
theorem dL_turns_95 : decode cL_turns 95 = .ok (.iconst 4, 1) := by decide +kernel
theorem dL_turns_96 : decode cL_turns 96 = .ok (.iload_n 1, 1) := by decide +kernel
theorem dL_turns_97 : decode cL_turns 97 = .ok (.isub, 1) := by decide +kernel
theorem dL_turns_98 : decode cL_turns 98 = .ok (.iconst 3, 1) := by decide +kernel
theorem dL_turns_99 : decode cL_turns 99 = .ok (.irem, 1) := by decide +kernel
theorem dL_turns_100 : decode cL_turns 100 = .ok (.ifCond .ne 7, 3) := by decide +kernel
theorem dL_turns_103 : decode cL_turns 103 = .ok (.iconst 1, 1) := by decide +kernel
theorem dL_turns_104 : decode cL_turns 104 = .ok (.goto 17, 3) := by decide +kernel
theorem dL_turns_107 : decode cL_turns 107 = .ok (.iconst 4, 1) := by decide +kernel
theorem dL_turns_108 : decode cL_turns 108 = .ok (.iload_n 1, 1) := by decide +kernel
theorem dL_turns_109 : decode cL_turns 109 = .ok (.isub, 1) := by decide +kernel
theorem dL_turns_110 : decode cL_turns 110 = .ok (.iconst 3, 1) := by decide +kernel
theorem dL_turns_111 : decode cL_turns 111 = .ok (.irem, 1) := by decide +kernel
theorem dL_turns_112 : decode cL_turns 112 = .ok (.iconst 1, 1) := by decide +kernel
theorem dL_turns_113 : decode cL_turns 113 = .ok (.if_icmp .ne 7, 3) := by decide +kernel
theorem dL_turns_116 : decode cL_turns 116 = .ok (.iconst 0, 1) := by decide +kernel
theorem dL_turns_117 : decode cL_turns 117 = .ok (.goto 4, 3) := by decide +kernel
theorem dL_turns_120 : decode cL_turns 120 = .ok (.iconst 2, 1) := by decide +kernel
theorem dL_turns_121 : decode cL_turns 121 = .ok (.istore_n 2, 1) := by decide +kernel
theorem dL_turns_122 : decode cL_turns 122 = .ok (.aload_n 0, 1) := by decide +kernel
theorem dL_turns_123 : decode cL_turns 123 = .ok (.iload_n 1, 1) := by decide +kernel
theorem dL_turns_124 : decode cL_turns 124 = .ok (.invokevirtual 113, 3) := by decide +kernel
theorem dL_turns_127 : decode cL_turns 127 = .ok (.iload_n 2, 1) := by decide +kernel
theorem dL_turns_128 : decode cL_turns 128 = .ok (.if_icmp .ne 22, 3) := by decide +kernel
theorem dL_turns_131 : decode cL_turns 131 = .ok (.aload_n 0, 1) := by decide +kernel
theorem dL_turns_132 : decode cL_turns 132 = .ok (.iload_n 1, 1) := by decide +kernel
theorem dL_turns_133 : decode cL_turns 133 = .ok (.invokevirtual 104, 3) := by decide +kernel
theorem dL_turns_136 : decode cL_turns 136 = .ok (.ifCond .ne 14, 3) := by decide +kernel
theorem dL_turns_139 : decode cL_turns 139 = .ok (.aload_n 0, 1) := by decide +kernel
theorem dL_turns_140 : decode cL_turns 140 = .ok (.iload_n 1, 1) := by decide +kernel
theorem dL_turns_141 : decode cL_turns 141 = .ok (.iconst 2, 1) := by decide +kernel
theorem dL_turns_142 : decode cL_turns 142 = .ok (.iconst 1, 1) := by decide +kernel
theorem dL_turns_143 : decode cL_turns 143 = .ok (.iconst 0, 1) := by decide +kernel
theorem dL_turns_144 : decode cL_turns 144 = .ok (.invokestatic 228, 3) := by decide +kernel
theorem dL_turns_147 : decode cL_turns 147 = .ok (.ifCond .ne 5, 3) := by decide +kernel
theorem dL_turns_150 : decode cL_turns 150 = .ok (.iconst 0, 1) := by decide +kernel
theorem dL_turns_151 : decode cL_turns 151 = .ok (.ireturn, 1) := by decide +kernel
theorem dL_turns_152 : decode cL_turns 152 = .ok (.iinc 1 1, 3) := by decide +kernel
theorem dL_turns_155 : decode cL_turns 155 = .ok (.goto (-65), 3) := by decide +kernel
theorem dL_turns_158 : decode cL_turns 158 = .ok (.aload_n 0, 1) := by decide +kernel
theorem dL_turns_159 : decode cL_turns 159 = .ok (.bipush 7, 2) := by decide +kernel
theorem dL_turns_161 : decode cL_turns 161 = .ok (.invokevirtual 60, 3) := by decide +kernel
theorem dL_turns_164 : decode cL_turns 164 = .ok (.iconst 3, 1) := by decide +kernel
theorem dL_turns_165 : decode cL_turns 165 = .ok (.if_icmp .ne 146, 3) := by decide +kernel
theorem dL_turns_168 : decode cL_turns 168 = .ok (.aload_n 0, 1) := by decide +kernel
theorem dL_turns_169 : decode cL_turns 169 = .ok (.iconst 4, 1) := by decide +kernel
theorem dL_turns_170 : decode cL_turns 170 = .ok (.invokevirtual 113, 3) := by decide +kernel
theorem dL_turns_173 : decode cL_turns 173 = .ok (.iconst 1, 1) := by decide +kernel
theorem dL_turns_174 : decode cL_turns 174 = .ok (.if_icmp .ne 137, 3) := by decide +kernel
theorem dL_turns_177 : decode cL_turns 177 = .ok (.aload_n 0, 1) := by decide +kernel
theorem dL_turns_178 : decode cL_turns 178 = .ok (.iconst 3, 1) := by decide +kernel
theorem dL_turns_179 : decode cL_turns 179 = .ok (.invokevirtual 113, 3) := by decide +kernel
theorem dL_turns_182 : decode cL_turns 182 = .ok (.ifCond .ne 129, 3) := by decide +kernel
theorem dL_turns_185 : decode cL_turns 185 = .ok (.aload_n 0, 1) := by decide +kernel
theorem dL_turns_186 : decode cL_turns 186 = .ok (.iconst 2, 1) := by decide +kernel
theorem dL_turns_187 : decode cL_turns 187 = .ok (.invokevirtual 113, 3) := by decide +kernel
theorem dL_turns_190 : decode cL_turns 190 = .ok (.iconst 2, 1) := by decide +kernel
theorem dL_turns_191 : decode cL_turns 191 = .ok (.if_icmp .ne 120, 3) := by decide +kernel
theorem dL_turns_194 : decode cL_turns 194 = .ok (.aload_n 0, 1) := by decide +kernel
theorem dL_turns_195 : decode cL_turns 195 = .ok (.iconst 1, 1) := by decide +kernel
theorem dL_turns_196 : decode cL_turns 196 = .ok (.invokevirtual 113, 3) := by decide +kernel
theorem dL_turns_199 : decode cL_turns 199 = .ok (.iconst 1, 1) := by decide +kernel
theorem dL_turns_200 : decode cL_turns 200 = .ok (.if_icmp .ne 111, 3) := by decide +kernel
theorem dL_turns_203 : decode cL_turns 203 = .ok (.aload_n 0, 1) := by decide +kernel
theorem dL_turns_204 : decode cL_turns 204 = .ok (.iconst 0, 1) := by decide +kernel
theorem dL_turns_205 : decode cL_turns 205 = .ok (.invokevirtual 113, 3) := by decide +kernel
theorem dL_turns_208 : decode cL_turns 208 = .ok (.ifCond .ne 103, 3) := by decide +kernel
theorem dL_turns_211 : decode cL_turns 211 = .ok (.aload_n 0, 1) := by decide +kernel
theorem dL_turns_212 : decode cL_turns 212 = .ok (.iconst 2, 1) := by decide +kernel
theorem dL_turns_213 : decode cL_turns 213 = .ok (.invokevirtual 92, 3) := by decide +kernel
theorem dL_turns_216 : decode cL_turns 216 = .ok (.iconst 1, 1) := by decide +kernel
theorem dL_turns_217 : decode cL_turns 217 = .ok (.if_icmp .ne 94, 3) := by decide +kernel
theorem dL_turns_220 : decode cL_turns 220 = .ok (.aload_n 0, 1) := by decide +kernel
theorem dL_turns_221 : decode cL_turns 221 = .ok (.bipush 59, 2) := by decide +kernel
theorem dL_turns_223 : decode cL_turns 223 = .ok (.bipush 9, 2) := by decide +kernel
theorem dL_turns_225 : decode cL_turns 225 = .ok (.iconst 0, 1) := by decide +kernel
theorem dL_turns_226 : decode cL_turns 226 = .ok (.iconst 0, 1) := by decide +kernel
theorem dL_turns_227 : decode cL_turns 227 = .ok (.invokestatic 208, 3) := by decide +kernel
theorem dL_turns_230 : decode cL_turns 230 = .ok (.ifCond .eq 81, 3) := by decide +kernel
theorem dL_turns_233 : decode cL_turns 233 = .ok (.aload_n 0, 1) := by decide +kernel
theorem dL_turns_234 : decode cL_turns 234 = .ok (.iconst 1, 1) := by decide +kernel
theorem dL_turns_235 : decode cL_turns 235 = .ok (.invokevirtual 38, 3) := by decide +kernel
theorem dL_turns_238 : decode cL_turns 238 = .ok (.iconst 2, 1) := by decide +kernel
theorem dL_turns_239 : decode cL_turns 239 = .ok (.if_icmp .ne 72, 3) := by decide +kernel
theorem dL_turns_242 : decode cL_turns 242 = .ok (.aload_n 0, 1) := by decide +kernel
theorem dL_turns_243 : decode cL_turns 243 = .ok (.iconst 1, 1) := by decide +kernel
theorem dL_turns_244 : decode cL_turns 244 = .ok (.invokevirtual 113, 3) := by decide +kernel
theorem dL_turns_247 : decode cL_turns 247 = .ok (.ifCond .ne 64, 3) := by decide +kernel
theorem dL_turns_250 : decode cL_turns 250 = .ok (.aload_n 0, 1) := by decide +kernel
theorem dL_turns_251 : decode cL_turns 251 = .ok (.iconst 0, 1) := by decide +kernel
theorem dL_turns_252 : decode cL_turns 252 = .ok (.invokevirtual 113, 3) := by decide +kernel
theorem dL_turns_255 : decode cL_turns 255 = .ok (.iconst 2, 1) := by decide +kernel
theorem dL_turns_256 : decode cL_turns 256 = .ok (.if_icmp .ne 55, 3) := by decide +kernel
theorem dL_turns_259 : decode cL_turns 259 = .ok (.aload_n 0, 1) := by decide +kernel
theorem dL_turns_260 : decode cL_turns 260 = .ok (.iconst 0, 1) := by decide +kernel
theorem dL_turns_261 : decode cL_turns 261 = .ok (.invokevirtual 104, 3) := by decide +kernel
theorem dL_turns_264 : decode cL_turns 264 = .ok (.iconst 1, 1) := by decide +kernel
theorem dL_turns_265 : decode cL_turns 265 = .ok (.if_icmp .ne 46, 3) := by decide +kernel
theorem dL_turns_268 : decode cL_turns 268 = .ok (.aload_n 0, 1) := by decide +kernel
theorem dL_turns_269 : decode cL_turns 269 = .ok (.iconst 1, 1) := by decide +kernel
theorem dL_turns_270 : decode cL_turns 270 = .ok (.invokevirtual 110, 3) := by decide +kernel
theorem dL_turns_273 : decode cL_turns 273 = .ok (.ifCond .ne 38, 3) := by decide +kernel
theorem dL_turns_276 : decode cL_turns 276 = .ok (.aload_n 0, 1) := by decide +kernel
theorem dL_turns_277 : decode cL_turns 277 = .ok (.iconst 2, 1) := by decide +kernel
theorem dL_turns_278 : decode cL_turns 278 = .ok (.invokevirtual 60, 3) := by decide +kernel
theorem dL_turns_281 : decode cL_turns 281 = .ok (.iconst 2, 1) := by decide +kernel
theorem dL_turns_282 : decode cL_turns 282 = .ok (.if_icmp .ne 29, 3) := by decide +kernel
theorem dL_turns_285 : decode cL_turns 285 = .ok (.aload_n 0, 1) := by decide +kernel
theorem dL_turns_286 : decode cL_turns 286 = .ok (.iconst 0, 1) := by decide +kernel
theorem dL_turns_287 : decode cL_turns 287 = .ok (.invokevirtual 92, 3) := by decide +kernel
theorem dL_turns_290 : decode cL_turns 290 = .ok (.iconst 2, 1) := by decide +kernel
theorem dL_turns_291 : decode cL_turns 291 = .ok (.if_icmp .ne 20, 3) := by decide +kernel
theorem dL_turns_294 : decode cL_turns 294 = .ok (.aload_n 0, 1) := by decide +kernel
theorem dL_turns_295 : decode cL_turns 295 = .ok (.bipush 61, 2) := by decide +kernel
theorem dL_turns_297 : decode cL_turns 297 = .ok (.bipush 13, 2) := by decide +kernel
theorem dL_turns_299 : decode cL_turns 299 = .ok (.iconst 0, 1) := by decide +kernel
theorem dL_turns_300 : decode cL_turns 300 = .ok (.iconst 2, 1) := by decide +kernel
theorem dL_turns_301 : decode cL_turns 301 = .ok (.invokestatic 208, 3) := by decide +kernel
theorem dL_turns_304 : decode cL_turns 304 = .ok (.ifCond .eq 7, 3) := by decide +kernel
theorem dL_turns_307 : decode cL_turns 307 = .ok (.iconst 1, 1) := by decide +kernel
theorem dL_turns_308 : decode cL_turns 308 = .ok (.goto 4, 3) := by decide +kernel
theorem dL_turns_311 : decode cL_turns 311 = .ok (.iconst 0, 1) := by decide +kernel
theorem dL_turns_312 : decode cL_turns 312 = .ok (.ireturn, 1) := by decide +kernel
set_option maxRecDepth 20000 in
theorem ggL_limits_X6_init : GoodIn wsL_limits wsX6_init := goodIn_r _ [6, 7, 8, 9, 10, 11, 12, 13, 14, 15, 16, 17, 18, 19, 20, 21, 22, 23, 24, 25, 26, 27, 28, 29, 30, 31, 32, 33, 34, 35, 36, 37, 38, 39, 40, 41, 42, 43, 44, 45, 46, 47, 48, 49, 50, 51, 52, 53, 54, 55, 56, 57, 58, 59, 60, 61, 62, 63, 64, 65, 66, 67, 68, 69, 70, 71, 72, 73, 74, 75, 76, 77, 78, 79, 80, 81, 82, 83, 84, 85, 86, 87, 88, 89, 90, 91, 92, 93, 94, 95, 96, 97, 98, 99, 100, 101, 869, 870, 871, 872, 873, 874, 875, 876, 877, 878, 861, 862, 863, 864, 865, 866, 867, 868, 879, 880, 881, 882, 883, 884, 885, 886, 887, 888, 889, 890, 891, 892, 893, 894, 895, 896, 897, 898, 899, 900, 901, 902, 903, 904, 905, 906, 907, 908, 909, 910, 911, 912, 913] rfl (by decide +kernel)
set_option maxRecDepth 20000 in
theorem gL_limits_X6_init : GoodIn wsL_limits (wsX6_init) := ggL_limits_X6_init
set_option maxRecDepth 20000 in
theorem ggL_limits_X6_borrow : GoodIn wsL_limits wsX6_borrow := goodIn_ca (goodIn_ca (goodIn_ca (goodIn_r _ [105, 13, 106, 107, 108, 12, 109, 34, 44, 110, 3, 111, 112, 113, 114, 115, 116, 117, 118, 119, 120, 33, 121, 53, 122, 123, 124, 125, 126, 127, 128, 129, 130, 131, 132, 133, 134, 18, 17, 135, 136, 137, 138, 139, 140, 141, 142, 30, 38, 42, 143, 144, 145, 146, 45, 46, 47, 48, 49, 147, 148, 149, 150, 54, 151, 55, 56, 57, 58, 59, 60, 61, 62, 63, 64, 152, 153, 154, 37, 155, 68, 69, 156, 70, 71, 157, 158, 159, 41, 160, 75, 76, 161, 77, 78, 80, 81, 82, 83, 162, 163, 164, 165, 166, 167, 168, 169, 170, 171, 172, 173, 861, 862, 863, 864, 865, 866, 867, 868, 869, 870, 871, 872, 873, 874, 875, 876, 877, 878, 890, 891, 892, 893, 894, 895, 896, 897, 898, 899, 900, 901, 902, 903, 904, 905, 906, 907, 908, 909, 910, 911, 912, 913] rfl (by decide +kernel)) (goodIn_sub (fun _ h => List.mem_cons_of_mem _ (List.mem_append_left _ (List.mem_append_left _ (List.mem_append_right _ h)))) (by decide +kernel))) (goodIn_sub (fun _ h => List.mem_cons_of_mem _ (List.mem_append_left _ (List.mem_append_right _ h))) (by decide +kernel))) (goodIn_sub (fun _ h => List.mem_cons_of_mem _ (List.mem_append_right _ h)) (by decide +kernel))
set_option maxRecDepth 20000 in
theorem gL_limits_X6_borrow : GoodIn wsL_limits (wsV RL 42 RX6 yX6_borrow wsX6_borrow) := goodIn_app (goodIn_of _ (by decide +kernel)) ggL_limits_X6_borrow
set_option maxRecDepth 20000 in
theorem ggL_limits_X6_favoursOf : GoodIn wsL_limits wsX6_favoursOf := goodIn_ca (goodIn_ca (goodIn_ca (goodIn_r _ [177, 13, 178, 114, 110, 3, 111, 122, 123, 124, 125, 126, 127, 128, 129, 130, 861, 862, 863, 864, 865, 866, 867, 868, 869, 870, 871, 872, 873, 874, 875, 876, 877, 878] rfl (by decide +kernel)) (goodIn_sub (fun _ h => List.mem_cons_of_mem _ (List.mem_append_left _ (List.mem_append_left _ (List.mem_append_right _ h)))) (by decide +kernel))) (goodIn_sub (fun _ h => List.mem_cons_of_mem _ (List.mem_append_left _ (List.mem_append_right _ h))) (by decide +kernel))) (goodIn_sub (fun _ h => List.mem_cons_of_mem _ (List.mem_append_right _ h)) (by decide +kernel))
set_option maxRecDepth 20000 in
theorem gL_limits_X6_favoursOf : GoodIn wsL_limits (wsV RL 95 RX6 yX6_favoursOf wsX6_favoursOf) := goodIn_app (goodIn_of _ (by decide +kernel)) ggL_limits_X6_favoursOf
set_option maxRecDepth 20000 in
theorem ggL_limits_L_borrowed : GoodIn wsL_limits wsL_borrowed := goodIn_ca (goodIn_ca (goodIn_ca (goodIn_r _ [182, 183, 184, 185, 102, 103, 104, 3, 105, 13, 106, 107, 108, 12, 109, 34, 44, 110, 111, 112, 113, 114, 115, 116, 117, 118, 119, 120, 33, 121, 53, 122, 123, 124, 125, 126, 127, 128, 129, 130, 131, 132, 133, 134, 18, 17, 135, 136, 137, 138, 139, 140, 141, 142, 30, 38, 42, 143, 144, 145, 146, 45, 46, 47, 48, 49, 147, 148, 149, 150, 54, 151, 55, 56, 57, 58, 59, 60, 61, 62, 63, 64, 152, 153, 154, 37, 155, 68, 69, 156, 70, 71, 157, 158, 159, 41, 160, 75, 76, 161, 77, 78, 80, 81, 82, 83, 162, 163, 164, 165, 166, 167, 168, 169, 170, 171, 172, 173, 861, 862, 863, 864, 865, 866, 867, 868, 869, 870, 871, 872, 873, 874, 875, 876, 877, 878, 890, 891, 892, 893, 894, 895, 896, 897, 898, 899, 900, 901, 902, 903, 904, 905, 906, 907, 908, 909, 910, 911, 912, 913] rfl (by decide +kernel)) (goodIn_sub (fun _ h => List.mem_cons_of_mem _ (List.mem_append_left _ (List.mem_append_left _ (List.mem_append_right _ h)))) (by decide +kernel))) (goodIn_sub (fun _ h => List.mem_cons_of_mem _ (List.mem_append_left _ (List.mem_append_right _ h))) (by decide +kernel))) (goodIn_sub (fun _ h => List.mem_cons_of_mem _ (List.mem_append_right _ h)) (by decide +kernel))
set_option maxRecDepth 20000 in
theorem gL_limits_L_borrowed : GoodIn wsL_limits (va_wsS RL 184 yL_borrowed wsL_borrowed) := goodIn_app (goodIn_of _ (by decide +kernel)) ggL_limits_L_borrowed
set_option maxRecDepth 20000 in
theorem ggL_limits_X6_register : GoodIn wsL_limits wsX6_register := goodIn_ca (goodIn_ca (goodIn_ca (goodIn_r _ [189, 13, 190, 191, 192, 12, 193, 34, 110, 3, 111, 112, 113, 114, 115, 116, 117, 118, 119, 120, 33, 121, 53, 122, 123, 124, 125, 126, 127, 128, 129, 130, 131, 132, 133, 134, 18, 17, 135, 136, 137, 138, 139, 140, 141, 142, 30, 38, 42, 44, 143, 144, 145, 146, 45, 46, 47, 48, 49, 147, 148, 149, 150, 54, 151, 55, 56, 57, 58, 59, 60, 61, 62, 63, 64, 152, 153, 154, 37, 155, 68, 69, 156, 70, 71, 157, 158, 159, 41, 160, 75, 76, 161, 77, 78, 80, 81, 82, 83, 194, 195, 196, 197, 198, 169, 170, 171, 172, 173, 861, 862, 863, 864, 865, 866, 867, 868, 869, 870, 871, 872, 873, 874, 875, 876, 877, 878, 890, 891, 892, 893, 894, 895, 896, 897, 898, 899, 900, 901, 902, 903, 904, 905, 906, 907, 908, 909, 910, 911, 912, 913] rfl (by decide +kernel)) (goodIn_sub (fun _ h => List.mem_cons_of_mem _ (List.mem_append_left _ (List.mem_append_left _ (List.mem_append_right _ h)))) (by decide +kernel))) (goodIn_sub (fun _ h => List.mem_cons_of_mem _ (List.mem_append_left _ (List.mem_append_right _ h))) (by decide +kernel))) (goodIn_sub (fun _ h => List.mem_cons_of_mem _ (List.mem_append_right _ h)) (by decide +kernel))
set_option maxRecDepth 20000 in
theorem gL_limits_X6_register : GoodIn wsL_limits (wsV RL 32 RX6 yX6_register wsX6_register) := goodIn_app (goodIn_of _ (by decide +kernel)) ggL_limits_X6_register
set_option maxRecDepth 20000 in
theorem ggL_limits_X6_breakDayOf : GoodIn wsL_limits wsX6_breakDayOf := goodIn_ca (goodIn_ca (goodIn_ca (goodIn_r _ [202, 13, 203, 204, 205, 206, 207, 3, 208, 209, 210, 211, 33, 212, 53, 122, 123, 124, 125, 126, 127, 128, 129, 130, 861, 862, 863, 864, 865, 866, 867, 868, 869, 870, 871, 872, 873, 874, 875, 876, 877, 878, 890, 891, 892, 893, 894, 895, 896, 897, 898, 899, 900, 901] rfl (by decide +kernel)) (goodIn_sub (fun _ h => List.mem_cons_of_mem _ (List.mem_append_left _ (List.mem_append_left _ (List.mem_append_right _ h)))) (by decide +kernel))) (goodIn_sub (fun _ h => List.mem_cons_of_mem _ (List.mem_append_left _ (List.mem_append_right _ h))) (by decide +kernel))) (goodIn_sub (fun _ h => List.mem_cons_of_mem _ (List.mem_append_right _ h)) (by decide +kernel))
set_option maxRecDepth 20000 in
theorem gL_limits_X6_breakDayOf : GoodIn wsL_limits (wsV RL 76 RX6 yX6_breakDayOf wsX6_breakDayOf) := goodIn_app (goodIn_of _ (by decide +kernel)) ggL_limits_X6_breakDayOf
set_option maxRecDepth 20000 in
theorem ggL_limits_X6_lend : GoodIn wsL_limits wsX6_lend := goodIn_ca (goodIn_ca (goodIn_ca (goodIn_r _ [216, 13, 217, 218, 219, 12, 220, 34, 30, 166, 221, 210, 211, 33, 212, 53, 110, 3, 111, 222, 223, 224, 225, 61, 226, 227, 228, 229, 62, 122, 123, 124, 125, 126, 127, 128, 129, 130, 131, 132, 133, 134, 18, 17, 135, 136, 137, 138, 139, 140, 141, 142, 38, 42, 44, 143, 144, 145, 146, 45, 46, 47, 48, 49, 147, 148, 149, 150, 54, 151, 55, 56, 57, 58, 59, 60, 63, 64, 152, 153, 154, 37, 155, 68, 69, 156, 70, 71, 157, 158, 159, 41, 160, 75, 76, 161, 77, 78, 80, 81, 82, 83, 230, 231, 232, 233, 234, 861, 862, 863, 864, 865, 866, 867, 868, 869, 870, 871, 872, 873, 874, 875, 876, 877, 878, 890, 891, 892, 893, 894, 895, 896, 897, 898, 899, 900, 901, 902, 903, 904, 905, 906, 907, 908, 909, 910, 911, 912, 913] rfl (by decide +kernel)) (goodIn_sub (fun _ h => List.mem_cons_of_mem _ (List.mem_append_left _ (List.mem_append_left _ (List.mem_append_right _ h)))) (by decide +kernel))) (goodIn_sub (fun _ h => List.mem_cons_of_mem _ (List.mem_append_left _ (List.mem_append_right _ h))) (by decide +kernel))) (goodIn_sub (fun _ h => List.mem_cons_of_mem _ (List.mem_append_right _ h)) (by decide +kernel))
set_option maxRecDepth 20000 in
theorem gL_limits_X6_lend : GoodIn wsL_limits (wsV RL 46 RX6 yX6_lend wsX6_lend) := goodIn_app (goodIn_of _ (by decide +kernel)) ggL_limits_X6_lend
set_option maxRecDepth 20000 in
theorem ggL_limits_L_registered : GoodIn wsL_limits wsL_registered := goodIn_ca (goodIn_ca (goodIn_ca (goodIn_r _ [237, 184, 185, 186, 187, 188, 3, 189, 13, 190, 191, 192, 12, 193, 34, 110, 111, 112, 113, 114, 115, 116, 117, 118, 119, 120, 33, 121, 53, 122, 123, 124, 125, 126, 127, 128, 129, 130, 131, 132, 133, 134, 18, 17, 135, 136, 137, 138, 139, 140, 141, 142, 30, 38, 42, 44, 143, 144, 145, 146, 45, 46, 47, 48, 49, 147, 148, 149, 150, 54, 151, 55, 56, 57, 58, 59, 60, 61, 62, 63, 64, 152, 153, 154, 37, 155, 68, 69, 156, 70, 71, 157, 158, 159, 41, 160, 75, 76, 161, 77, 78, 80, 81, 82, 83, 194, 195, 196, 197, 198, 169, 170, 171, 172, 173, 861, 862, 863, 864, 865, 866, 867, 868, 869, 870, 871, 872, 873, 874, 875, 876, 877, 878, 890, 891, 892, 893, 894, 895, 896, 897, 898, 899, 900, 901, 902, 903, 904, 905, 906, 907, 908, 909, 910, 911, 912, 913] rfl (by decide +kernel)) (goodIn_sub (fun _ h => List.mem_cons_of_mem _ (List.mem_append_left _ (List.mem_append_left _ (List.mem_append_right _ h)))) (by decide +kernel))) (goodIn_sub (fun _ h => List.mem_cons_of_mem _ (List.mem_append_left _ (List.mem_append_right _ h))) (by decide +kernel))) (goodIn_sub (fun _ h => List.mem_cons_of_mem _ (List.mem_append_right _ h)) (by decide +kernel))
set_option maxRecDepth 20000 in
theorem gL_limits_L_registered : GoodIn wsL_limits (va_wsS RL 180 yL_registered wsL_registered) := goodIn_app (goodIn_of _ (by decide +kernel)) ggL_limits_L_registered
set_option maxRecDepth 20000 in
theorem ggL_limits_X6_excuse : GoodIn wsL_limits wsX6_excuse := goodIn_ca (goodIn_ca (goodIn_ca (goodIn_r _ [241, 13, 242, 243, 244, 12, 245, 34, 30, 38, 221, 210, 211, 33, 212, 53, 110, 3, 111, 246, 247, 248, 37, 249, 68, 250, 251, 252, 253, 69, 70, 71, 222, 223, 224, 225, 61, 122, 123, 124, 125, 126, 127, 128, 129, 130, 131, 132, 133, 134, 18, 17, 135, 136, 137, 138, 139, 140, 141, 142, 42, 44, 143, 144, 145, 146, 45, 46, 47, 48, 49, 147, 148, 149, 150, 54, 151, 55, 56, 57, 58, 59, 60, 62, 63, 64, 152, 153, 154, 155, 156, 157, 158, 159, 41, 160, 75, 76, 161, 77, 78, 80, 81, 82, 83, 254, 255, 256, 257, 258, 259, 260, 261, 861, 862, 863, 864, 865, 866, 867, 868, 869, 870, 871, 872, 873, 874, 875, 876, 877, 878, 890, 891, 892, 893, 894, 895, 896, 897, 898, 899, 900, 901, 902, 903, 904, 905, 906, 907, 908, 909, 910, 911, 912, 913] rfl (by decide +kernel)) (goodIn_sub (fun _ h => List.mem_cons_of_mem _ (List.mem_append_left _ (List.mem_append_left _ (List.mem_append_right _ h)))) (by decide +kernel))) (goodIn_sub (fun _ h => List.mem_cons_of_mem _ (List.mem_append_left _ (List.mem_append_right _ h))) (by decide +kernel))) (goodIn_sub (fun _ h => List.mem_cons_of_mem _ (List.mem_append_right _ h)) (by decide +kernel))
set_option maxRecDepth 20000 in
theorem gL_limits_X6_excuse : GoodIn wsL_limits (wsV RL 50 RX6 yX6_excuse wsX6_excuse) := goodIn_app (goodIn_of _ (by decide +kernel)) ggL_limits_X6_excuse
set_option maxRecDepth 20000 in
theorem ggL_limits_L_call : GoodIn wsL_limits wsL_call := goodIn_ca (goodIn_ca (goodIn_ca (goodIn_r _ [264, 183, 184, 185, 265, 266, 181, 267, 186, 187, 188, 3, 189, 13, 190, 191, 192, 12, 193, 34, 110, 111, 112, 113, 114, 115, 116, 117, 118, 119, 120, 33, 121, 53, 122, 123, 124, 125, 126, 127, 128, 129, 130, 131, 132, 133, 134, 18, 17, 135, 136, 137, 138, 139, 140, 141, 142, 30, 38, 42, 44, 143, 144, 145, 146, 45, 46, 47, 48, 49, 147, 148, 149, 150, 54, 151, 55, 56, 57, 58, 59, 60, 61, 62, 63, 64, 152, 153, 154, 37, 155, 68, 69, 156, 70, 71, 157, 158, 159, 41, 160, 75, 76, 161, 77, 78, 80, 81, 82, 83, 194, 195, 196, 197, 198, 169, 170, 171, 172, 173, 268, 269, 270, 271, 272, 273, 274, 275, 221, 210, 211, 212, 222, 223, 224, 225, 276, 277, 278, 279, 168, 280, 281, 282, 283, 284, 102, 103, 104, 105, 106, 107, 108, 109, 162, 163, 164, 165, 166, 167, 213, 214, 215, 216, 217, 218, 219, 220, 226, 227, 228, 229, 230, 231, 232, 233, 234, 238, 239, 240, 241, 242, 243, 244, 245, 246, 247, 248, 249, 250, 251, 252, 253, 254, 255, 256, 257, 258, 259, 260, 261, 285, 286, 287, 288, 289, 290, 291, 292, 293, 294, 295, 296, 297, 298, 299, 300, 301, 302, 303, 304, 305, 306, 307, 308, 309, 310, 311, 312, 313, 314, 315, 316, 317, 318, 319, 320, 321, 322, 323, 324, 325, 326, 327, 328, 329, 330, 331, 332, 333, 334, 335, 336, 337, 338, 339, 340, 341, 342, 343, 344, 345, 346, 26, 347, 348, 349, 350, 351, 352, 353, 354, 355, 356, 357, 358, 359, 360, 361, 25, 362, 97, 363, 364, 99, 365, 366, 367, 98, 368, 369, 370, 371, 372, 373, 374, 375, 376, 377, 378, 379, 380, 381, 382, 383, 384, 385, 386, 387, 388, 389, 390, 391, 392, 393, 394, 395, 100, 396, 397, 398, 399, 400, 401, 402, 403, 404, 405, 406, 407, 408, 409, 410, 411, 412, 413, 414, 415, 416, 417, 418, 419, 420, 421, 422, 423, 424, 425, 426, 427, 428, 429, 430, 431, 432, 433, 434, 435, 436, 437, 438, 439, 440, 441, 442, 443, 444, 445, 446, 447, 448, 449, 450, 451, 452, 453, 454, 455, 456, 457, 458, 459, 203, 460, 205, 206, 207, 208, 209, 461, 462, 463, 464, 465, 466, 467, 468, 469, 470, 471, 472, 473, 474, 475, 476, 477, 199, 200, 201, 202, 204, 478, 479, 480, 481, 482, 483, 484, 485, 486, 487, 488, 489, 490, 491, 492, 493, 494, 495, 496, 497, 498, 499, 500, 501, 502, 503, 504, 174, 175, 176, 177, 178, 505, 506, 507, 508, 509, 510, 511, 512, 513, 514, 515, 516, 517, 518, 519, 520, 521, 522, 523, 524, 525, 526, 527, 528, 529, 530, 531, 532, 533, 534, 535, 536, 537, 538, 539, 540, 541, 542, 543, 544, 545, 546, 547, 548, 549, 550, 551, 552, 553, 554, 555, 556, 557, 558, 559, 101, 560, 561, 562, 563, 564, 565, 566, 567, 568, 569, 570, 571, 572, 573, 574, 575, 576, 577, 578, 579, 580, 581, 582, 583, 584, 585, 586, 587, 588, 589, 590, 591, 592, 593, 594, 595, 596, 597, 598, 599, 600, 601, 602, 603, 604, 605, 606, 607, 608, 609, 22, 610, 611, 612, 21, 613, 89, 614, 615, 616, 617, 88, 618, 619, 620, 621, 622, 623, 624, 625, 90, 626, 627, 628, 629, 630, 631, 632, 633, 91, 93, 92, 634, 635, 636, 637, 638, 639, 640, 641, 642, 643, 644, 645, 646, 647, 648, 649, 650, 651, 652, 653, 654, 655, 656, 657, 658, 659, 660, 661, 662, 663, 664, 665, 666, 667, 668, 669, 670, 671, 672, 673, 674, 675, 676, 677, 678, 679, 680, 681, 682, 683, 684, 685, 686, 687, 688, 689, 690, 691, 692, 693, 694, 695, 696, 697, 698, 699, 700, 701, 702, 703, 704, 705, 706, 707, 708, 709, 710, 711, 712, 713, 714, 715, 716, 717, 718, 719, 720, 721, 722, 723, 724, 725, 726, 727, 728, 729, 730, 731, 732, 733, 734, 735, 736, 737, 738, 739, 740, 741, 742, 743, 744, 745, 746, 747, 748, 749, 750, 751, 752, 753, 754, 755, 756, 757, 758, 759, 760, 761, 762, 763, 764, 765, 14, 766, 767, 768, 769, 770, 771, 772, 773, 774, 775, 776, 777, 778, 779, 780, 781, 782, 783, 784, 785, 786, 787, 788, 789, 790, 791, 792, 793, 794, 795, 16, 15, 861, 862, 863, 864, 865, 866, 867, 868, 869, 870, 871, 872, 873, 874, 875, 876, 877, 878, 890, 891, 892, 893, 894, 895, 896, 897, 898, 899, 900, 901, 902, 903, 904, 905, 906, 907, 908, 909, 910, 911, 912, 913, 885, 886, 887, 888, 889, 879, 880, 881, 882, 883, 884] rfl (by decide +kernel)) (goodIn_sub (fun _ h => List.mem_cons_of_mem _ (List.mem_append_left _ (List.mem_append_left _ (List.mem_append_right _ h)))) (by decide +kernel))) (goodIn_sub (fun _ h => List.mem_cons_of_mem _ (List.mem_append_left _ (List.mem_append_right _ h))) (by decide +kernel))) (goodIn_sub (fun _ h => List.mem_cons_of_mem _ (List.mem_append_right _ h)) (by decide +kernel))
set_option maxRecDepth 20000 in
theorem gL_limits_L_call : GoodIn wsL_limits (va_wsS RL 187 yL_call wsL_call) := goodIn_app (goodIn_of _ (by decide +kernel)) ggL_limits_L_call
set_option maxRecDepth 20000 in
theorem ggL_limits_X6_announce : GoodIn wsL_limits wsX6_announce := goodIn_ca (goodIn_ca (goodIn_ca (goodIn_r _ [288, 13, 289, 290, 291, 12, 292, 30, 42, 110, 3, 111, 293, 294, 295, 41, 296, 75, 297, 298, 299, 300, 76, 122, 123, 124, 125, 126, 127, 128, 129, 130, 131, 132, 133, 134, 18, 17, 135, 136, 137, 138, 139, 140, 141, 142, 34, 38, 44, 143, 144, 145, 146, 45, 46, 47, 48, 49, 147, 148, 149, 33, 150, 53, 54, 151, 55, 56, 57, 58, 59, 60, 61, 62, 63, 64, 152, 153, 154, 37, 155, 68, 69, 156, 70, 71, 157, 158, 159, 160, 161, 77, 78, 80, 81, 82, 83, 301, 302, 303, 304, 305, 306, 307, 308, 309, 310, 311, 312, 861, 862, 863, 864, 865, 866, 867, 868, 869, 870, 871, 872, 873, 874, 875, 876, 877, 878, 906, 907, 908, 909, 910, 911, 912, 913, 890, 891, 892, 893, 894, 895, 896, 897, 898, 899, 900, 901, 902, 903, 904, 905] rfl (by decide +kernel)) (goodIn_sub (fun _ h => List.mem_cons_of_mem _ (List.mem_append_left _ (List.mem_append_left _ (List.mem_append_right _ h)))) (by decide +kernel))) (goodIn_sub (fun _ h => List.mem_cons_of_mem _ (List.mem_append_left _ (List.mem_append_right _ h))) (by decide +kernel))) (goodIn_sub (fun _ h => List.mem_cons_of_mem _ (List.mem_append_right _ h)) (by decide +kernel))
set_option maxRecDepth 20000 in
theorem gL_limits_X6_announce : GoodIn wsL_limits (wsV RL 53 RX6 yX6_announce wsX6_announce) := goodIn_app (goodIn_of _ (by decide +kernel)) ggL_limits_X6_announce
set_option maxRecDepth 20000 in
theorem ggL_limits_X6_leave : GoodIn wsL_limits wsX6_leave := goodIn_ca (goodIn_ca (goodIn_ca (goodIn_r _ [271, 13, 272, 273, 274, 12, 275, 34, 30, 221, 210, 211, 33, 212, 53, 222, 223, 224, 225, 61, 122, 123, 3, 124, 125, 126, 127, 128, 129, 130, 131, 132, 133, 134, 18, 17, 135, 136, 137, 138, 139, 140, 141, 142, 38, 42, 44, 143, 144, 145, 146, 45, 46, 47, 48, 49, 147, 148, 149, 150, 54, 151, 55, 56, 57, 58, 59, 60, 62, 63, 64, 152, 153, 154, 37, 155, 68, 69, 156, 70, 71, 157, 158, 159, 41, 160, 75, 76, 161, 77, 78, 80, 81, 82, 83, 276, 277, 278, 279, 168, 280, 281, 282, 283, 284, 861, 862, 863, 864, 865, 866, 867, 868, 869, 870, 871, 872, 873, 874, 875, 876, 877, 878, 890, 891, 892, 893, 894, 895, 896, 897, 898, 899, 900, 901, 902, 903, 904, 905, 906, 907, 908, 909, 910, 911, 912, 913] rfl (by decide +kernel)) (goodIn_sub (fun _ h => List.mem_cons_of_mem _ (List.mem_append_left _ (List.mem_append_left _ (List.mem_append_right _ h)))) (by decide +kernel))) (goodIn_sub (fun _ h => List.mem_cons_of_mem _ (List.mem_append_left _ (List.mem_append_right _ h))) (by decide +kernel))) (goodIn_sub (fun _ h => List.mem_cons_of_mem _ (List.mem_append_right _ h)) (by decide +kernel))
set_option maxRecDepth 20000 in
theorem gL_limits_X6_leave : GoodIn wsL_limits (wsV RL 38 RX6 yX6_leave wsX6_leave) := goodIn_app (goodIn_of _ (by decide +kernel)) ggL_limits_X6_leave
set_option maxRecDepth 20000 in
theorem ggL_limits_X6_passDays : GoodIn wsL_limits wsX6_passDays := goodIn_ca (goodIn_ca (goodIn_ca (goodIn_r _ [346, 13, 26, 347, 348, 349, 12, 350, 30, 110, 3, 111, 122, 123, 124, 125, 126, 127, 128, 129, 130, 131, 132, 133, 134, 18, 17, 135, 136, 137, 138, 139, 140, 141, 142, 34, 38, 42, 44, 143, 144, 145, 146, 45, 46, 47, 48, 49, 147, 148, 149, 33, 150, 53, 54, 151, 55, 56, 57, 58, 59, 60, 61, 62, 63, 64, 152, 153, 154, 37, 155, 68, 69, 156, 70, 71, 157, 158, 159, 41, 160, 75, 76, 161, 77, 78, 80, 81, 82, 83, 351, 352, 353, 354, 331, 355, 356, 357, 358, 359, 360, 361, 25, 362, 97, 363, 364, 99, 365, 366, 367, 98, 368, 369, 370, 371, 372, 373, 374, 375, 376, 222, 223, 224, 225, 226, 227, 228, 229, 250, 251, 252, 253, 377, 378, 379, 380, 381, 382, 383, 384, 337, 385, 338, 386, 387, 388, 389, 390, 391, 310, 311, 312, 392, 393, 394, 395, 100, 396, 397, 398, 399, 400, 401, 402, 403, 404, 405, 406, 407, 408, 409, 410, 411, 412, 413, 414, 415, 416, 417, 418, 419, 420, 421, 422, 423, 424, 425, 426, 427, 428, 429, 430, 431, 432, 433, 434, 435, 436, 437, 438, 439, 440, 441, 442, 443, 167, 444, 445, 446, 447, 448, 449, 450, 451, 452, 339, 340, 341, 342, 861, 862, 863, 864, 865, 866, 867, 868, 869, 870, 871, 872, 873, 874, 875, 876, 877, 878, 890, 891, 892, 893, 894, 895, 896, 897, 898, 899, 900, 901, 902, 903, 904, 905, 906, 907, 908, 909, 910, 911, 912, 913, 885, 886, 887, 888, 889] rfl (by decide +kernel)) (goodIn_sub (fun _ h => List.mem_cons_of_mem _ (List.mem_append_left _ (List.mem_append_left _ (List.mem_append_right _ h)))) (by decide +kernel))) (goodIn_sub (fun _ h => List.mem_cons_of_mem _ (List.mem_append_left _ (List.mem_append_right _ h))) (by decide +kernel))) (goodIn_sub (fun _ h => List.mem_cons_of_mem _ (List.mem_append_right _ h)) (by decide +kernel))
set_option maxRecDepth 20000 in
theorem gL_limits_X6_passDays : GoodIn wsL_limits (wsV RL 60 RX6 yX6_passDays wsX6_passDays) := goodIn_app (goodIn_of _ (by decide +kernel)) ggL_limits_X6_passDays
set_option maxRecDepth 20000 in
theorem ggL_limits_X6_day : GoodIn wsL_limits wsX6_day := goodIn_r _ [799, 13, 460, 861, 862, 863, 864, 865, 866, 867, 868, 869, 870, 871, 872, 873, 874, 875, 876, 877, 878] rfl (by decide +kernel)
set_option maxRecDepth 20000 in
theorem gL_limits_X6_day : GoodIn wsL_limits (wsV RL 155 RX6 yX6_day wsX6_day) := goodIn_app (goodIn_of _ (by decide +kernel)) ggL_limits_X6_day
set_option maxRecDepth 20000 in
theorem ggL_limits_L_accounts : GoodIn wsL_limits wsL_accounts := goodIn_r _ [802, 803, 804, 805, 3, 806, 13, 807, 808, 809, 810, 811, 812, 813, 814, 815, 816, 817, 818, 819, 820, 821, 822, 823, 824, 825, 826, 827, 861, 862, 863, 864, 865, 866, 867, 868, 869, 870, 871, 872, 873, 874, 875, 876, 877, 878] rfl (by decide +kernel)
set_option maxRecDepth 20000 in
theorem gL_limits_L_accounts : GoodIn wsL_limits (va_wsS RL 208 yL_accounts wsL_accounts) := goodIn_app (goodIn_of _ (by decide +kernel)) ggL_limits_L_accounts
set_option maxRecDepth 20000 in
theorem ggL_limits_X6_ageOf : GoodIn wsL_limits wsX6_ageOf := goodIn_ca (goodIn_ca (goodIn_ca (goodIn_r _ [465, 13, 460, 203, 466, 205, 206, 207, 3, 208, 209, 210, 211, 33, 212, 53, 122, 123, 124, 125, 126, 127, 128, 129, 130, 861, 862, 863, 864, 865, 866, 867, 868, 869, 870, 871, 872, 873, 874, 875, 876, 877, 878, 890, 891, 892, 893, 894, 895, 896, 897, 898, 899, 900, 901] rfl (by decide +kernel)) (goodIn_sub (fun _ h => List.mem_cons_of_mem _ (List.mem_append_left _ (List.mem_append_left _ (List.mem_append_right _ h)))) (by decide +kernel))) (goodIn_sub (fun _ h => List.mem_cons_of_mem _ (List.mem_append_left _ (List.mem_append_right _ h))) (by decide +kernel))) (goodIn_sub (fun _ h => List.mem_cons_of_mem _ (List.mem_append_right _ h)) (by decide +kernel))
set_option maxRecDepth 20000 in
theorem gL_limits_X6_ageOf : GoodIn wsL_limits (wsV RL 67 RX6 yX6_ageOf wsX6_ageOf) := goodIn_app (goodIn_of _ (by decide +kernel)) ggL_limits_X6_ageOf
set_option maxRecDepth 20000 in
theorem ggL_limits_X6_isInChoir : GoodIn wsL_limits wsX6_isInChoir := goodIn_ca (goodIn_ca (goodIn_ca (goodIn_r _ [459, 13, 203, 460, 205, 206, 207, 3, 208, 209, 210, 211, 33, 212, 53, 122, 123, 124, 125, 126, 127, 128, 129, 130, 461, 223, 224, 225, 61, 861, 862, 863, 864, 865, 866, 867, 868, 869, 870, 871, 872, 873, 874, 875, 876, 877, 878, 890, 891, 892, 893, 894, 895, 896, 897, 898, 899, 900, 901] rfl (by decide +kernel)) (goodIn_sub (fun _ h => List.mem_cons_of_mem _ (List.mem_append_left _ (List.mem_append_left _ (List.mem_append_right _ h)))) (by decide +kernel))) (goodIn_sub (fun _ h => List.mem_cons_of_mem _ (List.mem_append_left _ (List.mem_append_right _ h))) (by decide +kernel))) (goodIn_sub (fun _ h => List.mem_cons_of_mem _ (List.mem_append_right _ h)) (by decide +kernel))
set_option maxRecDepth 20000 in
theorem gL_limits_X6_isInChoir : GoodIn wsL_limits (wsV RL 63 RX6 yX6_isInChoir wsX6_isInChoir) := goodIn_app (goodIn_of _ (by decide +kernel)) ggL_limits_X6_isInChoir
set_option maxRecDepth 20000 in
theorem ggL_limits_L_refused : GoodIn wsL_limits wsL_refused := goodIn_ca (goodIn_ca (goodIn_ca (goodIn_r _ [830, 831, 832, 181, 833, 834, 835, 796, 797, 798, 3, 799, 13, 460, 836, 837, 838, 839, 203, 840, 841, 842, 843, 844, 512, 845, 803, 804, 805, 806, 807, 816, 817, 818, 819, 812, 820, 821, 822, 823, 814, 824, 825, 826, 827, 815, 467, 468, 469, 470, 471, 205, 206, 207, 208, 209, 210, 211, 33, 212, 53, 122, 123, 124, 125, 126, 127, 128, 129, 130, 472, 388, 389, 390, 58, 199, 200, 201, 202, 204, 456, 457, 458, 459, 461, 223, 224, 225, 61, 478, 479, 480, 481, 482, 483, 484, 485, 486, 487, 488, 227, 228, 229, 62, 495, 496, 497, 498, 499, 500, 501, 502, 503, 504, 508, 509, 510, 511, 513, 514, 515, 516, 517, 518, 322, 323, 41, 324, 75, 524, 525, 526, 527, 26, 528, 529, 530, 25, 531, 363, 532, 97, 365, 144, 145, 146, 533, 328, 329, 12, 330, 42, 331, 30, 534, 360, 361, 362, 364, 99, 366, 367, 98, 368, 369, 370, 371, 372, 373, 374, 375, 376, 34, 38, 222, 226, 250, 251, 252, 37, 253, 68, 69, 70, 71, 377, 378, 379, 380, 381, 382, 383, 384, 337, 385, 338, 386, 387, 391, 310, 311, 312, 392, 393, 394, 395, 100, 396, 397, 398, 399, 400, 401, 402, 403, 404, 405, 406, 407, 408, 409, 410, 411, 412, 413, 414, 415, 416, 417, 418, 419, 420, 421, 535, 340, 341, 342, 80, 536, 446, 447, 448, 449, 450, 451, 452, 550, 551, 552, 553, 554, 523, 555, 556, 557, 558, 559, 101, 560, 561, 356, 357, 358, 76, 562, 433, 434, 435, 436, 437, 438, 439, 57, 568, 569, 570, 571, 549, 572, 573, 574, 575, 325, 326, 114, 110, 111, 576, 577, 578, 579, 580, 174, 175, 176, 177, 178, 846, 847, 848, 849, 18, 850, 851, 852, 853, 854, 855, 856, 857, 235, 236, 237, 184, 185, 186, 187, 188, 189, 190, 191, 192, 193, 112, 113, 115, 116, 117, 118, 119, 120, 121, 131, 132, 133, 134, 17, 135, 136, 137, 138, 139, 140, 141, 142, 44, 143, 45, 46, 47, 48, 49, 147, 148, 149, 150, 54, 151, 55, 56, 59, 60, 63, 64, 152, 153, 154, 155, 156, 157, 158, 159, 160, 161, 77, 78, 81, 82, 83, 194, 195, 196, 197, 198, 169, 170, 171, 172, 173, 179, 180, 182, 183, 102, 103, 104, 105, 106, 107, 108, 109, 162, 163, 164, 165, 166, 167, 168, 262, 263, 264, 265, 266, 267, 268, 269, 270, 271, 272, 273, 274, 275, 221, 276, 277, 278, 279, 280, 281, 282, 283, 284, 213, 214, 215, 216, 217, 218, 219, 220, 230, 231, 232, 233, 234, 238, 239, 240, 241, 242, 243, 244, 245, 246, 247, 248, 249, 254, 255, 256, 257, 258, 259, 260, 261, 285, 286, 287, 288, 289, 290, 291, 292, 293, 294, 295, 296, 297, 298, 299, 300, 301, 302, 303, 304, 305, 306, 307, 308, 309, 313, 314, 315, 316, 317, 318, 319, 320, 321, 327, 332, 333, 334, 335, 336, 339, 343, 344, 345, 346, 347, 348, 349, 350, 351, 352, 353, 354, 355, 359, 422, 423, 424, 425, 426, 427, 428, 429, 430, 431, 432, 440, 441, 442, 443, 444, 445, 453, 454, 455, 462, 463, 464, 465, 466, 473, 474, 475, 476, 477, 489, 490, 491, 492, 493, 494, 505, 506, 507, 519, 520, 521, 522, 537, 538, 539, 540, 541, 542, 543, 544, 545, 546, 547, 548, 563, 564, 565, 566, 567, 581, 582, 583, 584, 585, 586, 587, 588, 589, 590, 591, 592, 593, 594, 595, 596, 597, 598, 599, 600, 601, 602, 603, 604, 605, 606, 607, 608, 609, 22, 610, 611, 612, 21, 613, 89, 614, 615, 616, 617, 88, 618, 619, 620, 621, 622, 623, 624, 625, 90, 626, 627, 628, 629, 630, 631, 632, 633, 91, 93, 92, 634, 635, 636, 637, 638, 639, 640, 641, 642, 643, 644, 645, 646, 647, 648, 649, 650, 651, 652, 653, 654, 655, 656, 657, 658, 659, 660, 661, 662, 663, 664, 665, 666, 667, 668, 669, 670, 671, 672, 673, 674, 675, 676, 677, 678, 679, 680, 681, 682, 683, 684, 685, 686, 687, 688, 689, 690, 691, 692, 693, 694, 695, 696, 697, 698, 699, 700, 701, 702, 703, 704, 705, 706, 707, 708, 709, 710, 711, 712, 713, 714, 715, 716, 717, 718, 719, 720, 721, 722, 723, 724, 725, 726, 727, 728, 729, 730, 731, 732, 733, 734, 735, 736, 737, 738, 739, 740, 741, 742, 743, 744, 745, 746, 747, 748, 749, 750, 751, 752, 753, 754, 755, 756, 757, 758, 759, 760, 761, 762, 763, 764, 765, 14, 766, 767, 768, 769, 770, 771, 772, 773, 774, 775, 776, 777, 778, 779, 780, 781, 782, 783, 784, 785, 786, 787, 788, 789, 790, 791, 792, 793, 794, 795, 16, 15, 858, 859, 860, 861, 862, 863, 864, 865, 866, 867, 868, 869, 870, 871, 872, 873, 874, 875, 876, 877, 878, 890, 891, 892, 893, 894, 895, 896, 897, 898, 899, 900, 901, 906, 907, 908, 909, 910, 911, 912, 913, 885, 886, 887, 888, 889, 902, 903, 904, 905, 879, 880, 881, 882, 883, 884] rfl (by decide +kernel)) (goodIn_sub (fun _ h => List.mem_cons_of_mem _ (List.mem_append_left _ (List.mem_append_left _ (List.mem_append_right _ h)))) (by decide +kernel))) (goodIn_sub (fun _ h => List.mem_cons_of_mem _ (List.mem_append_left _ (List.mem_append_right _ h))) (by decide +kernel))) (goodIn_sub (fun _ h => List.mem_cons_of_mem _ (List.mem_append_right _ h)) (by decide +kernel))
set_option maxRecDepth 20000 in
theorem gL_limits_L_refused : GoodIn wsL_limits (va_wsS RL 218 yL_refused wsL_refused) := goodIn_app (goodIn_of _ (by decide +kernel)) ggL_limits_L_refused
theorem dL_limits_0 : decode cL_limits 0 = .ok (.new 33, 3) := by decide +kernel
theorem dL_limits_3 : decode cL_limits 3 = .ok (.dup, 1) := by decide +kernel
theorem dL_limits_4 : decode cL_limits 4 = .ok (.invokespecial 207, 3) := by decide +kernel
theorem dL_limits_7 : decode cL_limits 7 = .ok (.astore_n 0, 1) := by decide +kernel
theorem dL_limits_8 : decode cL_limits 8 = .ok (.iconst 0, 1) := by decide +kernel
theorem dL_limits_9 : decode cL_limits 9 = .ok (.istore_n 1, 1) := by decide +kernel
theorem dL_limits_10 : decode cL_limits 10 = .ok (.iload_n 1, 1) := by decide +kernel
theorem dL_limits_11 : decode cL_limits 11 = .ok (.iconst 3, 1) := by decide +kernel
theorem dL_limits_12 : decode cL_limits 12 = .ok (.if_icmp .ge 42, 3) := by decide +kernel
theorem dL_limits_15 : decode cL_limits 15 = .ok (.aload_n 0, 1) := by decide +kernel
theorem dL_limits_16 : decode cL_limits 16 = .ok (.iconst 1, 1) := by decide +kernel
theorem dL_limits_17 : decode cL_limits 17 = .ok (.bipush 9, 2) := by decide +kernel
theorem dL_limits_19 : decode cL_limits 19 = .ok (.bipush 90, 2) := by decide +kernel
theorem dL_limits_21 : decode cL_limits 21 = .ok (.iload_n 1, 1) := by decide +kernel
theorem dL_limits_22 : decode cL_limits 22 = .ok (.iadd, 1) := by decide +kernel
theorem dL_limits_23 : decode cL_limits 23 = .ok (.iconst 0, 1) := by decide +kernel
theorem dL_limits_24 : decode cL_limits 24 = .ok (.bipush 48, 2) := by decide +kernel
theorem dL_limits_26 : decode cL_limits 26 = .ok (.bipush 90, 2) := by decide +kernel
theorem dL_limits_28 : decode cL_limits 28 = .ok (.invokevirtual 42, 3) := by decide +kernel
theorem dL_limits_31 : decode cL_limits 31 = .ok (.iload_n 1, 1) := by decide +kernel
theorem dL_limits_32 : decode cL_limits 32 = .ok (.if_icmp .ne 14, 3) := by decide +kernel
theorem dL_limits_35 : decode cL_limits 35 = .ok (.aload_n 0, 1) := by decide +kernel
theorem dL_limits_36 : decode cL_limits 36 = .ok (.iconst 1, 1) := by decide +kernel
theorem dL_limits_37 : decode cL_limits 37 = .ok (.invokevirtual 95, 3) := by decide +kernel
theorem dL_limits_40 : decode cL_limits 40 = .ok (.iconst (-1), 1) := by decide +kernel
theorem dL_limits_41 : decode cL_limits 41 = .ok (.iload_n 1, 1) := by decide +kernel
theorem dL_limits_42 : decode cL_limits 42 = .ok (.isub, 1) := by decide +kernel
theorem dL_limits_43 : decode cL_limits 43 = .ok (.if_icmp .eq 5, 3) := by decide +kernel
theorem dL_limits_46 : decode cL_limits 46 = .ok (.iconst 0, 1) := by decide +kernel
theorem dL_limits_47 : decode cL_limits 47 = .ok (.ireturn, 1) := by decide +kernel
theorem dL_limits_48 : decode cL_limits 48 = .ok (.iinc 1 1, 3) := by decide +kernel
theorem dL_limits_51 : decode cL_limits 51 = .ok (.goto (-41), 3) := by decide +kernel
theorem dL_limits_54 : decode cL_limits 54 = .ok (.aload_n 0, 1) := by decide +kernel
theorem dL_limits_55 : decode cL_limits 55 = .ok (.iconst 1, 1) := by decide +kernel
theorem dL_limits_56 : decode cL_limits 56 = .ok (.iconst 0, 1) := by decide +kernel
theorem dL_limits_57 : decode cL_limits 57 = .ok (.sipush 150, 3) := by decide +kernel
theorem dL_limits_60 : decode cL_limits 60 = .ok (.bipush 40, 2) := by decide +kernel
theorem dL_limits_62 : decode cL_limits 62 = .ok (.iconst 5, 1) := by decide +kernel
theorem dL_limits_63 : decode cL_limits 63 = .ok (.invokestatic 184, 3) := by decide +kernel
theorem dL_limits_66 : decode cL_limits 66 = .ok (.sipush (-2013), 3) := by decide +kernel
theorem dL_limits_69 : decode cL_limits 69 = .ok (.if_icmp .ne 68, 3) := by decide +kernel
theorem dL_limits_72 : decode cL_limits 72 = .ok (.aload_n 0, 1) := by decide +kernel
theorem dL_limits_73 : decode cL_limits 73 = .ok (.bipush 70, 2) := by decide +kernel
theorem dL_limits_75 : decode cL_limits 75 = .ok (.sipush 210, 3) := by decide +kernel
theorem dL_limits_78 : decode cL_limits 78 = .ok (.bipush 48, 2) := by decide +kernel
theorem dL_limits_80 : decode cL_limits 80 = .ok (.bipush 48, 2) := by decide +kernel
theorem dL_limits_82 : decode cL_limits 82 = .ok (.bipush 17, 2) := by decide +kernel
theorem dL_limits_84 : decode cL_limits 84 = .ok (.invokevirtual 32, 3) := by decide +kernel
theorem dL_limits_87 : decode cL_limits 87 = .ok (.iconst 3, 1) := by decide +kernel
theorem dL_limits_88 : decode cL_limits 88 = .ok (.if_icmp .ne 49, 3) := by decide +kernel
theorem dL_limits_91 : decode cL_limits 91 = .ok (.aload_n 0, 1) := by decide +kernel
theorem dL_limits_92 : decode cL_limits 92 = .ok (.iconst 3, 1) := by decide +kernel
theorem dL_limits_93 : decode cL_limits 93 = .ok (.invokevirtual 76, 3) := by decide +kernel
theorem dL_limits_96 : decode cL_limits 96 = .ok (.iconst (-1), 1) := by decide +kernel
theorem dL_limits_97 : decode cL_limits 97 = .ok (.if_icmp .ne 40, 3) := by decide +kernel
theorem dL_limits_100 : decode cL_limits 100 = .ok (.aload_n 0, 1) := by decide +kernel
theorem dL_limits_101 : decode cL_limits 101 = .ok (.iconst 3, 1) := by decide +kernel
theorem dL_limits_102 : decode cL_limits 102 = .ok (.iconst 1, 1) := by decide +kernel
theorem dL_limits_103 : decode cL_limits 103 = .ok (.iconst 1, 1) := by decide +kernel
theorem dL_limits_104 : decode cL_limits 104 = .ok (.invokevirtual 46, 3) := by decide +kernel
theorem dL_limits_107 : decode cL_limits 107 = .ok (.iconst 1, 1) := by decide +kernel
theorem dL_limits_108 : decode cL_limits 108 = .ok (.if_icmp .ne 29, 3) := by decide +kernel
theorem dL_limits_111 : decode cL_limits 111 = .ok (.aload_n 0, 1) := by decide +kernel
theorem dL_limits_112 : decode cL_limits 112 = .ok (.iconst 1, 1) := by decide +kernel
theorem dL_limits_113 : decode cL_limits 113 = .ok (.invokevirtual 95, 3) := by decide +kernel
theorem dL_limits_116 : decode cL_limits 116 = .ok (.bipush (-2), 2) := by decide +kernel
theorem dL_limits_118 : decode cL_limits 118 = .ok (.if_icmp .ne 19, 3) := by decide +kernel
theorem dL_limits_121 : decode cL_limits 121 = .ok (.aload_n 0, 1) := by decide +kernel
theorem dL_limits_122 : decode cL_limits 122 = .ok (.iconst 1, 1) := by decide +kernel
theorem dL_limits_123 : decode cL_limits 123 = .ok (.iconst 0, 1) := by decide +kernel
theorem dL_limits_124 : decode cL_limits 124 = .ok (.sipush 210, 3) := by decide +kernel
theorem dL_limits_127 : decode cL_limits 127 = .ok (.iconst 0, 1) := by decide +kernel
theorem dL_limits_128 : decode cL_limits 128 = .ok (.iconst 0, 1) := by decide +kernel
theorem dL_limits_129 : decode cL_limits 129 = .ok (.iconst 1, 1) := by decide +kernel
theorem dL_limits_130 : decode cL_limits 130 = .ok (.invokevirtual 42, 3) := by decide +kernel
theorem dL_limits_133 : decode cL_limits 133 = .ok (.iconst 4, 1) := by decide +kernel
theorem dL_limits_134 : decode cL_limits 134 = .ok (.if_icmp .eq 5, 3) := by decide +kernel
theorem dL_limits_137 : decode cL_limits 137 = .ok (.iconst 0, 1) := by decide +kernel
theorem dL_limits_138 : decode cL_limits 138 = .ok (.ireturn, 1) := by decide +kernel
theorem dL_limits_139 : decode cL_limits 139 = .ok (.iconst 5, 1) := by decide +kernel
theorem dL_limits_140 : decode cL_limits 140 = .ok (.istore_n 1, 1) := by decide +kernel
theorem dL_limits_141 : decode cL_limits 141 = .ok (.iload_n 1, 1) := by decide +kernel
theorem dL_limits_142 : decode cL_limits 142 = .ok (.bipush 30, 2) := by decide +kernel
theorem dL_limits_144 : decode cL_limits 144 = .ok (.if_icmp .ge 41, 3) := by decide +kernel
theorem dL_limits_147 : decode cL_limits 147 = .ok (.aload_n 0, 1) := by decide +kernel
theorem dL_limits_148 : decode cL_limits 148 = .ok (.bipush 7, 2) := by decide +kernel
theorem dL_limits_150 : decode cL_limits 150 = .ok (.bipush 100, 2) := by decide +kernel
theorem dL_limits_152 : decode cL_limits 152 = .ok (.iload_n 1, 1) := by decide +kernel
theorem dL_limits_153 : decode cL_limits 153 = .ok (.iadd, 1) := by decide +kernel
theorem dL_limits_154 : decode cL_limits 154 = .ok (.iconst 0, 1) := by decide +kernel
theorem dL_limits_155 : decode cL_limits 155 = .ok (.bipush 20, 2) := by decide +kernel
theorem dL_limits_157 : decode cL_limits 157 = .ok (.bipush 17, 2) := by decide +kernel
theorem dL_limits_159 : decode cL_limits 159 = .ok (.invokevirtual 32, 3) := by decide +kernel
theorem dL_limits_162 : decode cL_limits 162 = .ok (.iload_n 1, 1) := by decide +kernel
theorem dL_limits_163 : decode cL_limits 163 = .ok (.if_icmp .ne 14, 3) := by decide +kernel
theorem dL_limits_166 : decode cL_limits 166 = .ok (.aload_n 0, 1) := by decide +kernel
theorem dL_limits_167 : decode cL_limits 167 = .ok (.iload_n 1, 1) := by decide +kernel
theorem dL_limits_168 : decode cL_limits 168 = .ok (.invokevirtual 76, 3) := by decide +kernel
theorem dL_limits_171 : decode cL_limits 171 = .ok (.sipush 3600, 3) := by decide +kernel
theorem dL_limits_174 : decode cL_limits 174 = .ok (.if_icmp .eq 5, 3) := by decide +kernel
theorem dL_limits_177 : decode cL_limits 177 = .ok (.iconst 0, 1) := by decide +kernel
theorem dL_limits_178 : decode cL_limits 178 = .ok (.ireturn, 1) := by decide +kernel
theorem dL_limits_179 : decode cL_limits 179 = .ok (.iinc 1 1, 3) := by decide +kernel
theorem dL_limits_182 : decode cL_limits 182 = .ok (.goto (-41), 3) := by decide +kernel
theorem dL_limits_185 : decode cL_limits 185 = .ok (.aload_n 0, 1) := by decide +kernel
theorem dL_limits_186 : decode cL_limits 186 = .ok (.bipush 7, 2) := by decide +kernel
theorem dL_limits_188 : decode cL_limits 188 = .ok (.bipush 90, 2) := by decide +kernel
theorem dL_limits_190 : decode cL_limits 190 = .ok (.iconst 0, 1) := by decide +kernel
theorem dL_limits_191 : decode cL_limits 191 = .ok (.iconst 0, 1) := by decide +kernel
theorem dL_limits_192 : decode cL_limits 192 = .ok (.iconst 0, 1) := by decide +kernel
theorem dL_limits_193 : decode cL_limits 193 = .ok (.invokestatic 180, 3) := by decide +kernel
theorem dL_limits_196 : decode cL_limits 196 = .ok (.sipush (-2013), 3) := by decide +kernel
theorem dL_limits_199 : decode cL_limits 199 = .ok (.if_icmp .ne 21, 3) := by decide +kernel
theorem dL_limits_202 : decode cL_limits 202 = .ok (.aload_n 0, 1) := by decide +kernel
theorem dL_limits_203 : decode cL_limits 203 = .ok (.iconst 0, 1) := by decide +kernel
theorem dL_limits_204 : decode cL_limits 204 = .ok (.iconst 0, 1) := by decide +kernel
theorem dL_limits_205 : decode cL_limits 205 = .ok (.sipush 150, 3) := by decide +kernel
theorem dL_limits_208 : decode cL_limits 208 = .ok (.bipush 40, 2) := by decide +kernel
theorem dL_limits_210 : decode cL_limits 210 = .ok (.iconst 5, 1) := by decide +kernel
theorem dL_limits_211 : decode cL_limits 211 = .ok (.invokestatic 184, 3) := by decide +kernel
theorem dL_limits_214 : decode cL_limits 214 = .ok (.sipush (-2013), 3) := by decide +kernel
theorem dL_limits_217 : decode cL_limits 217 = .ok (.if_icmp .eq 5, 3) := by decide +kernel
theorem dL_limits_220 : decode cL_limits 220 = .ok (.iconst 0, 1) := by decide +kernel
theorem dL_limits_221 : decode cL_limits 221 = .ok (.ireturn, 1) := by decide +kernel
theorem dL_limits_222 : decode cL_limits 222 = .ok (.iconst 0, 1) := by decide +kernel
theorem dL_limits_223 : decode cL_limits 223 = .ok (.istore_n 1, 1) := by decide +kernel
theorem dL_limits_224 : decode cL_limits 224 = .ok (.iload_n 1, 1) := by decide +kernel
theorem dL_limits_225 : decode cL_limits 225 = .ok (.bipush 60, 2) := by decide +kernel
theorem dL_limits_227 : decode cL_limits 227 = .ok (.if_icmp .ge 38, 3) := by decide +kernel
theorem dL_limits_230 : decode cL_limits 230 = .ok (.aload_n 0, 1) := by decide +kernel
theorem dL_limits_231 : decode cL_limits 231 = .ok (.iconst 5, 1) := by decide +kernel
theorem dL_limits_232 : decode cL_limits 232 = .ok (.iload_n 1, 1) := by decide +kernel
theorem dL_limits_233 : decode cL_limits 233 = .ok (.bipush 25, 2) := by decide +kernel
theorem dL_limits_235 : decode cL_limits 235 = .ok (.irem, 1) := by decide +kernel
theorem dL_limits_236 : decode cL_limits 236 = .ok (.iadd, 1) := by decide +kernel
theorem dL_limits_237 : decode cL_limits 237 = .ok (.bipush 100, 2) := by decide +kernel
theorem dL_limits_239 : decode cL_limits 239 = .ok (.iload_n 1, 1) := by decide +kernel
theorem dL_limits_240 : decode cL_limits 240 = .ok (.iadd, 1) := by decide +kernel
theorem dL_limits_241 : decode cL_limits 241 = .ok (.bipush 100, 2) := by decide +kernel
theorem dL_limits_243 : decode cL_limits 243 = .ok (.iload_n 1, 1) := by decide +kernel
theorem dL_limits_244 : decode cL_limits 244 = .ok (.iadd, 1) := by decide +kernel
theorem dL_limits_245 : decode cL_limits 245 = .ok (.invokevirtual 50, 3) := by decide +kernel
theorem dL_limits_248 : decode cL_limits 248 = .ok (.iconst 1, 1) := by decide +kernel
theorem dL_limits_249 : decode cL_limits 249 = .ok (.iload_n 1, 1) := by decide +kernel
theorem dL_limits_250 : decode cL_limits 250 = .ok (.bipush 25, 2) := by decide +kernel
theorem dL_limits_252 : decode cL_limits 252 = .ok (.idiv, 1) := by decide +kernel
theorem dL_limits_253 : decode cL_limits 253 = .ok (.iadd, 1) := by decide +kernel
theorem dL_limits_254 : decode cL_limits 254 = .ok (.if_icmp .eq 5, 3) := by decide +kernel
theorem dL_limits_257 : decode cL_limits 257 = .ok (.iconst 0, 1) := by decide +kernel
theorem dL_limits_258 : decode cL_limits 258 = .ok (.ireturn, 1) := by decide +kernel
theorem dL_limits_259 : decode cL_limits 259 = .ok (.iinc 1 1, 3) := by decide +kernel
theorem dL_limits_262 : decode cL_limits 262 = .ok (.goto (-38), 3) := by decide +kernel
theorem dL_limits_265 : decode cL_limits 265 = .ok (.aload_n 0, 1) := by decide +kernel
theorem dL_limits_266 : decode cL_limits 266 = .ok (.iconst 4, 1) := by decide +kernel
theorem dL_limits_267 : decode cL_limits 267 = .ok (.bipush 6, 2) := by decide +kernel
theorem dL_limits_269 : decode cL_limits 269 = .ok (.sipush 9999, 3) := by decide +kernel
theorem dL_limits_272 : decode cL_limits 272 = .ok (.sipush 10059, 3) := by decide +kernel
theorem dL_limits_275 : decode cL_limits 275 = .ok (.invokestatic 187, 3) := by decide +kernel
theorem dL_limits_278 : decode cL_limits 278 = .ok (.sipush (-2013), 3) := by decide +kernel
theorem dL_limits_281 : decode cL_limits 281 = .ok (.if_icmp .eq 5, 3) := by decide +kernel
theorem dL_limits_284 : decode cL_limits 284 = .ok (.iconst 0, 1) := by decide +kernel
theorem dL_limits_285 : decode cL_limits 285 = .ok (.ireturn, 1) := by decide +kernel
theorem dL_limits_286 : decode cL_limits 286 = .ok (.iconst 0, 1) := by decide +kernel
theorem dL_limits_287 : decode cL_limits 287 = .ok (.istore_n 1, 1) := by decide +kernel
theorem dL_limits_288 : decode cL_limits 288 = .ok (.iload_n 1, 1) := by decide +kernel
theorem dL_limits_289 : decode cL_limits 289 = .ok (.bipush 20, 2) := by decide +kernel
theorem dL_limits_291 : decode cL_limits 291 = .ok (.if_icmp .ge 25, 3) := by decide +kernel
theorem dL_limits_294 : decode cL_limits 294 = .ok (.aload_n 0, 1) := by decide +kernel
theorem dL_limits_295 : decode cL_limits 295 = .ok (.sipush 9980, 3) := by decide +kernel
theorem dL_limits_298 : decode cL_limits 298 = .ok (.iload_n 1, 1) := by decide +kernel
theorem dL_limits_299 : decode cL_limits 299 = .ok (.iadd, 1) := by decide +kernel
theorem dL_limits_300 : decode cL_limits 300 = .ok (.iconst 3, 1) := by decide +kernel
theorem dL_limits_301 : decode cL_limits 301 = .ok (.invokevirtual 53, 3) := by decide +kernel
theorem dL_limits_304 : decode cL_limits 304 = .ok (.iload_n 1, 1) := by decide +kernel
theorem dL_limits_305 : decode cL_limits 305 = .ok (.if_icmp .eq 5, 3) := by decide +kernel
theorem dL_limits_308 : decode cL_limits 308 = .ok (.iconst 0, 1) := by decide +kernel
theorem dL_limits_309 : decode cL_limits 309 = .ok (.ireturn, 1) := by decide +kernel
theorem dL_limits_310 : decode cL_limits 310 = .ok (.iinc 1 1, 3) := by decide +kernel
theorem dL_limits_313 : decode cL_limits 313 = .ok (.goto (-25), 3) := by decide +kernel
theorem dL_limits_316 : decode cL_limits 316 = .ok (.aload_n 0, 1) := by decide +kernel
theorem dL_limits_317 : decode cL_limits 317 = .ok (.iconst 5, 1) := by decide +kernel
theorem dL_limits_318 : decode cL_limits 318 = .ok (.bipush 50, 2) := by decide +kernel
theorem dL_limits_320 : decode cL_limits 320 = .ok (.iconst 1, 1) := by decide +kernel
theorem dL_limits_321 : decode cL_limits 321 = .ok (.iconst 0, 1) := by decide +kernel
theorem dL_limits_322 : decode cL_limits 322 = .ok (.invokestatic 187, 3) := by decide +kernel
theorem dL_limits_325 : decode cL_limits 325 = .ok (.sipush (-2013), 3) := by decide +kernel
theorem dL_limits_328 : decode cL_limits 328 = .ok (.if_icmp .ne 14, 3) := by decide +kernel
theorem dL_limits_331 : decode cL_limits 331 = .ok (.aload_n 0, 1) := by decide +kernel
theorem dL_limits_332 : decode cL_limits 332 = .ok (.bipush 29, 2) := by decide +kernel
theorem dL_limits_334 : decode cL_limits 334 = .ok (.invokevirtual 38, 3) := by decide +kernel
theorem dL_limits_337 : decode cL_limits 337 = .ok (.bipush 29, 2) := by decide +kernel
theorem dL_limits_339 : decode cL_limits 339 = .ok (.if_icmp .eq 5, 3) := by decide +kernel
theorem dL_limits_342 : decode cL_limits 342 = .ok (.iconst 0, 1) := by decide +kernel
theorem dL_limits_343 : decode cL_limits 343 = .ok (.ireturn, 1) := by decide +kernel
theorem dL_limits_344 : decode cL_limits 344 = .ok (.iconst 0, 1) := by decide +kernel
theorem dL_limits_345 : decode cL_limits 345 = .ok (.istore_n 1, 1) := by decide +kernel
theorem dL_limits_346 : decode cL_limits 346 = .ok (.iload_n 1, 1) := by decide +kernel
theorem dL_limits_347 : decode cL_limits 347 = .ok (.bipush 100, 2) := by decide +kernel
theorem dL_limits_349 : decode cL_limits 349 = .ok (.if_icmp .ge 20, 3) := by decide +kernel
theorem dL_limits_352 : decode cL_limits 352 = .ok (.aload_n 0, 1) := by decide +kernel
theorem dL_limits_353 : decode cL_limits 353 = .ok (.bipush 99, 2) := by decide +kernel
theorem dL_limits_355 : decode cL_limits 355 = .ok (.invokevirtual 60, 3) := by decide +kernel
theorem dL_limits_358 : decode cL_limits 358 = .ok (.ifCond .eq 5, 3) := by decide +kernel
theorem dL_limits_361 : decode cL_limits 361 = .ok (.iconst 0, 1) := by decide +kernel
theorem dL_limits_362 : decode cL_limits 362 = .ok (.ireturn, 1) := by decide +kernel
theorem dL_limits_363 : decode cL_limits 363 = .ok (.iinc 1 1, 3) := by decide +kernel
theorem dL_limits_366 : decode cL_limits 366 = .ok (.goto (-20), 3) := by decide +kernel
theorem dL_limits_369 : decode cL_limits 369 = .ok (.aload_n 0, 1) := by decide +kernel
theorem dL_limits_370 : decode cL_limits 370 = .ok (.bipush 98, 2) := by decide +kernel
theorem dL_limits_372 : decode cL_limits 372 = .ok (.invokevirtual 60, 3) := by decide +kernel
theorem dL_limits_375 : decode cL_limits 375 = .ok (.bipush 19, 2) := by decide +kernel
theorem dL_limits_377 : decode cL_limits 377 = .ok (.if_icmp .ne 93, 3) := by decide +kernel
theorem dL_limits_380 : decode cL_limits 380 = .ok (.aload_n 0, 1) := by decide +kernel
theorem dL_limits_381 : decode cL_limits 381 = .ok (.bipush 7, 2) := by decide +kernel
theorem dL_limits_383 : decode cL_limits 383 = .ok (.iconst 2, 1) := by decide +kernel
theorem dL_limits_384 : decode cL_limits 384 = .ok (.iconst 0, 1) := by decide +kernel
theorem dL_limits_385 : decode cL_limits 385 = .ok (.iconst 0, 1) := by decide +kernel
theorem dL_limits_386 : decode cL_limits 386 = .ok (.invokestatic 187, 3) := by decide +kernel
theorem dL_limits_389 : decode cL_limits 389 = .ok (.sipush (-2013), 3) := by decide +kernel
theorem dL_limits_392 : decode cL_limits 392 = .ok (.if_icmp .ne 78, 3) := by decide +kernel
theorem dL_limits_395 : decode cL_limits 395 = .ok (.aload_n 0, 1) := by decide +kernel
theorem dL_limits_396 : decode cL_limits 396 = .ok (.iconst 1, 1) := by decide +kernel
theorem dL_limits_397 : decode cL_limits 397 = .ok (.invokevirtual 60, 3) := by decide +kernel
theorem dL_limits_400 : decode cL_limits 400 = .ok (.iconst 1, 1) := by decide +kernel
theorem dL_limits_401 : decode cL_limits 401 = .ok (.if_icmp .ne 69, 3) := by decide +kernel
theorem dL_limits_404 : decode cL_limits 404 = .ok (.aload_n 0, 1) := by decide +kernel
theorem dL_limits_405 : decode cL_limits 405 = .ok (.invokevirtual 155, 3) := by decide +kernel
theorem dL_limits_408 : decode cL_limits 408 = .ok (.sipush 9999, 3) := by decide +kernel
theorem dL_limits_411 : decode cL_limits 411 = .ok (.if_icmp .ne 59, 3) := by decide +kernel
theorem dL_limits_414 : decode cL_limits 414 = .ok (.aload_n 0, 1) := by decide +kernel
theorem dL_limits_415 : decode cL_limits 415 = .ok (.bipush 7, 2) := by decide +kernel
theorem dL_limits_417 : decode cL_limits 417 = .ok (.iconst 1, 1) := by decide +kernel
theorem dL_limits_418 : decode cL_limits 418 = .ok (.iconst 0, 1) := by decide +kernel
theorem dL_limits_419 : decode cL_limits 419 = .ok (.iconst 0, 1) := by decide +kernel
theorem dL_limits_420 : decode cL_limits 420 = .ok (.invokestatic 187, 3) := by decide +kernel
theorem dL_limits_423 : decode cL_limits 423 = .ok (.sipush (-2013), 3) := by decide +kernel
theorem dL_limits_426 : decode cL_limits 426 = .ok (.if_icmp .ne 44, 3) := by decide +kernel
theorem dL_limits_429 : decode cL_limits 429 = .ok (.aload_n 0, 1) := by decide +kernel
theorem dL_limits_430 : decode cL_limits 430 = .ok (.bipush 52, 2) := by decide +kernel
theorem dL_limits_432 : decode cL_limits 432 = .ok (.iconst 0, 1) := by decide +kernel
theorem dL_limits_433 : decode cL_limits 433 = .ok (.iconst 0, 1) := by decide +kernel
theorem dL_limits_434 : decode cL_limits 434 = .ok (.iconst 0, 1) := by decide +kernel
theorem dL_limits_435 : decode cL_limits 435 = .ok (.invokestatic 208, 3) := by decide +kernel
theorem dL_limits_438 : decode cL_limits 438 = .ok (.ifCond .eq 32, 3) := by decide +kernel
theorem dL_limits_441 : decode cL_limits 441 = .ok (.aload_n 0, 1) := by decide +kernel
theorem dL_limits_442 : decode cL_limits 442 = .ok (.iconst 5, 1) := by decide +kernel
theorem dL_limits_443 : decode cL_limits 443 = .ok (.invokevirtual 67, 3) := by decide +kernel
theorem dL_limits_446 : decode cL_limits 446 = .ok (.bipush 34, 2) := by decide +kernel
theorem dL_limits_448 : decode cL_limits 448 = .ok (.if_icmp .ne 22, 3) := by decide +kernel
theorem dL_limits_451 : decode cL_limits 451 = .ok (.aload_n 0, 1) := by decide +kernel
theorem dL_limits_452 : decode cL_limits 452 = .ok (.iconst 0, 1) := by decide +kernel
theorem dL_limits_453 : decode cL_limits 453 = .ok (.invokevirtual 63, 3) := by decide +kernel
theorem dL_limits_456 : decode cL_limits 456 = .ok (.ifCond .ne 14, 3) := by decide +kernel
theorem dL_limits_459 : decode cL_limits 459 = .ok (.aload_n 0, 1) := by decide +kernel
theorem dL_limits_460 : decode cL_limits 460 = .ok (.invokestatic 218, 3) := by decide +kernel
theorem dL_limits_463 : decode cL_limits 463 = .ok (.ifCond .eq 7, 3) := by decide +kernel
theorem dL_limits_466 : decode cL_limits 466 = .ok (.iconst 1, 1) := by decide +kernel
theorem dL_limits_467 : decode cL_limits 467 = .ok (.goto 4, 3) := by decide +kernel
theorem dL_limits_470 : decode cL_limits 470 = .ok (.iconst 0, 1) := by decide +kernel
theorem dL_limits_471 : decode cL_limits 471 = .ok (.ireturn, 1) := by decide +kernel
set_option maxRecDepth 20000 in
theorem ggL_types_X6_type : GoodIn wsL_types wsX6_type := goodIn_ca (goodIn_ca (goodIn_ca (goodIn_r _ [6, 7, 8, 9, 10, 11, 12, 13, 14, 15, 5, 16, 17, 18, 19, 20, 21, 22, 23, 24, 25, 26, 27, 28, 29, 30, 31, 32, 33, 34, 35, 36, 37, 38, 39, 40, 41] rfl (by decide +kernel)) (goodIn_sub (fun _ h => List.mem_cons_of_mem _ (List.mem_append_left _ (List.mem_append_left _ (List.mem_append_right _ h)))) (by decide +kernel))) (goodIn_sub (fun _ h => List.mem_cons_of_mem _ (List.mem_append_left _ (List.mem_append_right _ h))) (by decide +kernel))) (goodIn_sub (fun _ h => List.mem_cons_of_mem _ (List.mem_append_right _ h)) (by decide +kernel))
set_option maxRecDepth 20000 in
theorem gL_types_X6_type : GoodIn wsL_types (wsV RL 134 RX6 yX6_type wsX6_type) := goodIn_app (goodIn_of _ (by decide +kernel)) ggL_types_X6_type
theorem dL_types_0 : decode cL_types 0 = .ok (.iconst 1, 1) := by decide +kernel
theorem dL_types_1 : decode cL_types 1 = .ok (.istore_n 3, 1) := by decide +kernel
theorem dL_types_2 : decode cL_types 2 = .ok (.bipush 56, 2) := by decide +kernel
theorem dL_types_4 : decode cL_types 4 = .ok (.istore 4, 2) := by decide +kernel
theorem dL_types_6 : decode cL_types 6 = .ok (.iload 4, 2) := by decide +kernel
theorem dL_types_8 : decode cL_types 8 = .ok (.ifCond .lt 45, 3) := by decide +kernel
theorem dL_types_11 : decode cL_types 11 = .ok (.lload_n 1, 1) := by decide +kernel
theorem dL_types_12 : decode cL_types 12 = .ok (.iload 4, 2) := by decide +kernel
theorem dL_types_14 : decode cL_types 14 = .ok (.lshr, 1) := by decide +kernel
theorem dL_types_15 : decode cL_types 15 = .ok (.ldc2_w 244, 3) := by decide +kernel
theorem dL_types_18 : decode cL_types 18 = .ok (.land, 1) := by decide +kernel
theorem dL_types_19 : decode cL_types 19 = .ok (.l2i, 1) := by decide +kernel
theorem dL_types_20 : decode cL_types 20 = .ok (.istore 5, 2) := by decide +kernel
theorem dL_types_22 : decode cL_types 22 = .ok (.iload_n 3, 1) := by decide +kernel
theorem dL_types_23 : decode cL_types 23 = .ok (.ifCond .eq 22, 3) := by decide +kernel
theorem dL_types_26 : decode cL_types 26 = .ok (.iload 5, 2) := by decide +kernel
theorem dL_types_28 : decode cL_types 28 = .ok (.ifCond .eq 13, 3) := by decide +kernel
theorem dL_types_31 : decode cL_types 31 = .ok (.aload_n 0, 1) := by decide +kernel
theorem dL_types_32 : decode cL_types 32 = .ok (.iload 5, 2) := by decide +kernel
theorem dL_types_34 : decode cL_types 34 = .ok (.i2c, 1) := by decide +kernel
theorem dL_types_35 : decode cL_types 35 = .ok (.invokevirtual 134, 3) := by decide +kernel
theorem dL_types_38 : decode cL_types 38 = .ok (.ifCond .le 7, 3) := by decide +kernel
theorem dL_types_41 : decode cL_types 41 = .ok (.iconst 1, 1) := by decide +kernel
theorem dL_types_42 : decode cL_types 42 = .ok (.goto 4, 3) := by decide +kernel
theorem dL_types_45 : decode cL_types 45 = .ok (.iconst 0, 1) := by decide +kernel
theorem dL_types_46 : decode cL_types 46 = .ok (.istore_n 3, 1) := by decide +kernel
theorem dL_types_47 : decode cL_types 47 = .ok (.iinc 4 (-8), 3) := by decide +kernel
theorem dL_types_50 : decode cL_types 50 = .ok (.goto (-44), 3) := by decide +kernel
theorem dL_types_53 : decode cL_types 53 = .ok (.iload_n 3, 1) := by decide +kernel
theorem dL_types_54 : decode cL_types 54 = .ok (.ireturn, 1) := by decide +kernel
set_option maxRecDepth 20000 in
theorem ggL_isError_X6_clearLetter : GoodIn wsL_isError wsX6_clearLetter := goodIn_r _ [5, 6, 7, 8, 9, 10, 11, 12, 190, 191, 192, 193, 194, 195, 196, 197, 198, 199, 200, 201, 202, 203] rfl (by decide +kernel)
set_option maxRecDepth 20000 in
theorem gL_isError_X6_clearLetter : GoodIn wsL_isError (wsV RL 246 RX6 yX6_clearLetter wsX6_clearLetter) := goodIn_app (goodIn_of _ (by decide +kernel)) ggL_isError_X6_clearLetter
set_option maxRecDepth 20000 in
theorem ggL_isError_L_types : GoodIn wsL_isError wsL_types := goodIn_ca (goodIn_ca (goodIn_ca (goodIn_r _ [16, 17, 18, 19, 20, 4, 21, 6, 22, 23, 24, 10, 25, 12, 26, 27, 28, 29, 30, 31, 32, 33, 34, 35, 36, 37, 38, 39, 190, 191, 192, 193, 194, 195, 196, 197, 198, 199, 200, 201, 202, 203] rfl (by decide +kernel)) (goodIn_sub (fun _ h => List.mem_cons_of_mem _ (List.mem_append_left _ (List.mem_append_left _ (List.mem_append_right _ h)))) (by decide +kernel))) (goodIn_sub (fun _ h => List.mem_cons_of_mem _ (List.mem_append_left _ (List.mem_append_right _ h))) (by decide +kernel))) (goodIn_sub (fun _ h => List.mem_cons_of_mem _ (List.mem_append_right _ h)) (by decide +kernel))
set_option maxRecDepth 20000 in
theorem gL_isError_L_types : GoodIn wsL_isError (va_wsS RL 249 yL_types wsL_types) := goodIn_app (goodIn_of _ (by decide +kernel)) ggL_isError_L_types
set_option maxRecDepth 20000 in
theorem ggL_isError_X6_letterError : GoodIn wsL_isError wsX6_letterError := goodIn_r _ [43, 6, 44, 45, 46, 10, 47, 48, 49, 50, 51, 52, 53, 54, 55, 56, 39, 57, 58, 59, 60, 61, 62, 63, 12, 64, 65, 66, 67, 68, 69, 70, 71, 72, 73, 74, 75, 76, 77, 78, 79, 80, 81, 82, 83, 84, 85, 86, 87, 88, 89, 90, 91, 92, 93, 94, 95, 96, 97, 98, 99, 100, 101, 102, 103, 104, 105, 106, 107, 108, 109, 110, 111, 112, 113, 114, 115, 116, 117, 118, 119, 120, 121, 122, 123, 124, 125, 126, 127, 128, 129, 130, 131, 132, 133, 134, 135, 136, 137, 138, 139, 140, 141, 142, 143, 144, 145, 146, 147, 148, 149, 150, 151, 152, 153, 154, 155, 156, 157, 158, 159, 160, 161, 162, 163, 164, 165, 166, 167, 168, 169, 170, 171, 172, 173, 174, 175, 176, 177, 178, 179, 180, 181, 182, 183, 184, 185, 4, 186, 187, 188, 189, 190, 191, 192, 193, 194, 195, 196, 197, 198, 199, 200, 201, 202, 203] rfl (by decide +kernel)
set_option maxRecDepth 20000 in
theorem gL_isError_X6_letterError : GoodIn wsL_isError (wsV RL 253 RX6 yX6_letterError wsX6_letterError) := goodIn_app (goodIn_of _ (by decide +kernel)) ggL_isError_X6_letterError
theorem dL_isError_0 : decode cL_isError 0 = .ok (.aload_n 0, 1) := by decide +kernel
theorem dL_isError_1 : decode cL_isError 1 = .ok (.invokevirtual 246, 3) := by decide +kernel
theorem dL_isError_4 : decode cL_isError 4 = .ok (.ifCond .lt 32, 3) := by decide +kernel
theorem dL_isError_7 : decode cL_isError 7 = .ok (.aload_n 0, 1) := by decide +kernel
theorem dL_isError_8 : decode cL_isError 8 = .ok (.lload_n 1, 1) := by decide +kernel
theorem dL_isError_9 : decode cL_isError 9 = .ok (.invokestatic 249, 3) := by decide +kernel
theorem dL_isError_12 : decode cL_isError 12 = .ok (.ifCond .eq 24, 3) := by decide +kernel
theorem dL_isError_15 : decode cL_isError 15 = .ok (.aload_n 0, 1) := by decide +kernel
theorem dL_isError_16 : decode cL_isError 16 = .ok (.lload_n 3, 1) := by decide +kernel
theorem dL_isError_17 : decode cL_isError 17 = .ok (.invokestatic 249, 3) := by decide +kernel
theorem dL_isError_20 : decode cL_isError 20 = .ok (.ifCond .eq 16, 3) := by decide +kernel
theorem dL_isError_23 : decode cL_isError 23 = .ok (.aload_n 0, 1) := by decide +kernel
theorem dL_isError_24 : decode cL_isError 24 = .ok (.invokevirtual 253, 3) := by decide +kernel
theorem dL_isError_27 : decode cL_isError 27 = .ok (.iload 5, 2) := by decide +kernel
theorem dL_isError_29 : decode cL_isError 29 = .ok (.if_icmp .ne 7, 3) := by decide +kernel
theorem dL_isError_32 : decode cL_isError 32 = .ok (.iconst 1, 1) := by decide +kernel
theorem dL_isError_33 : decode cL_isError 33 = .ok (.goto 4, 3) := by decide +kernel
theorem dL_isError_36 : decode cL_isError 36 = .ok (.iconst 0, 1) := by decide +kernel
theorem dL_isError_37 : decode cL_isError 37 = .ok (.ireturn, 1) := by decide +kernel
set_option maxRecDepth 20000 in
theorem ggL_texts_X6_init : GoodIn wsL_texts wsX6_init := goodIn_r _ [41, 42, 43, 44, 45, 46, 47, 48, 49, 50, 51, 52, 53, 54, 55, 56, 57, 58, 59, 60, 61, 62, 63, 64, 65, 66, 67, 68, 69, 70, 71, 72, 73, 74, 75, 76, 77, 78, 79, 80, 81, 82, 83, 84, 85, 86, 87, 88, 89, 90, 91, 92, 93, 94, 95, 96, 97, 98, 99, 100, 101, 102, 103, 104, 105, 106, 107, 108, 109, 110, 111, 112, 113, 114, 115, 116, 117, 118, 119, 120, 121, 122, 123, 124, 125, 126, 127, 128, 129, 130, 131, 132, 133, 134, 135, 136, 893, 894, 895, 896, 897, 898, 899, 900, 901, 902, 885, 886, 887, 888, 889, 890, 891, 892, 903, 904, 905, 906, 907, 908, 909, 910, 911, 912, 913, 914, 915, 916, 917, 918, 919, 920, 921, 922, 923, 924, 925, 926, 927, 928, 929, 930, 931, 932, 933, 934, 935, 936, 937] rfl (by decide +kernel)
set_option maxRecDepth 20000 in
theorem gL_texts_X6_init : GoodIn wsL_texts (wsX6_init) := ggL_texts_X6_init
set_option maxRecDepth 20000 in
theorem ggL_texts_L_isError : GoodIn wsL_texts wsL_isError := goodIn_ca (goodIn_ca (goodIn_ca (goodIn_r _ [140, 141, 142, 143, 3, 144, 57, 145, 146, 147, 56, 148, 124, 149, 150, 139, 151, 152, 153, 154, 155, 156, 157, 158, 159, 160, 161, 162, 163, 164, 165, 166, 167, 168, 169, 170, 171, 172, 173, 123, 174, 175, 176, 177, 178, 179, 180, 181, 125, 182, 183, 184, 185, 186, 187, 188, 189, 126, 128, 127, 190, 191, 192, 193, 194, 195, 196, 197, 198, 199, 200, 201, 202, 203, 204, 205, 206, 207, 208, 209, 210, 211, 212, 213, 214, 215, 216, 217, 218, 219, 220, 221, 222, 223, 224, 225, 226, 227, 228, 229, 230, 231, 232, 233, 234, 235, 236, 237, 238, 239, 240, 241, 242, 243, 244, 245, 246, 247, 248, 249, 250, 251, 252, 253, 254, 255, 256, 257, 258, 259, 260, 261, 262, 263, 264, 265, 266, 267, 268, 269, 270, 271, 272, 273, 274, 275, 276, 277, 278, 279, 280, 281, 282, 283, 284, 285, 286, 287, 288, 289, 290, 291, 292, 293, 294, 295, 296, 297, 298, 299, 300, 301, 302, 303, 304, 305, 306, 307, 308, 309, 310, 311, 312, 313, 314, 315, 316, 317, 318, 319, 885, 886, 887, 888, 889, 890, 891, 892, 903, 904, 905, 906, 907, 908] rfl (by decide +kernel)) (goodIn_sub (fun _ h => List.mem_cons_of_mem _ (List.mem_append_left _ (List.mem_append_left _ (List.mem_append_right _ h)))) (by decide +kernel))) (goodIn_sub (fun _ h => List.mem_cons_of_mem _ (List.mem_append_left _ (List.mem_append_right _ h))) (by decide +kernel))) (goodIn_sub (fun _ h => List.mem_cons_of_mem _ (List.mem_append_right _ h)) (by decide +kernel))
set_option maxRecDepth 20000 in
theorem gL_texts_L_isError : GoodIn wsL_texts (va_wsS RL 258 yL_isError wsL_isError) := goodIn_app (goodIn_of _ (by decide +kernel)) ggL_texts_L_isError
set_option maxRecDepth 20000 in
theorem ggL_texts_X6_clearLetter : GoodIn wsL_texts wsX6_clearLetter := goodIn_r _ [144, 57, 145, 146, 147, 56, 148, 124, 885, 886, 887, 888, 889, 890, 891, 892, 903, 904, 905, 906, 907, 908] rfl (by decide +kernel)
set_option maxRecDepth 20000 in
theorem gL_texts_X6_clearLetter : GoodIn wsL_texts (wsV RL 246 RX6 yX6_clearLetter wsX6_clearLetter) := goodIn_app (goodIn_of _ (by decide +kernel)) ggL_texts_X6_clearLetter
set_option maxRecDepth 20000 in
theorem ggL_texts_L_types : GoodIn wsL_texts wsL_types := goodIn_ca (goodIn_ca (goodIn_ca (goodIn_r _ [151, 152, 153, 154, 155, 3, 156, 57, 157, 158, 159, 56, 160, 124, 161, 162, 163, 164, 165, 166, 167, 168, 169, 170, 171, 172, 173, 123, 885, 886, 887, 888, 889, 890, 891, 892, 903, 904, 905, 906, 907, 908] rfl (by decide +kernel)) (goodIn_sub (fun _ h => List.mem_cons_of_mem _ (List.mem_append_left _ (List.mem_append_left _ (List.mem_append_right _ h)))) (by decide +kernel))) (goodIn_sub (fun _ h => List.mem_cons_of_mem _ (List.mem_append_left _ (List.mem_append_right _ h))) (by decide +kernel))) (goodIn_sub (fun _ h => List.mem_cons_of_mem _ (List.mem_append_right _ h)) (by decide +kernel))
set_option maxRecDepth 20000 in
theorem gL_texts_L_types : GoodIn wsL_texts (va_wsS RL 249 yL_types wsL_types) := goodIn_app (goodIn_of _ (by decide +kernel)) ggL_texts_L_types
set_option maxRecDepth 20000 in
theorem ggL_texts_X6_letterError : GoodIn wsL_texts wsX6_letterError := goodIn_r _ [177, 57, 178, 179, 180, 56, 181, 125, 182, 183, 184, 185, 186, 187, 188, 189, 123, 126, 128, 127, 190, 191, 192, 193, 124, 194, 195, 196, 197, 198, 199, 200, 201, 202, 203, 204, 205, 206, 207, 208, 209, 210, 211, 212, 213, 214, 215, 216, 217, 218, 219, 220, 221, 222, 223, 224, 225, 226, 227, 228, 229, 230, 231, 232, 233, 234, 235, 236, 237, 238, 239, 240, 241, 242, 243, 244, 245, 246, 247, 248, 249, 250, 251, 252, 253, 254, 255, 256, 257, 258, 259, 260, 261, 262, 263, 264, 265, 266, 267, 268, 269, 270, 271, 272, 273, 274, 275, 276, 277, 278, 279, 280, 281, 282, 283, 284, 285, 286, 287, 288, 289, 290, 291, 292, 293, 294, 295, 296, 297, 298, 299, 300, 301, 302, 303, 304, 305, 306, 307, 308, 309, 310, 311, 312, 313, 314, 315, 3, 316, 317, 318, 319, 885, 886, 887, 888, 889, 890, 891, 892, 903, 904, 905, 906, 907, 908] rfl (by decide +kernel)
set_option maxRecDepth 20000 in
theorem gL_texts_X6_letterError : GoodIn wsL_texts (wsV RL 253 RX6 yX6_letterError wsX6_letterError) := goodIn_app (goodIn_of _ (by decide +kernel)) ggL_texts_X6_letterError
set_option maxRecDepth 20000 in
theorem ggL_texts_X6_impossibleOrder : GoodIn wsL_texts wsX6_impossibleOrder := goodIn_ca (goodIn_ca (goodIn_ca (goodIn_r _ [323, 57, 178, 179, 180, 56, 181, 125, 182, 183, 184, 185, 186, 187, 188, 189, 123, 126, 128, 127, 190, 191, 192, 193, 124, 194, 195, 196, 197, 198, 199, 200, 201, 202, 203, 204, 205, 206, 207, 208, 209, 210, 211, 212, 213, 214, 215, 216, 217, 218, 219, 220, 221, 222, 223, 224, 225, 226, 227, 228, 229, 230, 231, 232, 233, 234, 235, 236, 237, 238, 239, 240, 241, 242, 243, 244, 245, 246, 247, 248, 249, 250, 251, 252, 253, 254, 255, 256, 257, 258, 259, 260, 261, 262, 263, 264, 265, 266, 267, 268, 269, 270, 271, 272, 273, 274, 275, 276, 277, 278, 279, 280, 281, 282, 283, 284, 285, 286, 287, 288, 289, 290, 291, 292, 293, 294, 295, 296, 297, 298, 299, 300, 301, 302, 303, 304, 305, 306, 307, 308, 309, 310, 311, 312, 313, 314, 315, 3, 316, 317, 318, 319, 161, 162, 163, 164, 165, 166, 167, 168, 169, 324, 325, 326, 327, 49, 48, 328, 329, 330, 331, 332, 333, 47, 334, 65, 69, 73, 77, 79, 335, 336, 337, 338, 80, 81, 82, 83, 84, 339, 340, 341, 68, 342, 88, 89, 343, 90, 91, 92, 93, 94, 95, 96, 97, 98, 99, 344, 345, 346, 72, 347, 103, 104, 348, 105, 106, 349, 350, 351, 76, 352, 110, 111, 353, 112, 113, 115, 116, 117, 118, 354, 355, 356, 357, 358, 359, 360, 361, 362, 363, 364, 365, 366, 367, 368, 369, 370, 371, 372, 373, 374, 375, 376, 377, 378, 379, 380, 381, 382, 383, 384, 385, 386, 387, 388, 389, 390, 391, 392, 393, 394, 395, 396, 397, 398, 399, 400, 401, 402, 403, 404, 405, 406, 407, 408, 409, 410, 411, 412, 413, 414, 415, 416, 417, 418, 419, 420, 421, 422, 423, 424, 425, 426, 427, 428, 429, 430, 431, 432, 433, 434, 435, 436, 437, 438, 439, 440, 441, 442, 61, 443, 444, 445, 446, 447, 448, 449, 450, 451, 452, 453, 454, 455, 456, 457, 458, 459, 460, 461, 462, 463, 464, 465, 466, 467, 468, 469, 470, 471, 472, 473, 474, 475, 476, 477, 478, 479, 480, 481, 482, 483, 484, 485, 486, 487, 488, 489, 490, 491, 492, 493, 494, 495, 496, 497, 498, 499, 500, 501, 502, 503, 504, 505, 506, 507, 508, 509, 60, 510, 132, 511, 512, 134, 513, 514, 515, 133, 516, 517, 518, 519, 520, 521, 522, 523, 524, 525, 526, 527, 528, 529, 530, 531, 532, 533, 534, 535, 536, 537, 538, 539, 540, 541, 542, 543, 135, 544, 545, 546, 547, 548, 549, 550, 551, 552, 553, 554, 555, 556, 557, 558, 559, 560, 561, 562, 563, 564, 565, 566, 567, 568, 569, 570, 571, 572, 573, 574, 575, 576, 577, 578, 579, 580, 581, 582, 583, 584, 585, 586, 587, 588, 589, 590, 591, 592, 593, 594, 595, 596, 597, 598, 599, 600, 601, 885, 886, 887, 888, 889, 890, 891, 892, 903, 904, 905, 906, 907, 908, 893, 894, 895, 896, 897, 898, 899, 900, 901, 902, 914, 915, 916, 917, 918, 919, 920, 921, 922, 923, 924, 925, 926, 927, 928, 929, 930, 931, 932, 933, 934, 935, 936, 937, 909, 910, 911, 912, 913] rfl (by decide +kernel)) (goodIn_sub (fun _ h => List.mem_cons_of_mem _ (List.mem_append_left _ (List.mem_append_left _ (List.mem_append_right _ h)))) (by decide +kernel))) (goodIn_sub (fun _ h => List.mem_cons_of_mem _ (List.mem_append_left _ (List.mem_append_right _ h))) (by decide +kernel))) (goodIn_sub (fun _ h => List.mem_cons_of_mem _ (List.mem_append_right _ h)) (by decide +kernel))
set_option maxRecDepth 20000 in
theorem gL_texts_X6_impossibleOrder : GoodIn wsL_texts (wsV RL 138 RX6 yX6_impossibleOrder wsX6_impossibleOrder) := goodIn_app (goodIn_of _ (by decide +kernel)) ggL_texts_X6_impossibleOrder
set_option maxRecDepth 20000 in
theorem ggL_texts_X6_carryOut : GoodIn wsL_texts wsX6_carryOut := goodIn_ca (goodIn_ca (goodIn_ca (goodIn_r _ [605, 57, 48, 49, 178, 179, 180, 56, 181, 125, 182, 183, 184, 185, 186, 187, 188, 189, 123, 126, 128, 127, 190, 191, 192, 193, 124, 194, 195, 196, 197, 198, 199, 200, 201, 202, 203, 204, 205, 206, 207, 208, 209, 210, 211, 212, 213, 214, 215, 216, 217, 218, 219, 220, 221, 222, 223, 224, 225, 226, 227, 228, 229, 230, 231, 232, 233, 234, 235, 236, 237, 238, 239, 240, 241, 242, 243, 244, 245, 246, 247, 248, 249, 250, 251, 252, 253, 254, 255, 256, 257, 258, 259, 260, 261, 262, 263, 264, 265, 266, 267, 268, 269, 270, 271, 272, 273, 274, 275, 276, 277, 278, 279, 280, 281, 282, 283, 284, 285, 286, 287, 288, 289, 290, 291, 292, 293, 294, 295, 296, 297, 298, 299, 300, 301, 302, 303, 304, 305, 306, 307, 308, 309, 310, 311, 312, 313, 314, 315, 3, 316, 317, 318, 319, 324, 325, 326, 327, 328, 329, 330, 331, 332, 333, 47, 334, 65, 69, 73, 77, 79, 335, 336, 337, 338, 80, 81, 82, 83, 84, 339, 340, 341, 68, 342, 88, 89, 343, 90, 91, 92, 93, 94, 95, 96, 97, 98, 99, 344, 345, 346, 72, 347, 103, 104, 348, 105, 106, 349, 350, 351, 76, 352, 110, 111, 353, 112, 113, 115, 116, 117, 118, 354, 355, 356, 357, 358, 359, 360, 361, 362, 363, 364, 365, 366, 367, 368, 369, 370, 371, 372, 373, 374, 375, 376, 377, 378, 379, 380, 381, 382, 383, 384, 385, 386, 387, 388, 389, 390, 391, 392, 393, 394, 395, 396, 397, 398, 399, 400, 401, 402, 403, 404, 405, 406, 407, 408, 409, 410, 411, 412, 413, 414, 415, 416, 417, 418, 419, 420, 421, 422, 423, 424, 425, 426, 427, 428, 429, 430, 431, 432, 433, 434, 435, 436, 437, 438, 439, 440, 441, 442, 61, 443, 444, 445, 446, 447, 448, 449, 450, 451, 452, 453, 454, 455, 456, 457, 458, 459, 460, 461, 462, 463, 464, 465, 466, 467, 468, 469, 470, 471, 472, 473, 474, 475, 476, 477, 478, 479, 480, 481, 482, 483, 484, 485, 486, 487, 488, 489, 490, 491, 492, 493, 494, 495, 496, 497, 498, 499, 500, 501, 502, 503, 504, 505, 506, 507, 508, 509, 60, 510, 132, 511, 512, 134, 513, 514, 515, 133, 516, 517, 518, 519, 520, 521, 522, 523, 524, 525, 526, 527, 528, 529, 530, 531, 532, 533, 534, 535, 536, 537, 538, 539, 540, 541, 542, 543, 135, 544, 545, 546, 547, 548, 549, 550, 551, 552, 553, 554, 555, 556, 557, 558, 559, 560, 561, 562, 563, 564, 565, 566, 567, 568, 569, 570, 571, 572, 573, 574, 575, 576, 577, 578, 579, 580, 581, 582, 583, 584, 585, 586, 587, 588, 589, 590, 591, 592, 593, 594, 595, 596, 597, 598, 599, 600, 601, 161, 162, 163, 164, 165, 166, 167, 168, 169, 606, 607, 608, 609, 53, 52, 610, 611, 612, 613, 614, 615, 616, 617, 885, 886, 887, 888, 889, 890, 891, 892, 903, 904, 905, 906, 907, 908, 893, 894, 895, 896, 897, 898, 899, 900, 901, 902, 914, 915, 916, 917, 918, 919, 920, 921, 922, 923, 924, 925, 926, 927, 928, 929, 930, 931, 932, 933, 934, 935, 936, 937, 909, 910, 911, 912, 913] rfl (by decide +kernel)) (goodIn_sub (fun _ h => List.mem_cons_of_mem _ (List.mem_append_left _ (List.mem_append_left _ (List.mem_append_right _ h)))) (by decide +kernel))) (goodIn_sub (fun _ h => List.mem_cons_of_mem _ (List.mem_append_left _ (List.mem_append_right _ h))) (by decide +kernel))) (goodIn_sub (fun _ h => List.mem_cons_of_mem _ (List.mem_append_right _ h)) (by decide +kernel))
set_option maxRecDepth 20000 in
theorem gL_texts_X6_carryOut : GoodIn wsL_texts (wsV RL 142 RX6 yX6_carryOut wsX6_carryOut) := goodIn_app (goodIn_of _ (by decide +kernel)) ggL_texts_X6_carryOut
set_option maxRecDepth 20000 in
theorem ggL_texts_X6_day : GoodIn wsL_texts wsX6_day := goodIn_r _ [621, 48, 622, 885, 886, 887, 888, 889, 890, 891, 892, 893, 894, 895, 896, 897, 898, 899, 900, 901, 902] rfl (by decide +kernel)
set_option maxRecDepth 20000 in
theorem gL_texts_X6_day : GoodIn wsL_texts (wsV RL 155 RX6 yX6_day wsX6_day) := goodIn_app (goodIn_of _ (by decide +kernel)) ggL_texts_X6_day
set_option maxRecDepth 20000 in
theorem ggL_texts_L_accounts : GoodIn wsL_texts wsL_accounts := goodIn_r _ [625, 626, 627, 628, 3, 629, 48, 630, 631, 632, 633, 634, 635, 636, 637, 638, 639, 640, 641, 642, 643, 644, 645, 646, 647, 648, 649, 650, 885, 886, 887, 888, 889, 890, 891, 892, 893, 894, 895, 896, 897, 898, 899, 900, 901, 902] rfl (by decide +kernel)
set_option maxRecDepth 20000 in
theorem gL_texts_L_accounts : GoodIn wsL_texts (va_wsS RL 208 yL_accounts wsL_accounts) := goodIn_app (goodIn_of _ (by decide +kernel)) ggL_texts_L_accounts
set_option maxRecDepth 20000 in
theorem ggL_texts_X6_breakDayOf : GoodIn wsL_texts wsX6_breakDayOf := goodIn_ca (goodIn_ca (goodIn_ca (goodIn_r _ [654, 48, 655, 656, 657, 658, 659, 3, 660, 661, 407, 408, 68, 409, 88, 161, 162, 163, 164, 165, 166, 167, 168, 169, 885, 886, 887, 888, 889, 890, 891, 892, 893, 894, 895, 896, 897, 898, 899, 900, 901, 902, 914, 915, 916, 917, 918, 919, 920, 921, 922, 923, 924, 925] rfl (by decide +kernel)) (goodIn_sub (fun _ h => List.mem_cons_of_mem _ (List.mem_append_left _ (List.mem_append_left _ (List.mem_append_right _ h)))) (by decide +kernel))) (goodIn_sub (fun _ h => List.mem_cons_of_mem _ (List.mem_append_left _ (List.mem_append_right _ h))) (by decide +kernel))) (goodIn_sub (fun _ h => List.mem_cons_of_mem _ (List.mem_append_right _ h)) (by decide +kernel))
set_option maxRecDepth 20000 in
theorem gL_texts_X6_breakDayOf : GoodIn wsL_texts (wsV RL 76 RX6 yX6_breakDayOf wsX6_breakDayOf) := goodIn_app (goodIn_of _ (by decide +kernel)) ggL_texts_X6_breakDayOf
set_option maxRecDepth 20000 in
theorem ggL_texts_X6_descantIn : GoodIn wsL_texts wsX6_descantIn := goodIn_ca (goodIn_ca (goodIn_ca (goodIn_r _ [665, 48, 666, 667, 61, 668, 669, 670, 3, 671, 672, 392, 393, 76, 394, 110, 161, 162, 163, 164, 165, 166, 167, 168, 169, 673, 398, 399, 47, 400, 77, 401, 65, 674, 675, 676, 60, 677, 514, 678, 136, 513, 336, 337, 338, 511, 679, 520, 680, 504, 505, 506, 111, 681, 508, 509, 510, 132, 512, 134, 515, 133, 516, 517, 518, 519, 521, 522, 523, 524, 69, 73, 418, 419, 420, 68, 421, 96, 427, 428, 429, 430, 97, 414, 415, 416, 72, 417, 103, 104, 105, 106, 525, 526, 527, 528, 93, 529, 530, 531, 532, 470, 533, 471, 534, 535, 536, 537, 538, 539, 462, 463, 464, 540, 541, 542, 543, 135, 544, 545, 546, 547, 548, 549, 550, 551, 552, 553, 554, 555, 556, 557, 558, 559, 560, 561, 562, 563, 564, 565, 566, 567, 568, 569, 682, 581, 582, 583, 584, 585, 586, 587, 92, 885, 886, 887, 888, 889, 890, 891, 892, 893, 894, 895, 896, 897, 898, 899, 900, 901, 902, 930, 931, 932, 933, 934, 935, 936, 937, 914, 915, 916, 917, 918, 919, 920, 921, 922, 923, 924, 925, 909, 910, 911, 912, 913, 926, 927, 928, 929] rfl (by decide +kernel)) (goodIn_sub (fun _ h => List.mem_cons_of_mem _ (List.mem_append_left _ (List.mem_append_left _ (List.mem_append_right _ h)))) (by decide +kernel))) (goodIn_sub (fun _ h => List.mem_cons_of_mem _ (List.mem_append_left _ (List.mem_append_right _ h))) (by decide +kernel))) (goodIn_sub (fun _ h => List.mem_cons_of_mem _ (List.mem_append_right _ h)) (by decide +kernel))
set_option maxRecDepth 20000 in
theorem gL_texts_X6_descantIn : GoodIn wsL_texts (wsV RL 113 RX6 yX6_descantIn wsX6_descantIn) := goodIn_app (goodIn_of _ (by decide +kernel)) ggL_texts_X6_descantIn
set_option maxRecDepth 20000 in
theorem ggL_texts_L_call : GoodIn wsL_texts wsL_call := goodIn_ca (goodIn_ca (goodIn_ca (goodIn_r _ [685, 686, 687, 688, 689, 690, 139, 691, 692, 693, 694, 3, 695, 48, 361, 362, 363, 47, 364, 69, 315, 316, 365, 366, 367, 368, 369, 370, 371, 372, 373, 68, 374, 88, 161, 162, 163, 164, 165, 166, 167, 168, 169, 606, 607, 608, 609, 53, 52, 610, 611, 612, 613, 331, 332, 333, 334, 65, 73, 77, 79, 335, 336, 337, 338, 80, 81, 82, 83, 84, 339, 340, 341, 342, 89, 343, 90, 91, 92, 93, 94, 95, 96, 97, 98, 99, 344, 345, 346, 72, 347, 103, 104, 348, 105, 106, 349, 350, 351, 76, 352, 110, 111, 353, 112, 113, 115, 116, 117, 118, 443, 444, 445, 446, 447, 448, 449, 450, 451, 452, 696, 697, 698, 699, 431, 432, 433, 434, 406, 407, 408, 409, 418, 419, 420, 421, 489, 490, 491, 492, 493, 494, 495, 496, 497, 498, 700, 701, 702, 703, 704, 705, 706, 707, 708, 709, 710, 711, 426, 592, 712, 713, 714, 715, 422, 423, 424, 425, 427, 428, 429, 430, 484, 485, 486, 487, 488, 716, 717, 718, 719, 402, 403, 404, 405, 410, 411, 412, 413, 414, 415, 416, 417, 476, 477, 478, 479, 480, 481, 482, 483, 720, 721, 722, 723, 375, 376, 377, 378, 379, 380, 381, 382, 383, 384, 385, 386, 453, 454, 455, 456, 457, 458, 459, 460, 461, 462, 463, 464, 724, 725, 726, 727, 387, 388, 389, 390, 391, 392, 393, 394, 395, 396, 397, 398, 399, 400, 401, 465, 466, 467, 468, 469, 470, 471, 472, 473, 474, 475, 728, 729, 730, 731, 61, 435, 436, 437, 438, 499, 500, 501, 502, 503, 504, 505, 506, 507, 508, 509, 60, 510, 132, 511, 512, 134, 513, 514, 515, 133, 516, 517, 518, 519, 520, 521, 522, 523, 524, 525, 526, 527, 528, 529, 530, 531, 532, 533, 534, 535, 536, 537, 538, 539, 540, 541, 542, 543, 135, 544, 545, 546, 547, 548, 549, 550, 551, 552, 553, 554, 555, 556, 557, 558, 559, 560, 561, 562, 563, 564, 565, 566, 567, 568, 569, 570, 571, 572, 573, 574, 575, 576, 577, 578, 579, 580, 581, 582, 583, 584, 585, 586, 587, 588, 589, 590, 591, 593, 594, 595, 596, 597, 598, 599, 600, 601, 732, 733, 734, 735, 736, 737, 738, 655, 622, 657, 658, 659, 660, 661, 739, 740, 741, 742, 743, 744, 745, 746, 747, 748, 749, 750, 751, 752, 753, 754, 755, 651, 652, 653, 654, 656, 756, 757, 758, 759, 760, 761, 762, 763, 764, 765, 766, 767, 768, 769, 770, 771, 772, 773, 774, 775, 776, 777, 778, 779, 780, 781, 782, 783, 784, 785, 786, 787, 788, 789, 790, 791, 792, 793, 794, 666, 795, 668, 669, 670, 671, 672, 796, 797, 798, 799, 673, 800, 801, 802, 803, 804, 805, 806, 807, 808, 809, 681, 810, 811, 812, 813, 814, 815, 816, 817, 818, 819, 820, 821, 822, 823, 824, 662, 663, 664, 665, 667, 674, 675, 676, 677, 678, 136, 679, 680, 682, 825, 826, 827, 828, 829, 830, 831, 832, 833, 834, 835, 836, 837, 838, 839, 840, 841, 842, 843, 844, 845, 846, 847, 848, 849, 850, 851, 852, 853, 854, 855, 856, 857, 858, 859, 860, 861, 862, 863, 864, 865, 866, 867, 153, 154, 155, 156, 57, 157, 158, 159, 56, 160, 124, 170, 171, 172, 173, 123, 320, 321, 322, 323, 178, 179, 180, 181, 125, 182, 183, 184, 185, 186, 187, 188, 189, 126, 128, 127, 190, 191, 192, 193, 194, 195, 196, 197, 198, 199, 200, 201, 202, 203, 204, 205, 206, 207, 208, 209, 210, 211, 212, 213, 214, 215, 216, 217, 218, 219, 220, 221, 222, 223, 224, 225, 226, 227, 228, 229, 230, 231, 232, 233, 234, 235, 236, 237, 238, 239, 240, 241, 242, 243, 244, 245, 246, 247, 248, 249, 250, 251, 252, 253, 254, 255, 256, 257, 258, 259, 260, 261, 262, 263, 264, 265, 266, 267, 268, 269, 270, 271, 272, 273, 274, 275, 276, 277, 278, 279, 280, 281, 282, 283, 284, 285, 286, 287, 288, 289, 290, 291, 292, 293, 294, 295, 296, 297, 298, 299, 300, 301, 302, 303, 304, 305, 306, 307, 308, 309, 310, 311, 312, 313, 314, 317, 318, 319, 324, 325, 326, 327, 49, 328, 329, 330, 354, 355, 356, 357, 358, 359, 360, 439, 440, 441, 442, 602, 603, 604, 605, 614, 615, 616, 617, 868, 869, 870, 871, 872, 873, 874, 875, 51, 50, 885, 886, 887, 888, 889, 890, 891, 892, 893, 894, 895, 896, 897, 898, 899, 900, 901, 902, 914, 915, 916, 917, 918, 919, 920, 921, 922, 923, 924, 925, 926, 927, 928, 929, 930, 931, 932, 933, 934, 935, 936, 937, 909, 910, 911, 912, 913, 903, 904, 905, 906, 907, 908] rfl (by decide +kernel)) (goodIn_sub (fun _ h => List.mem_cons_of_mem _ (List.mem_append_left _ (List.mem_append_left _ (List.mem_append_right _ h)))) (by decide +kernel))) (goodIn_sub (fun _ h => List.mem_cons_of_mem _ (List.mem_append_left _ (List.mem_append_right _ h))) (by decide +kernel))) (goodIn_sub (fun _ h => List.mem_cons_of_mem _ (List.mem_append_right _ h)) (by decide +kernel))
set_option maxRecDepth 20000 in
theorem gL_texts_L_call : GoodIn wsL_texts (va_wsS RL 187 yL_call wsL_call) := goodIn_app (goodIn_of _ (by decide +kernel)) ggL_texts_L_call
set_option maxRecDepth 20000 in
theorem ggL_texts_X6_singers : GoodIn wsL_texts wsX6_singers := goodIn_r _ [879, 48, 655, 880, 885, 886, 887, 888, 889, 890, 891, 892, 893, 894, 895, 896, 897, 898, 899, 900, 901, 902, 914, 915, 916, 917, 918, 919, 920, 921, 922, 923, 924, 925] rfl (by decide +kernel)
set_option maxRecDepth 20000 in
theorem gL_texts_X6_singers : GoodIn wsL_texts (wsV RL 158 RX6 yX6_singers wsX6_singers) := goodIn_app (goodIn_of _ (by decide +kernel)) ggL_texts_X6_singers
set_option maxRecDepth 20000 in
theorem ggL_texts_X6_recordedStates : GoodIn wsL_texts wsX6_recordedStates := goodIn_r _ [884, 53, 885, 886, 887, 888, 889, 890, 891, 892] rfl (by decide +kernel)
set_option maxRecDepth 20000 in
theorem gL_texts_X6_recordedStates : GoodIn wsL_texts (wsV RL 197 RX6 yX6_recordedStates wsX6_recordedStates) := goodIn_app (goodIn_of _ (by decide +kernel)) ggL_texts_X6_recordedStates
set_option maxRecDepth 20000 in
theorem ggL_texts_X6_isInChoir : GoodIn wsL_texts wsX6_isInChoir := goodIn_ca (goodIn_ca (goodIn_ca (goodIn_r _ [738, 48, 655, 622, 657, 658, 659, 3, 660, 661, 407, 408, 68, 409, 88, 161, 162, 163, 164, 165, 166, 167, 168, 169, 739, 419, 420, 421, 96, 885, 886, 887, 888, 889, 890, 891, 892, 893, 894, 895, 896, 897, 898, 899, 900, 901, 902, 914, 915, 916, 917, 918, 919, 920, 921, 922, 923, 924, 925] rfl (by decide +kernel)) (goodIn_sub (fun _ h => List.mem_cons_of_mem _ (List.mem_append_left _ (List.mem_append_left _ (List.mem_append_right _ h)))) (by decide +kernel))) (goodIn_sub (fun _ h => List.mem_cons_of_mem _ (List.mem_append_left _ (List.mem_append_right _ h))) (by decide +kernel))) (goodIn_sub (fun _ h => List.mem_cons_of_mem _ (List.mem_append_right _ h)) (by decide +kernel))
set_option maxRecDepth 20000 in
theorem gL_texts_X6_isInChoir : GoodIn wsL_texts (wsV RL 63 RX6 yX6_isInChoir wsX6_isInChoir) := goodIn_app (goodIn_of _ (by decide +kernel)) ggL_texts_X6_isInChoir
set_option maxRecDepth 20000 in
theorem ggL_texts_X6_isExcused : GoodIn wsL_texts wsX6_isExcused := goodIn_ca (goodIn_ca (goodIn_ca (goodIn_r _ [770, 48, 771, 657, 658, 659, 3, 660, 655, 661, 407, 408, 68, 409, 88, 161, 162, 163, 164, 165, 166, 167, 168, 169, 367, 315, 316, 772, 415, 416, 72, 417, 103, 104, 105, 106, 885, 886, 887, 888, 889, 890, 891, 892, 893, 894, 895, 896, 897, 898, 899, 900, 901, 902, 914, 915, 916, 917, 918, 919, 920, 921, 922, 923, 924, 925, 926, 927, 928, 929] rfl (by decide +kernel)) (goodIn_sub (fun _ h => List.mem_cons_of_mem _ (List.mem_append_left _ (List.mem_append_left _ (List.mem_append_right _ h)))) (by decide +kernel))) (goodIn_sub (fun _ h => List.mem_cons_of_mem _ (List.mem_append_left _ (List.mem_append_right _ h))) (by decide +kernel))) (goodIn_sub (fun _ h => List.mem_cons_of_mem _ (List.mem_append_right _ h)) (by decide +kernel))
set_option maxRecDepth 20000 in
theorem gL_texts_X6_isExcused : GoodIn wsL_texts (wsV RL 85 RX6 yX6_isExcused wsX6_isExcused) := goodIn_app (goodIn_of _ (by decide +kernel)) ggL_texts_X6_isExcused
set_option maxRecDepth 20000 in
theorem ggL_texts_X6_favoursOf : GoodIn wsL_texts wsX6_favoursOf := goodIn_ca (goodIn_ca (goodIn_ca (goodIn_r _ [786, 48, 787, 367, 315, 3, 316, 161, 162, 163, 164, 165, 166, 167, 168, 169, 885, 886, 887, 888, 889, 890, 891, 892, 893, 894, 895, 896, 897, 898, 899, 900, 901, 902] rfl (by decide +kernel)) (goodIn_sub (fun _ h => List.mem_cons_of_mem _ (List.mem_append_left _ (List.mem_append_left _ (List.mem_append_right _ h)))) (by decide +kernel))) (goodIn_sub (fun _ h => List.mem_cons_of_mem _ (List.mem_append_left _ (List.mem_append_right _ h))) (by decide +kernel))) (goodIn_sub (fun _ h => List.mem_cons_of_mem _ (List.mem_append_right _ h)) (by decide +kernel))
set_option maxRecDepth 20000 in
theorem gL_texts_X6_favoursOf : GoodIn wsL_texts (wsV RL 95 RX6 yX6_favoursOf wsX6_favoursOf) := goodIn_app (goodIn_of _ (by decide +kernel)) ggL_texts_X6_favoursOf
set_option maxRecDepth 20000 in
theorem ggL_texts_X6_undo : GoodIn wsL_texts wsX6_undo := goodIn_ca (goodIn_ca (goodIn_ca (goodIn_r _ [871, 53, 48, 52, 161, 162, 3, 163, 164, 165, 166, 167, 168, 169, 331, 332, 333, 47, 334, 65, 69, 73, 77, 79, 335, 336, 337, 338, 80, 81, 82, 83, 84, 339, 340, 341, 68, 342, 88, 89, 343, 90, 91, 92, 93, 94, 95, 96, 97, 98, 99, 344, 345, 346, 72, 347, 103, 104, 348, 105, 106, 349, 350, 351, 76, 352, 110, 111, 353, 112, 113, 115, 116, 117, 118, 885, 886, 887, 888, 889, 890, 891, 892, 893, 894, 895, 896, 897, 898, 899, 900, 901, 902, 914, 915, 916, 917, 918, 919, 920, 921, 922, 923, 924, 925, 926, 927, 928, 929, 930, 931, 932, 933, 934, 935, 936, 937] rfl (by decide +kernel)) (goodIn_sub (fun _ h => List.mem_cons_of_mem _ (List.mem_append_left _ (List.mem_append_left _ (List.mem_append_right _ h)))) (by decide +kernel))) (goodIn_sub (fun _ h => List.mem_cons_of_mem _ (List.mem_append_left _ (List.mem_append_right _ h))) (by decide +kernel))) (goodIn_sub (fun _ h => List.mem_cons_of_mem _ (List.mem_append_right _ h)) (by decide +kernel))
set_option maxRecDepth 20000 in
theorem gL_texts_X6_undo : GoodIn wsL_texts (wsV RL 145 RX6 yX6_undo wsX6_undo) := goodIn_app (goodIn_of _ (by decide +kernel)) ggL_texts_X6_undo
set_option maxRecDepth 20000 in
theorem ggL_texts_X6_type : GoodIn wsL_texts wsX6_type := goodIn_ca (goodIn_ca (goodIn_ca (goodIn_r _ [156, 57, 157, 158, 159, 56, 160, 124, 161, 162, 3, 163, 164, 165, 166, 167, 168, 169, 170, 171, 172, 173, 123, 885, 886, 887, 888, 889, 890, 891, 892, 903, 904, 905, 906, 907, 908] rfl (by decide +kernel)) (goodIn_sub (fun _ h => List.mem_cons_of_mem _ (List.mem_append_left _ (List.mem_append_left _ (List.mem_append_right _ h)))) (by decide +kernel))) (goodIn_sub (fun _ h => List.mem_cons_of_mem _ (List.mem_append_left _ (List.mem_append_right _ h))) (by decide +kernel))) (goodIn_sub (fun _ h => List.mem_cons_of_mem _ (List.mem_append_right _ h)) (by decide +kernel))
set_option maxRecDepth 20000 in
theorem gL_texts_X6_type : GoodIn wsL_texts (wsV RL 134 RX6 yX6_type wsX6_type) := goodIn_app (goodIn_of _ (by decide +kernel)) ggL_texts_X6_type
theorem dL_texts_0 : decode cL_texts 0 = .ok (.new 33, 3) := by decide +kernel
theorem dL_texts_3 : decode cL_texts 3 = .ok (.dup, 1) := by decide +kernel
theorem dL_texts_4 : decode cL_texts 4 = .ok (.invokespecial 207, 3) := by decide +kernel
theorem dL_texts_7 : decode cL_texts 7 = .ok (.astore_n 0, 1) := by decide +kernel
theorem dL_texts_8 : decode cL_texts 8 = .ok (.aload_n 0, 1) := by decide +kernel
theorem dL_texts_9 : decode cL_texts 9 = .ok (.ldc2_w 256, 3) := by decide +kernel
theorem dL_texts_12 : decode cL_texts 12 = .ok (.lconst 0, 1) := by decide +kernel
theorem dL_texts_13 : decode cL_texts 13 = .ok (.iconst 2, 1) := by decide +kernel
theorem dL_texts_14 : decode cL_texts 14 = .ok (.invokestatic 258, 3) := by decide +kernel
theorem dL_texts_17 : decode cL_texts 17 = .ok (.ifCond .eq 114, 3) := by decide +kernel
theorem dL_texts_20 : decode cL_texts 20 = .ok (.aload_n 0, 1) := by decide +kernel
theorem dL_texts_21 : decode cL_texts 21 = .ok (.ldc2_w 262, 3) := by decide +kernel
theorem dL_texts_24 : decode cL_texts 24 = .ok (.lconst 0, 1) := by decide +kernel
theorem dL_texts_25 : decode cL_texts 25 = .ok (.iconst 3, 1) := by decide +kernel
theorem dL_texts_26 : decode cL_texts 26 = .ok (.invokestatic 258, 3) := by decide +kernel
theorem dL_texts_29 : decode cL_texts 29 = .ok (.ifCond .eq 102, 3) := by decide +kernel
theorem dL_texts_32 : decode cL_texts 32 = .ok (.aload_n 0, 1) := by decide +kernel
theorem dL_texts_33 : decode cL_texts 33 = .ok (.ldc2_w 264, 3) := by decide +kernel
theorem dL_texts_36 : decode cL_texts 36 = .ok (.lconst 0, 1) := by decide +kernel
theorem dL_texts_37 : decode cL_texts 37 = .ok (.iconst 2, 1) := by decide +kernel
theorem dL_texts_38 : decode cL_texts 38 = .ok (.invokestatic 258, 3) := by decide +kernel
theorem dL_texts_41 : decode cL_texts 41 = .ok (.ifCond .eq 90, 3) := by decide +kernel
theorem dL_texts_44 : decode cL_texts 44 = .ok (.aload_n 0, 1) := by decide +kernel
theorem dL_texts_45 : decode cL_texts 45 = .ok (.ldc2_w 266, 3) := by decide +kernel
theorem dL_texts_48 : decode cL_texts 48 = .ok (.lconst 0, 1) := by decide +kernel
theorem dL_texts_49 : decode cL_texts 49 = .ok (.iconst 2, 1) := by decide +kernel
theorem dL_texts_50 : decode cL_texts 50 = .ok (.invokestatic 258, 3) := by decide +kernel
theorem dL_texts_53 : decode cL_texts 53 = .ok (.ifCond .eq 78, 3) := by decide +kernel
theorem dL_texts_56 : decode cL_texts 56 = .ok (.aload_n 0, 1) := by decide +kernel
theorem dL_texts_57 : decode cL_texts 57 = .ok (.ldc2_w 268, 3) := by decide +kernel
theorem dL_texts_60 : decode cL_texts 60 = .ok (.lconst 0, 1) := by decide +kernel
theorem dL_texts_61 : decode cL_texts 61 = .ok (.iconst 1, 1) := by decide +kernel
theorem dL_texts_62 : decode cL_texts 62 = .ok (.invokestatic 258, 3) := by decide +kernel
theorem dL_texts_65 : decode cL_texts 65 = .ok (.ifCond .eq 66, 3) := by decide +kernel
theorem dL_texts_68 : decode cL_texts 68 = .ok (.aload_n 0, 1) := by decide +kernel
theorem dL_texts_69 : decode cL_texts 69 = .ok (.ldc2_w 270, 3) := by decide +kernel
theorem dL_texts_72 : decode cL_texts 72 = .ok (.lconst 0, 1) := by decide +kernel
theorem dL_texts_73 : decode cL_texts 73 = .ok (.iconst 5, 1) := by decide +kernel
theorem dL_texts_74 : decode cL_texts 74 = .ok (.invokestatic 258, 3) := by decide +kernel
theorem dL_texts_77 : decode cL_texts 77 = .ok (.ifCond .eq 54, 3) := by decide +kernel
theorem dL_texts_80 : decode cL_texts 80 = .ok (.aload_n 0, 1) := by decide +kernel
theorem dL_texts_81 : decode cL_texts 81 = .ok (.ldc2_w 272, 3) := by decide +kernel
theorem dL_texts_84 : decode cL_texts 84 = .ok (.lconst 0, 1) := by decide +kernel
theorem dL_texts_85 : decode cL_texts 85 = .ok (.iconst 2, 1) := by decide +kernel
theorem dL_texts_86 : decode cL_texts 86 = .ok (.invokestatic 258, 3) := by decide +kernel
theorem dL_texts_89 : decode cL_texts 89 = .ok (.ifCond .eq 42, 3) := by decide +kernel
theorem dL_texts_92 : decode cL_texts 92 = .ok (.aload_n 0, 1) := by decide +kernel
theorem dL_texts_93 : decode cL_texts 93 = .ok (.ldc2_w 274, 3) := by decide +kernel
theorem dL_texts_96 : decode cL_texts 96 = .ok (.lconst 0, 1) := by decide +kernel
theorem dL_texts_97 : decode cL_texts 97 = .ok (.iconst 4, 1) := by decide +kernel
theorem dL_texts_98 : decode cL_texts 98 = .ok (.invokestatic 258, 3) := by decide +kernel
theorem dL_texts_101 : decode cL_texts 101 = .ok (.ifCond .eq 30, 3) := by decide +kernel
theorem dL_texts_104 : decode cL_texts 104 = .ok (.aload_n 0, 1) := by decide +kernel
theorem dL_texts_105 : decode cL_texts 105 = .ok (.ldc2_w 276, 3) := by decide +kernel
theorem dL_texts_108 : decode cL_texts 108 = .ok (.lconst 0, 1) := by decide +kernel
theorem dL_texts_109 : decode cL_texts 109 = .ok (.iconst 4, 1) := by decide +kernel
theorem dL_texts_110 : decode cL_texts 110 = .ok (.invokestatic 258, 3) := by decide +kernel
theorem dL_texts_113 : decode cL_texts 113 = .ok (.ifCond .eq 18, 3) := by decide +kernel
theorem dL_texts_116 : decode cL_texts 116 = .ok (.aload_n 0, 1) := by decide +kernel
theorem dL_texts_117 : decode cL_texts 117 = .ok (.ldc2_w 278, 3) := by decide +kernel
theorem dL_texts_120 : decode cL_texts 120 = .ok (.ldc2_w 280, 3) := by decide +kernel
theorem dL_texts_123 : decode cL_texts 123 = .ok (.bipush 9, 2) := by decide +kernel
theorem dL_texts_125 : decode cL_texts 125 = .ok (.invokestatic 258, 3) := by decide +kernel
theorem dL_texts_128 : decode cL_texts 128 = .ok (.ifCond .ne 5, 3) := by decide +kernel
theorem dL_texts_131 : decode cL_texts 131 = .ok (.iconst 0, 1) := by decide +kernel
theorem dL_texts_132 : decode cL_texts 132 = .ok (.ireturn, 1) := by decide +kernel
