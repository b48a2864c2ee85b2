/-! the law's names -/
set_option maxRecDepth 20000 in
theorem gL_seen_X6_singersIn : GoodIn wsL_seen (wsV RL 122 RX6 yX6_singersIn wsX6_singersIn) := goodIn_app (goodIn_of _ (by decide +kernel)) ggL_seen_X6_singersIn
set_option maxRecDepth 20000 in
theorem ggL_seen_X6_favoursOf : GoodIn wsL_seen wsX6_favoursOf := goodIn_ca (goodIn_ca (goodIn_ca (goodIn_r _ [291, 8, 292, 280, 281, 6, 282, 57, 58, 59, 60, 61, 62, 63, 64, 65, 293, 294, 295, 296, 297, 298, 299, 300, 301, 302, 303, 304, 305, 306, 307, 308, 309, 310] rfl (by decide +kernel)) (goodIn_sub (fun _ h => List.mem_cons_of_mem _ (List.mem_append_left _ (List.mem_append_left _ (List.mem_append_right _ h)))) (by decide +kernel))) (goodIn_sub (fun _ h => List.mem_cons_of_mem _ (List.mem_append_left _ (List.mem_append_right _ h))) (by decide +kernel))) (goodIn_sub (fun _ h => List.mem_cons_of_mem _ (List.mem_append_right _ h)) (by decide +kernel))
set_option maxRecDepth 20000 in
theorem gL_seen_X6_favoursOf : GoodIn wsL_seen (wsV RL 95 RX6 yX6_favoursOf wsX6_favoursOf) := goodIn_app (goodIn_of _ (by decide +kernel)) ggL_seen_X6_favoursOf
theorem dL_seen_0 : decode cL_seen 0 = .ok (.ldc2_w 151, 3) := by decide +kernel
theorem dL_seen_3 : decode cL_seen 3 = .ok (.lstore_n 1, 1) := by decide +kernel
theorem dL_seen_4 : decode cL_seen 4 = .ok (.ldc2_w 153, 3) := by decide +kernel
theorem dL_seen_7 : decode cL_seen 7 = .ok (.ldc2_w 153, 3) := by decide +kernel
theorem dL_seen_10 : decode cL_seen 10 = .ok (.ldc2_w 153, 3) := by decide +kernel
theorem dL_seen_13 : decode cL_seen 13 = .ok (.ldc2_w 153, 3) := by decide +kernel
theorem dL_seen_16 : decode cL_seen 16 = .ok (.ldc2_w 153, 3) := by decide +kernel
theorem dL_seen_19 : decode cL_seen 19 = .ok (.lload_n 1, 1) := by decide +kernel
theorem dL_seen_20 : decode cL_seen 20 = .ok (.lmul, 1) := by decide +kernel
theorem dL_seen_21 : decode cL_seen 21 = .ok (.aload_n 0, 1) := by decide +kernel
theorem dL_seen_22 : decode cL_seen 22 = .ok (.invokevirtual 155, 3) := by decide +kernel
theorem dL_seen_25 : decode cL_seen 25 = .ok (.i2l, 1) := by decide +kernel
theorem dL_seen_26 : decode cL_seen 26 = .ok (.ladd, 1) := by decide +kernel
theorem dL_seen_27 : decode cL_seen 27 = .ok (.lmul, 1) := by decide +kernel
theorem dL_seen_28 : decode cL_seen 28 = .ok (.aload_n 0, 1) := by decide +kernel
theorem dL_seen_29 : decode cL_seen 29 = .ok (.invokevirtual 158, 3) := by decide +kernel
theorem dL_seen_32 : decode cL_seen 32 = .ok (.i2l, 1) := by decide +kernel
theorem dL_seen_33 : decode cL_seen 33 = .ok (.ladd, 1) := by decide +kernel
theorem dL_seen_34 : decode cL_seen 34 = .ok (.lmul, 1) := by decide +kernel
theorem dL_seen_35 : decode cL_seen 35 = .ok (.aload_n 0, 1) := by decide +kernel
theorem dL_seen_36 : decode cL_seen 36 = .ok (.invokevirtual 161, 3) := by decide +kernel
theorem dL_seen_39 : decode cL_seen 39 = .ok (.i2l, 1) := by decide +kernel
theorem dL_seen_40 : decode cL_seen 40 = .ok (.ladd, 1) := by decide +kernel
theorem dL_seen_41 : decode cL_seen 41 = .ok (.lmul, 1) := by decide +kernel
theorem dL_seen_42 : decode cL_seen 42 = .ok (.aload_n 0, 1) := by decide +kernel
theorem dL_seen_43 : decode cL_seen 43 = .ok (.invokevirtual 164, 3) := by decide +kernel
theorem dL_seen_46 : decode cL_seen 46 = .ok (.i2l, 1) := by decide +kernel
theorem dL_seen_47 : decode cL_seen 47 = .ok (.ladd, 1) := by decide +kernel
theorem dL_seen_48 : decode cL_seen 48 = .ok (.lmul, 1) := by decide +kernel
theorem dL_seen_49 : decode cL_seen 49 = .ok (.aload_n 0, 1) := by decide +kernel
theorem dL_seen_50 : decode cL_seen 50 = .ok (.invokevirtual 167, 3) := by decide +kernel
theorem dL_seen_53 : decode cL_seen 53 = .ok (.i2l, 1) := by decide +kernel
theorem dL_seen_54 : decode cL_seen 54 = .ok (.ladd, 1) := by decide +kernel
theorem dL_seen_55 : decode cL_seen 55 = .ok (.lstore_n 1, 1) := by decide +kernel
theorem dL_seen_56 : decode cL_seen 56 = .ok (.ldc2_w 153, 3) := by decide +kernel
theorem dL_seen_59 : decode cL_seen 59 = .ok (.ldc2_w 153, 3) := by decide +kernel
theorem dL_seen_62 : decode cL_seen 62 = .ok (.lload_n 1, 1) := by decide +kernel
theorem dL_seen_63 : decode cL_seen 63 = .ok (.lmul, 1) := by decide +kernel
theorem dL_seen_64 : decode cL_seen 64 = .ok (.aload_n 0, 1) := by decide +kernel
theorem dL_seen_65 : decode cL_seen 65 = .ok (.invokevirtual 170, 3) := by decide +kernel
theorem dL_seen_68 : decode cL_seen 68 = .ok (.i2l, 1) := by decide +kernel
theorem dL_seen_69 : decode cL_seen 69 = .ok (.ladd, 1) := by decide +kernel
theorem dL_seen_70 : decode cL_seen 70 = .ok (.lmul, 1) := by decide +kernel
theorem dL_seen_71 : decode cL_seen 71 = .ok (.aload_n 0, 1) := by decide +kernel
theorem dL_seen_72 : decode cL_seen 72 = .ok (.invokevirtual 173, 3) := by decide +kernel
theorem dL_seen_75 : decode cL_seen 75 = .ok (.i2l, 1) := by decide +kernel
theorem dL_seen_76 : decode cL_seen 76 = .ok (.ladd, 1) := by decide +kernel
theorem dL_seen_77 : decode cL_seen 77 = .ok (.lstore_n 1, 1) := by decide +kernel
theorem dL_seen_78 : decode cL_seen 78 = .ok (.iconst 0, 1) := by decide +kernel
theorem dL_seen_79 : decode cL_seen 79 = .ok (.istore_n 3, 1) := by decide +kernel
theorem dL_seen_80 : decode cL_seen 80 = .ok (.iload_n 3, 1) := by decide +kernel
theorem dL_seen_81 : decode cL_seen 81 = .ok (.aload_n 0, 1) := by decide +kernel
theorem dL_seen_82 : decode cL_seen 82 = .ok (.invokevirtual 158, 3) := by decide +kernel
theorem dL_seen_85 : decode cL_seen 85 = .ok (.if_icmp .ge 98, 3) := by decide +kernel
theorem dL_seen_88 : decode cL_seen 88 = .ok (.ldc2_w 153, 3) := by decide +kernel
theorem dL_seen_91 : decode cL_seen 91 = .ok (.ldc2_w 153, 3) := by decide +kernel
theorem dL_seen_94 : decode cL_seen 94 = .ok (.ldc2_w 153, 3) := by decide +kernel
theorem dL_seen_97 : decode cL_seen 97 = .ok (.lload_n 1, 1) := by decide +kernel
theorem dL_seen_98 : decode cL_seen 98 = .ok (.lmul, 1) := by decide +kernel
theorem dL_seen_99 : decode cL_seen 99 = .ok (.aload_n 0, 1) := by decide +kernel
theorem dL_seen_100 : decode cL_seen 100 = .ok (.iload_n 3, 1) := by decide +kernel
theorem dL_seen_101 : decode cL_seen 101 = .ok (.invokevirtual 70, 3) := by decide +kernel
theorem dL_seen_104 : decode cL_seen 104 = .ok (.i2l, 1) := by decide +kernel
theorem dL_seen_105 : decode cL_seen 105 = .ok (.ladd, 1) := by decide +kernel
theorem dL_seen_106 : decode cL_seen 106 = .ok (.lmul, 1) := by decide +kernel
theorem dL_seen_107 : decode cL_seen 107 = .ok (.aload_n 0, 1) := by decide +kernel
theorem dL_seen_108 : decode cL_seen 108 = .ok (.iload_n 3, 1) := by decide +kernel
theorem dL_seen_109 : decode cL_seen 109 = .ok (.invokevirtual 76, 3) := by decide +kernel
theorem dL_seen_112 : decode cL_seen 112 = .ok (.i2l, 1) := by decide +kernel
theorem dL_seen_113 : decode cL_seen 113 = .ok (.ladd, 1) := by decide +kernel
theorem dL_seen_114 : decode cL_seen 114 = .ok (.lmul, 1) := by decide +kernel
theorem dL_seen_115 : decode cL_seen 115 = .ok (.aload_n 0, 1) := by decide +kernel
theorem dL_seen_116 : decode cL_seen 116 = .ok (.iload_n 3, 1) := by decide +kernel
theorem dL_seen_117 : decode cL_seen 117 = .ok (.invokevirtual 63, 3) := by decide +kernel
theorem dL_seen_120 : decode cL_seen 120 = .ok (.ifCond .eq 7, 3) := by decide +kernel
theorem dL_seen_123 : decode cL_seen 123 = .ok (.iconst 1, 1) := by decide +kernel
theorem dL_seen_124 : decode cL_seen 124 = .ok (.goto 4, 3) := by decide +kernel
theorem dL_seen_127 : decode cL_seen 127 = .ok (.iconst 0, 1) := by decide +kernel
theorem dL_seen_128 : decode cL_seen 128 = .ok (.i2l, 1) := by decide +kernel
theorem dL_seen_129 : decode cL_seen 129 = .ok (.ladd, 1) := by decide +kernel
theorem dL_seen_130 : decode cL_seen 130 = .ok (.lstore_n 1, 1) := by decide +kernel
theorem dL_seen_131 : decode cL_seen 131 = .ok (.ldc2_w 153, 3) := by decide +kernel
theorem dL_seen_134 : decode cL_seen 134 = .ok (.ldc2_w 153, 3) := by decide +kernel
theorem dL_seen_137 : decode cL_seen 137 = .ok (.ldc2_w 153, 3) := by decide +kernel
theorem dL_seen_140 : decode cL_seen 140 = .ok (.ldc2_w 153, 3) := by decide +kernel
theorem dL_seen_143 : decode cL_seen 143 = .ok (.lload_n 1, 1) := by decide +kernel
theorem dL_seen_144 : decode cL_seen 144 = .ok (.lmul, 1) := by decide +kernel
theorem dL_seen_145 : decode cL_seen 145 = .ok (.aload_n 0, 1) := by decide +kernel
theorem dL_seen_146 : decode cL_seen 146 = .ok (.iload_n 3, 1) := by decide +kernel
theorem dL_seen_147 : decode cL_seen 147 = .ok (.invokevirtual 79, 3) := by decide +kernel
theorem dL_seen_150 : decode cL_seen 150 = .ok (.i2l, 1) := by decide +kernel
theorem dL_seen_151 : decode cL_seen 151 = .ok (.ladd, 1) := by decide +kernel
theorem dL_seen_152 : decode cL_seen 152 = .ok (.lmul, 1) := by decide +kernel
theorem dL_seen_153 : decode cL_seen 153 = .ok (.aload_n 0, 1) := by decide +kernel
theorem dL_seen_154 : decode cL_seen 154 = .ok (.iload_n 3, 1) := by decide +kernel
theorem dL_seen_155 : decode cL_seen 155 = .ok (.invokevirtual 82, 3) := by decide +kernel
theorem dL_seen_158 : decode cL_seen 158 = .ok (.i2l, 1) := by decide +kernel
theorem dL_seen_159 : decode cL_seen 159 = .ok (.ladd, 1) := by decide +kernel
theorem dL_seen_160 : decode cL_seen 160 = .ok (.lmul, 1) := by decide +kernel
theorem dL_seen_161 : decode cL_seen 161 = .ok (.aload_n 0, 1) := by decide +kernel
theorem dL_seen_162 : decode cL_seen 162 = .ok (.iload_n 3, 1) := by decide +kernel
theorem dL_seen_163 : decode cL_seen 163 = .ok (.invokevirtual 89, 3) := by decide +kernel
theorem dL_seen_166 : decode cL_seen 166 = .ok (.i2l, 1) := by decide +kernel
theorem dL_seen_167 : decode cL_seen 167 = .ok (.ladd, 1) := by decide +kernel
theorem dL_seen_168 : decode cL_seen 168 = .ok (.lmul, 1) := by decide +kernel
theorem dL_seen_169 : decode cL_seen 169 = .ok (.aload_n 0, 1) := by decide +kernel
theorem dL_seen_170 : decode cL_seen 170 = .ok (.iload_n 3, 1) := by decide +kernel
theorem dL_seen_171 : decode cL_seen 171 = .ok (.invokevirtual 92, 3) := by decide +kernel
theorem dL_seen_174 : decode cL_seen 174 = .ok (.i2l, 1) := by decide +kernel
theorem dL_seen_175 : decode cL_seen 175 = .ok (.ladd, 1) := by decide +kernel
theorem dL_seen_176 : decode cL_seen 176 = .ok (.lstore_n 1, 1) := by decide +kernel
theorem dL_seen_177 : decode cL_seen 177 = .ok (.iinc 3 1, 3) := by decide +kernel
theorem dL_seen_180 : decode cL_seen 180 = .ok (.goto (-100), 3) := by decide +kernel
theorem dL_seen_183 : decode cL_seen 183 = .ok (.iconst 0, 1) := by decide +kernel
theorem dL_seen_184 : decode cL_seen 184 = .ok (.istore_n 3, 1) := by decide +kernel
theorem dL_seen_185 : decode cL_seen 185 = .ok (.iload_n 3, 1) := by decide +kernel
theorem dL_seen_186 : decode cL_seen 186 = .ok (.aload_n 0, 1) := by decide +kernel
theorem dL_seen_187 : decode cL_seen 187 = .ok (.invokevirtual 161, 3) := by decide +kernel
theorem dL_seen_190 : decode cL_seen 190 = .ok (.if_icmp .ge 87, 3) := by decide +kernel
theorem dL_seen_193 : decode cL_seen 193 = .ok (.ldc2_w 153, 3) := by decide +kernel
theorem dL_seen_196 : decode cL_seen 196 = .ok (.ldc2_w 153, 3) := by decide +kernel
theorem dL_seen_199 : decode cL_seen 199 = .ok (.ldc2_w 153, 3) := by decide +kernel
theorem dL_seen_202 : decode cL_seen 202 = .ok (.lload_n 1, 1) := by decide +kernel
theorem dL_seen_203 : decode cL_seen 203 = .ok (.lmul, 1) := by decide +kernel
theorem dL_seen_204 : decode cL_seen 204 = .ok (.aload_n 0, 1) := by decide +kernel
theorem dL_seen_205 : decode cL_seen 205 = .ok (.iload_n 3, 1) := by decide +kernel
theorem dL_seen_206 : decode cL_seen 206 = .ok (.invokevirtual 98, 3) := by decide +kernel
theorem dL_seen_209 : decode cL_seen 209 = .ok (.i2l, 1) := by decide +kernel
theorem dL_seen_210 : decode cL_seen 210 = .ok (.ladd, 1) := by decide +kernel
theorem dL_seen_211 : decode cL_seen 211 = .ok (.lmul, 1) := by decide +kernel
theorem dL_seen_212 : decode cL_seen 212 = .ok (.aload_n 0, 1) := by decide +kernel
theorem dL_seen_213 : decode cL_seen 213 = .ok (.iload_n 3, 1) := by decide +kernel
theorem dL_seen_214 : decode cL_seen 214 = .ok (.invokevirtual 104, 3) := by decide +kernel
theorem dL_seen_217 : decode cL_seen 217 = .ok (.i2l, 1) := by decide +kernel
theorem dL_seen_218 : decode cL_seen 218 = .ok (.ladd, 1) := by decide +kernel
theorem dL_seen_219 : decode cL_seen 219 = .ok (.lmul, 1) := by decide +kernel
theorem dL_seen_220 : decode cL_seen 220 = .ok (.aload_n 0, 1) := by decide +kernel
theorem dL_seen_221 : decode cL_seen 221 = .ok (.iload_n 3, 1) := by decide +kernel
theorem dL_seen_222 : decode cL_seen 222 = .ok (.invokevirtual 113, 3) := by decide +kernel
theorem dL_seen_225 : decode cL_seen 225 = .ok (.i2l, 1) := by decide +kernel
theorem dL_seen_226 : decode cL_seen 226 = .ok (.ladd, 1) := by decide +kernel
theorem dL_seen_227 : decode cL_seen 227 = .ok (.lstore_n 1, 1) := by decide +kernel
theorem dL_seen_228 : decode cL_seen 228 = .ok (.iconst 0, 1) := by decide +kernel
theorem dL_seen_229 : decode cL_seen 229 = .ok (.istore 4, 2) := by decide +kernel
theorem dL_seen_231 : decode cL_seen 231 = .ok (.iload 4, 2) := by decide +kernel
theorem dL_seen_233 : decode cL_seen 233 = .ok (.iconst 4, 1) := by decide +kernel
theorem dL_seen_234 : decode cL_seen 234 = .ok (.if_icmp .ge 37, 3) := by decide +kernel
theorem dL_seen_237 : decode cL_seen 237 = .ok (.ldc2_w 153, 3) := by decide +kernel
theorem dL_seen_240 : decode cL_seen 240 = .ok (.ldc2_w 153, 3) := by decide +kernel
theorem dL_seen_243 : decode cL_seen 243 = .ok (.lload_n 1, 1) := by decide +kernel
theorem dL_seen_244 : decode cL_seen 244 = .ok (.lmul, 1) := by decide +kernel
theorem dL_seen_245 : decode cL_seen 245 = .ok (.aload_n 0, 1) := by decide +kernel
theorem dL_seen_246 : decode cL_seen 246 = .ok (.iload_n 3, 1) := by decide +kernel
theorem dL_seen_247 : decode cL_seen 247 = .ok (.iload 4, 2) := by decide +kernel
theorem dL_seen_249 : decode cL_seen 249 = .ok (.invokevirtual 119, 3) := by decide +kernel
theorem dL_seen_252 : decode cL_seen 252 = .ok (.i2l, 1) := by decide +kernel
theorem dL_seen_253 : decode cL_seen 253 = .ok (.ladd, 1) := by decide +kernel
theorem dL_seen_254 : decode cL_seen 254 = .ok (.lmul, 1) := by decide +kernel
theorem dL_seen_255 : decode cL_seen 255 = .ok (.aload_n 0, 1) := by decide +kernel
theorem dL_seen_256 : decode cL_seen 256 = .ok (.iload_n 3, 1) := by decide +kernel
theorem dL_seen_257 : decode cL_seen 257 = .ok (.iload 4, 2) := by decide +kernel
theorem dL_seen_259 : decode cL_seen 259 = .ok (.invokevirtual 122, 3) := by decide +kernel
theorem dL_seen_262 : decode cL_seen 262 = .ok (.i2l, 1) := by decide +kernel
theorem dL_seen_263 : decode cL_seen 263 = .ok (.ladd, 1) := by decide +kernel
theorem dL_seen_264 : decode cL_seen 264 = .ok (.lstore_n 1, 1) := by decide +kernel
theorem dL_seen_265 : decode cL_seen 265 = .ok (.iinc 4 1, 3) := by decide +kernel
theorem dL_seen_268 : decode cL_seen 268 = .ok (.goto (-37), 3) := by decide +kernel
theorem dL_seen_271 : decode cL_seen 271 = .ok (.iinc 3 1, 3) := by decide +kernel
theorem dL_seen_274 : decode cL_seen 274 = .ok (.goto (-89), 3) := by decide +kernel
theorem dL_seen_277 : decode cL_seen 277 = .ok (.iconst 0, 1) := by decide +kernel
theorem dL_seen_278 : decode cL_seen 278 = .ok (.istore_n 3, 1) := by decide +kernel
theorem dL_seen_279 : decode cL_seen 279 = .ok (.iload_n 3, 1) := by decide +kernel
theorem dL_seen_280 : decode cL_seen 280 = .ok (.iconst 5, 1) := by decide +kernel
theorem dL_seen_281 : decode cL_seen 281 = .ok (.if_icmp .ge 22, 3) := by decide +kernel
theorem dL_seen_284 : decode cL_seen 284 = .ok (.ldc2_w 153, 3) := by decide +kernel
theorem dL_seen_287 : decode cL_seen 287 = .ok (.lload_n 1, 1) := by decide +kernel
theorem dL_seen_288 : decode cL_seen 288 = .ok (.lmul, 1) := by decide +kernel
theorem dL_seen_289 : decode cL_seen 289 = .ok (.aload_n 0, 1) := by decide +kernel
theorem dL_seen_290 : decode cL_seen 290 = .ok (.iload_n 3, 1) := by decide +kernel
theorem dL_seen_291 : decode cL_seen 291 = .ok (.invokevirtual 95, 3) := by decide +kernel
theorem dL_seen_294 : decode cL_seen 294 = .ok (.i2l, 1) := by decide +kernel
theorem dL_seen_295 : decode cL_seen 295 = .ok (.ladd, 1) := by decide +kernel
theorem dL_seen_296 : decode cL_seen 296 = .ok (.lstore_n 1, 1) := by decide +kernel
theorem dL_seen_297 : decode cL_seen 297 = .ok (.iinc 3 1, 3) := by decide +kernel
theorem dL_seen_300 : decode cL_seen 300 = .ok (.goto (-21), 3) := by decide +kernel
theorem dL_seen_303 : decode cL_seen 303 = .ok (.lload_n 1, 1) := by decide +kernel
theorem dL_seen_304 : decode cL_seen 304 = .ok (.lreturn, 1) := by decide +kernel
theorem dL_far_0 : decode cL_far 0 = .ok (.iload_n 0, 1) := by decide +kernel
theorem dL_far_1 : decode cL_far 1 = .ok (.ifCond .ne 9, 3) := by decide +kernel
theorem dL_far_4 : decode cL_far 4 = .ok (.iload_n 1, 1) := by decide +kernel
theorem dL_far_5 : decode cL_far 5 = .ok (.iconst 1, 1) := by decide +kernel
theorem dL_far_6 : decode cL_far 6 = .ok (.isub, 1) := by decide +kernel
theorem dL_far_7 : decode cL_far 7 = .ok (.goto 26, 3) := by decide +kernel
theorem dL_far_10 : decode cL_far 10 = .ok (.iload_n 0, 1) := by decide +kernel
theorem dL_far_11 : decode cL_far 11 = .ok (.iconst 1, 1) := by decide +kernel
theorem dL_far_12 : decode cL_far 12 = .ok (.if_icmp .ne 9, 3) := by decide +kernel
theorem dL_far_15 : decode cL_far 15 = .ok (.iload_n 2, 1) := by decide +kernel
theorem dL_far_16 : decode cL_far 16 = .ok (.iconst 1, 1) := by decide +kernel
theorem dL_far_17 : decode cL_far 17 = .ok (.iadd, 1) := by decide +kernel
theorem dL_far_18 : decode cL_far 18 = .ok (.goto 15, 3) := by decide +kernel
theorem dL_far_21 : decode cL_far 21 = .ok (.iload_n 0, 1) := by decide +kernel
theorem dL_far_22 : decode cL_far 22 = .ok (.iconst 2, 1) := by decide +kernel
theorem dL_far_23 : decode cL_far 23 = .ok (.if_icmp .ne 8, 3) := by decide +kernel
theorem dL_far_26 : decode cL_far 26 = .ok (.ldc 176, 2) := by decide +kernel
theorem dL_far_28 : decode cL_far 28 = .ok (.goto 5, 3) := by decide +kernel
theorem dL_far_31 : decode cL_far 31 = .ok (.ldc 7, 2) := by decide +kernel
theorem dL_far_33 : decode cL_far 33 = .ok (.ireturn, 1) := by decide +kernel
set_option maxRecDepth 20000 in
theorem ggL_registered_X6_register : GoodIn wsL_registered wsX6_register := goodIn_ca (goodIn_ca (goodIn_ca (goodIn_r _ [7, 8, 9, 10, 11, 12, 13, 14, 15, 6, 16, 17, 18, 19, 20, 21, 22, 23, 24, 25, 26, 27, 28, 29, 30, 31, 32, 33, 34, 35, 36, 37, 38, 39, 40, 41, 42, 43, 44, 45, 46, 47, 48, 49, 50, 51, 52, 53, 54, 55, 56, 57, 58, 59, 60, 61, 62, 63, 64, 65, 66, 67, 68, 69, 70, 71, 72, 73, 74, 75, 76, 77, 78, 79, 80, 81, 82, 83, 84, 85, 86, 87, 88, 89, 90, 91, 92, 93, 94, 95, 96, 97, 98, 99, 100, 101, 102, 103, 104, 105, 106, 107, 108, 109, 110, 111, 112, 113, 114, 115, 116, 117, 118, 119, 120, 121, 122, 123, 124, 125, 126, 127, 128, 129, 130, 131, 132, 133, 134, 135, 136, 137, 138, 139, 140, 141, 142, 143, 144, 145, 146, 147, 148, 149, 150, 151, 152, 153, 154, 155, 156] rfl (by decide +kernel)) (goodIn_sub (fun _ h => List.mem_cons_of_mem _ (List.mem_append_left _ (List.mem_append_left _ (List.mem_append_right _ h)))) (by decide +kernel))) (goodIn_sub (fun _ h => List.mem_cons_of_mem _ (List.mem_append_left _ (List.mem_append_right _ h))) (by decide +kernel))) (goodIn_sub (fun _ h => List.mem_cons_of_mem _ (List.mem_append_right _ h)) (by decide +kernel))
set_option maxRecDepth 20000 in
theorem gL_registered_X6_register : GoodIn wsL_registered (wsV RL 32 RX6 yX6_register wsX6_register) := goodIn_app (goodIn_of _ (by decide +kernel)) ggL_registered_X6_register
theorem dL_registered_0 : decode cL_registered 0 = .ok (.aload_n 0, 1) := by decide +kernel
theorem dL_registered_1 : decode cL_registered 1 = .ok (.iload_n 1, 1) := by decide +kernel
theorem dL_registered_2 : decode cL_registered 2 = .ok (.iload_n 2, 1) := by decide +kernel
theorem dL_registered_3 : decode cL_registered 3 = .ok (.iload_n 3, 1) := by decide +kernel
theorem dL_registered_4 : decode cL_registered 4 = .ok (.iload 4, 2) := by decide +kernel
theorem dL_registered_6 : decode cL_registered 6 = .ok (.iload 5, 2) := by decide +kernel
theorem dL_registered_8 : decode cL_registered 8 = .ok (.invokevirtual 32, 3) := by decide +kernel
theorem dL_registered_11 : decode cL_registered 11 = .ok (.ireturn, 1) := by decide +kernel
theorem dL_registered_12 : decode cL_registered 12 = .ok (.astore 6, 2) := by decide +kernel
theorem dL_registered_14 : decode cL_registered 14 = .ok (.sipush (-2012), 3) := by decide +kernel
theorem dL_registered_17 : decode cL_registered 17 = .ok (.ireturn, 1) := by decide +kernel
theorem dL_registered_18 : decode cL_registered 18 = .ok (.astore 6, 2) := by decide +kernel
theorem dL_registered_20 : decode cL_registered 20 = .ok (.sipush (-2013), 3) := by decide +kernel
theorem dL_registered_23 : decode cL_registered 23 = .ok (.ireturn, 1) := by decide +kernel
set_option maxRecDepth 20000 in
theorem ggL_borrowed_X6_borrow : GoodIn wsL_borrowed wsX6_borrow := goodIn_ca (goodIn_ca (goodIn_ca (goodIn_r _ [8, 9, 10, 11, 12, 13, 14, 15, 16, 17, 7, 18, 19, 20, 21, 22, 23, 24, 25, 26, 27, 28, 29, 30, 31, 32, 33, 34, 35, 36, 37, 38, 39, 40, 41, 42, 43, 44, 45, 46, 47, 48, 49, 50, 51, 52, 53, 54, 55, 56, 57, 58, 59, 60, 61, 62, 63, 64, 65, 66, 67, 68, 69, 70, 71, 72, 73, 74, 75, 76, 77, 78, 79, 80, 81, 82, 83, 84, 85, 86, 87, 88, 89, 90, 91, 92, 93, 94, 95, 96, 97, 98, 99, 100, 101, 102, 103, 104, 105, 106, 107, 108, 109, 110, 111, 112, 113, 114, 115, 116, 117, 118, 119, 120, 121, 122, 123, 124, 125, 126, 127, 128, 129, 130, 131, 132, 133, 134, 135, 136, 137, 138, 139, 140, 141, 142, 143, 144, 145, 146, 147, 148, 149, 150, 151, 152, 153, 154, 155, 156, 157, 158, 159] rfl (by decide +kernel)) (goodIn_sub (fun _ h => List.mem_cons_of_mem _ (List.mem_append_left _ (List.mem_append_left _ (List.mem_append_right _ h)))) (by decide +kernel))) (goodIn_sub (fun _ h => List.mem_cons_of_mem _ (List.mem_append_left _ (List.mem_append_right _ h))) (by decide +kernel))) (goodIn_sub (fun _ h => List.mem_cons_of_mem _ (List.mem_append_right _ h)) (by decide +kernel))
set_option maxRecDepth 20000 in
theorem gL_borrowed_X6_borrow : GoodIn wsL_borrowed (wsV RL 42 RX6 yX6_borrow wsX6_borrow) := goodIn_app (goodIn_of _ (by decide +kernel)) ggL_borrowed_X6_borrow
theorem dL_borrowed_0 : decode cL_borrowed 0 = .ok (.aload_n 0, 1) := by decide +kernel
theorem dL_borrowed_1 : decode cL_borrowed 1 = .ok (.iload_n 1, 1) := by decide +kernel
theorem dL_borrowed_2 : decode cL_borrowed 2 = .ok (.iload_n 2, 1) := by decide +kernel
theorem dL_borrowed_3 : decode cL_borrowed 3 = .ok (.iload_n 3, 1) := by decide +kernel
theorem dL_borrowed_4 : decode cL_borrowed 4 = .ok (.bipush 20, 2) := by decide +kernel
theorem dL_borrowed_6 : decode cL_borrowed 6 = .ok (.iload 4, 2) := by decide +kernel
theorem dL_borrowed_8 : decode cL_borrowed 8 = .ok (.iload 5, 2) := by decide +kernel
theorem dL_borrowed_10 : decode cL_borrowed 10 = .ok (.invokevirtual 42, 3) := by decide +kernel
theorem dL_borrowed_13 : decode cL_borrowed 13 = .ok (.ireturn, 1) := by decide +kernel
theorem dL_borrowed_14 : decode cL_borrowed 14 = .ok (.astore 6, 2) := by decide +kernel
theorem dL_borrowed_16 : decode cL_borrowed 16 = .ok (.sipush (-2011), 3) := by decide +kernel
theorem dL_borrowed_19 : decode cL_borrowed 19 = .ok (.ireturn, 1) := by decide +kernel
theorem dL_borrowed_20 : decode cL_borrowed 20 = .ok (.astore 6, 2) := by decide +kernel
theorem dL_borrowed_22 : decode cL_borrowed 22 = .ok (.sipush (-2012), 3) := by decide +kernel
theorem dL_borrowed_25 : decode cL_borrowed 25 = .ok (.ireturn, 1) := by decide +kernel
theorem dL_borrowed_26 : decode cL_borrowed 26 = .ok (.astore 6, 2) := by decide +kernel
theorem dL_borrowed_28 : decode cL_borrowed 28 = .ok (.sipush (-2013), 3) := by decide +kernel
theorem dL_borrowed_31 : decode cL_borrowed 31 = .ok (.ireturn, 1) := by decide +kernel
set_option maxRecDepth 20000 in
theorem ggL_line_X6_setLine : GoodIn wsL_line wsX6_setLine := goodIn_ca (goodIn_ca (goodIn_ca (goodIn_r _ [8, 9, 10, 11, 12, 13, 14, 15, 16, 17, 18, 19, 20, 21, 22, 7, 23, 24, 25, 26, 27, 28, 29, 30, 31, 32, 33, 34, 35, 36, 37, 38, 39, 40, 41, 42, 43, 44, 45, 46, 47, 48, 49, 50, 51, 52, 53, 54, 55, 56, 57, 58, 59, 60, 61, 62, 63, 64, 65, 66, 67, 68, 69, 70, 71, 72, 73, 74, 75, 76, 77, 78, 79, 80, 81, 82, 83, 84, 85, 86, 87, 88, 89, 90, 91, 92, 93, 94, 95, 96, 97, 98, 99, 100, 101, 102, 103, 104, 105, 106, 107, 108, 109, 110, 111, 112, 113, 114, 115, 116, 117, 118, 119, 120, 121, 122, 123, 124, 125, 126, 127, 128, 129, 130, 131, 132, 133, 134, 135, 136, 137, 138, 139, 140, 141, 142, 143, 144, 145, 146, 147, 148, 149, 150, 151, 152, 153, 154, 155, 156, 157, 158, 159, 160, 161, 162] rfl (by decide +kernel)) (goodIn_sub (fun _ h => List.mem_cons_of_mem _ (List.mem_append_left _ (List.mem_append_left _ (List.mem_append_right _ h)))) (by decide +kernel))) (goodIn_sub (fun _ h => List.mem_cons_of_mem _ (List.mem_append_left _ (List.mem_append_right _ h))) (by decide +kernel))) (goodIn_sub (fun _ h => List.mem_cons_of_mem _ (List.mem_append_right _ h)) (by decide +kernel))
set_option maxRecDepth 20000 in
theorem gL_line_X6_setLine : GoodIn wsL_line (wsV RL 57 RX6 yX6_setLine wsX6_setLine) := goodIn_app (goodIn_of _ (by decide +kernel)) ggL_line_X6_setLine
theorem dL_line_0 : decode cL_line 0 = .ok (.aload_n 0, 1) := by decide +kernel
theorem dL_line_1 : decode cL_line 1 = .ok (.iconst 0, 1) := by decide +kernel
theorem dL_line_2 : decode cL_line 2 = .ok (.iconst 3, 1) := by decide +kernel
theorem dL_line_3 : decode cL_line 3 = .ok (.iload_n 1, 1) := by decide +kernel
theorem dL_line_4 : decode cL_line 4 = .ok (.iload_n 2, 1) := by decide +kernel
theorem dL_line_5 : decode cL_line 5 = .ok (.iload_n 3, 1) := by decide +kernel
theorem dL_line_6 : decode cL_line 6 = .ok (.invokevirtual 57, 3) := by decide +kernel
theorem dL_line_9 : decode cL_line 9 = .ok (.ireturn, 1) := by decide +kernel
theorem dL_line_10 : decode cL_line 10 = .ok (.astore 4, 2) := by decide +kernel
theorem dL_line_12 : decode cL_line 12 = .ok (.sipush (-2011), 3) := by decide +kernel
theorem dL_line_15 : decode cL_line 15 = .ok (.ireturn, 1) := by decide +kernel
theorem dL_line_16 : decode cL_line 16 = .ok (.astore 4, 2) := by decide +kernel
theorem dL_line_18 : decode cL_line 18 = .ok (.sipush (-2012), 3) := by decide +kernel
theorem dL_line_21 : decode cL_line 21 = .ok (.ireturn, 1) := by decide +kernel
theorem dL_line_22 : decode cL_line 22 = .ok (.astore 4, 2) := by decide +kernel
theorem dL_line_24 : decode cL_line 24 = .ok (.sipush (-2013), 3) := by decide +kernel
theorem dL_line_27 : decode cL_line 27 = .ok (.ireturn, 1) := by decide +kernel
set_option maxRecDepth 20000 in
theorem ggL_refusesOne_X6_singers : GoodIn wsL_refusesOne wsX6_singers := goodIn_r _ [5, 6, 7, 8, 777, 778, 779, 780, 781, 782, 783, 784, 785, 786, 787, 788, 789, 790, 791, 792, 793, 794, 795, 796, 797, 798, 799, 800, 801, 802, 803, 804, 805, 806] rfl (by decide +kernel)
set_option maxRecDepth 20000 in
theorem gL_refusesOne_X6_singers : GoodIn wsL_refusesOne (wsV RL 158 RX6 yX6_singers wsX6_singers) := goodIn_app (goodIn_of _ (by decide +kernel)) ggL_refusesOne_X6_singers
set_option maxRecDepth 20000 in
theorem ggL_refusesOne_L_far : GoodIn wsL_refusesOne wsL_far := goodIn_r _ [12, 13, 14] rfl (by decide +kernel)
set_option maxRecDepth 20000 in
theorem gL_refusesOne_L_far : GoodIn wsL_refusesOne (va_wsS RL 177 yL_far wsL_far) := goodIn_app (goodIn_of _ (by decide +kernel)) ggL_refusesOne_L_far
set_option maxRecDepth 20000 in
theorem ggL_refusesOne_X6_feasts : GoodIn wsL_refusesOne wsX6_feasts := goodIn_r _ [18, 6, 19, 20, 777, 778, 779, 780, 781, 782, 783, 784, 785, 786, 787, 788, 789, 790, 791, 792, 793, 794, 807, 808, 809, 810, 811, 812, 813, 814] rfl (by decide +kernel)
set_option maxRecDepth 20000 in
theorem gL_refusesOne_X6_feasts : GoodIn wsL_refusesOne (wsV RL 161 RX6 yX6_feasts wsX6_feasts) := goodIn_app (goodIn_of _ (by decide +kernel)) ggL_refusesOne_X6_feasts
set_option maxRecDepth 20000 in
theorem ggL_refusesOne_L_registered : GoodIn wsL_refusesOne wsL_registered := goodIn_ca (goodIn_ca (goodIn_ca (goodIn_r _ [23, 24, 25, 26, 27, 28, 4, 29, 6, 30, 31, 32, 33, 34, 35, 36, 37, 38, 39, 40, 41, 42, 43, 44, 45, 46, 47, 48, 49, 50, 51, 52, 53, 54, 55, 56, 57, 58, 59, 60, 61, 62, 63, 64, 65, 66, 67, 68, 69, 70, 71, 72, 73, 74, 75, 76, 77, 78, 79, 80, 81, 82, 83, 84, 85, 86, 87, 88, 89, 90, 91, 92, 93, 94, 95, 96, 97, 98, 99, 100, 101, 102, 103, 104, 105, 106, 107, 108, 109, 110, 111, 112, 113, 114, 115, 116, 117, 118, 119, 120, 121, 122, 123, 124, 125, 126, 127, 128, 129, 130, 131, 132, 133, 134, 135, 777, 778, 779, 780, 781, 782, 783, 784, 785, 786, 787, 788, 789, 790, 791, 792, 793, 794, 795, 796, 797, 798, 799, 800, 801, 802, 803, 804, 805, 806, 815, 816, 817, 818, 807, 808, 809, 810, 811, 812, 813, 814] rfl (by decide +kernel)) (goodIn_sub (fun _ h => List.mem_cons_of_mem _ (List.mem_append_left _ (List.mem_append_left _ (List.mem_append_right _ h)))) (by decide +kernel))) (goodIn_sub (fun _ h => List.mem_cons_of_mem _ (List.mem_append_left _ (List.mem_append_right _ h))) (by decide +kernel))) (goodIn_sub (fun _ h => List.mem_cons_of_mem _ (List.mem_append_right _ h)) (by decide +kernel))
set_option maxRecDepth 20000 in
theorem gL_refusesOne_L_registered : GoodIn wsL_refusesOne (va_wsS RL 180 yL_registered wsL_registered) := goodIn_app (goodIn_of _ (by decide +kernel)) ggL_refusesOne_L_registered
set_option maxRecDepth 20000 in
theorem ggL_refusesOne_L_borrowed : GoodIn wsL_refusesOne wsL_borrowed := goodIn_ca (goodIn_ca (goodIn_ca (goodIn_r _ [138, 139, 24, 25, 140, 141, 142, 4, 143, 6, 144, 145, 146, 33, 147, 35, 76, 36, 37, 38, 39, 40, 41, 42, 43, 44, 45, 46, 47, 48, 49, 50, 51, 52, 53, 54, 55, 56, 57, 58, 59, 60, 61, 62, 63, 64, 65, 66, 67, 68, 69, 70, 71, 72, 73, 74, 75, 77, 78, 79, 80, 81, 82, 83, 84, 85, 86, 87, 88, 89, 90, 91, 92, 93, 94, 95, 96, 97, 98, 99, 100, 101, 102, 103, 104, 105, 106, 107, 108, 109, 110, 111, 112, 113, 114, 115, 116, 117, 118, 119, 120, 121, 122, 123, 124, 125, 148, 149, 150, 151, 152, 153, 154, 131, 132, 133, 134, 135, 777, 778, 779, 780, 781, 782, 783, 784, 785, 786, 787, 788, 789, 790, 791, 792, 793, 794, 795, 796, 797, 798, 799, 800, 801, 802, 803, 804, 805, 806, 815, 816, 817, 818, 807, 808, 809, 810, 811, 812, 813, 814] rfl (by decide +kernel)) (goodIn_sub (fun _ h => List.mem_cons_of_mem _ (List.mem_append_left _ (List.mem_append_left _ (List.mem_append_right _ h)))) (by decide +kernel))) (goodIn_sub (fun _ h => List.mem_cons_of_mem _ (List.mem_append_left _ (List.mem_append_right _ h))) (by decide +kernel))) (goodIn_sub (fun _ h => List.mem_cons_of_mem _ (List.mem_append_right _ h)) (by decide +kernel))
set_option maxRecDepth 20000 in
theorem gL_refusesOne_L_borrowed : GoodIn wsL_refusesOne (va_wsS RL 184 yL_borrowed wsL_borrowed) := goodIn_app (goodIn_of _ (by decide +kernel)) ggL_refusesOne_L_borrowed
set_option maxRecDepth 20000 in
theorem ggL_refusesOne_L_call : GoodIn wsL_refusesOne wsL_call := goodIn_ca (goodIn_ca (goodIn_ca (goodIn_r _ [157, 139, 24, 25, 158, 159, 11, 160, 26, 27, 28, 4, 29, 6, 30, 31, 32, 33, 34, 35, 36, 37, 38, 39, 40, 41, 42, 43, 44, 45, 46, 47, 48, 49, 50, 51, 52, 53, 54, 55, 56, 57, 58, 59, 60, 61, 62, 63, 64, 65, 66, 67, 68, 69, 70, 71, 72, 73, 74, 75, 76, 77, 78, 79, 80, 81, 82, 83, 84, 85, 86, 87, 88, 89, 90, 91, 92, 93, 94, 95, 96, 97, 98, 99, 100, 101, 102, 103, 104, 105, 106, 107, 108, 109, 110, 111, 112, 113, 114, 115, 116, 117, 118, 119, 120, 121, 122, 123, 124, 125, 126, 127, 128, 129, 130, 131, 132, 133, 134, 135, 161, 162, 163, 164, 165, 166, 167, 168, 169, 170, 171, 172, 173, 174, 175, 176, 177, 178, 179, 180, 154, 181, 182, 183, 184, 185, 140, 141, 142, 143, 144, 145, 146, 147, 148, 149, 150, 151, 152, 153, 186, 187, 188, 189, 190, 191, 192, 193, 194, 195, 196, 197, 198, 199, 200, 201, 202, 203, 204, 205, 206, 207, 208, 209, 210, 211, 212, 213, 214, 215, 216, 217, 218, 219, 220, 221, 222, 223, 224, 225, 226, 227, 228, 229, 230, 231, 232, 233, 234, 235, 236, 237, 238, 239, 240, 241, 242, 243, 244, 245, 246, 247, 248, 249, 250, 251, 252, 253, 254, 255, 256, 257, 258, 259, 260, 261, 262, 263, 264, 265, 266, 267, 268, 269, 270, 271, 272, 273, 274, 275, 276, 277, 278, 279, 280, 281, 282, 283, 284, 285, 286, 287, 288, 289, 290, 291, 292, 293, 294, 295, 296, 297, 298, 299, 300, 301, 302, 303, 304, 305, 306, 307, 308, 309, 310, 311, 312, 313, 314, 315, 316, 317, 318, 319, 320, 321, 322, 323, 324, 325, 326, 327, 328, 329, 330, 331, 332, 333, 334, 335, 336, 337, 338, 339, 340, 341, 342, 343, 344, 345, 346, 347, 348, 349, 350, 351, 352, 353, 354, 355, 356, 357, 358, 359, 360, 361, 362, 363, 364, 365, 366, 367, 368, 369, 370, 371, 372, 373, 374, 375, 376, 377, 378, 379, 380, 381, 382, 383, 384, 385, 386, 387, 388, 389, 390, 391, 392, 393, 394, 395, 396, 397, 398, 399, 400, 401, 402, 403, 404, 405, 406, 407, 7, 408, 409, 410, 411, 412, 413, 414, 415, 416, 417, 418, 419, 420, 421, 422, 423, 424, 425, 426, 427, 428, 429, 430, 431, 432, 433, 434, 435, 436, 437, 438, 439, 440, 441, 442, 443, 444, 445, 446, 447, 448, 449, 450, 451, 452, 453, 454, 455, 456, 457, 458, 459, 460, 461, 462, 463, 464, 465, 466, 467, 468, 469, 470, 471, 472, 473, 474, 19, 475, 476, 477, 478, 479, 480, 481, 482, 483, 484, 485, 486, 487, 488, 489, 490, 491, 492, 493, 494, 495, 496, 497, 498, 499, 500, 501, 502, 503, 504, 505, 506, 507, 508, 509, 510, 511, 512, 513, 514, 515, 516, 517, 518, 519, 520, 521, 522, 523, 524, 525, 526, 527, 528, 529, 530, 531, 532, 533, 534, 535, 536, 537, 538, 539, 540, 541, 542, 543, 544, 545, 546, 547, 548, 549, 550, 551, 552, 553, 554, 555, 556, 557, 558, 559, 560, 561, 562, 563, 564, 565, 566, 567, 568, 569, 570, 571, 572, 573, 574, 575, 576, 577, 578, 579, 580, 581, 582, 583, 584, 585, 586, 587, 588, 589, 590, 591, 592, 593, 594, 595, 596, 597, 598, 599, 600, 601, 602, 603, 604, 605, 606, 607, 608, 609, 610, 611, 612, 613, 614, 615, 616, 617, 618, 619, 620, 621, 622, 623, 624, 625, 626, 627, 628, 629, 630, 631, 632, 633, 634, 635, 636, 637, 638, 639, 640, 641, 642, 643, 644, 645, 646, 647, 648, 649, 650, 651, 652, 653, 654, 655, 656, 657, 658, 659, 660, 661, 662, 663, 664, 665, 666, 667, 668, 669, 670, 671, 672, 673, 674, 675, 676, 677, 678, 679, 680, 681, 682, 683, 684, 685, 686, 687, 688, 689, 690, 691, 692, 693, 694, 695, 696, 697, 698, 699, 700, 701, 702, 703, 704, 705, 706, 707, 708, 709, 710, 711, 712, 713, 714, 715, 716, 717, 718, 719, 720, 721, 722, 723, 724, 725, 726, 727, 728, 729, 730, 731, 732, 733, 734, 735, 736, 737, 738, 739, 740, 741, 742, 743, 744, 745, 746, 747, 748, 749, 750, 751, 752, 753, 754, 755, 756, 757, 758, 759, 760, 761, 762, 763, 764, 765, 766, 767, 768, 769, 777, 778, 779, 780, 781, 782, 783, 784, 785, 786, 787, 788, 789, 790, 791, 792, 793, 794, 795, 796, 797, 798, 799, 800, 801, 802, 803, 804, 805, 806, 815, 816, 817, 818, 807, 808, 809, 810, 811, 812, 813, 814, 819, 820, 821, 822, 823, 824, 825, 826, 827, 828, 829] rfl (by decide +kernel)) (goodIn_sub (fun _ h => List.mem_cons_of_mem _ (List.mem_append_left _ (List.mem_append_left _ (List.mem_append_right _ h)))) (by decide +kernel))) (goodIn_sub (fun _ h => List.mem_cons_of_mem _ (List.mem_append_left _ (List.mem_append_right _ h))) (by decide +kernel))) (goodIn_sub (fun _ h => List.mem_cons_of_mem _ (List.mem_append_right _ h)) (by decide +kernel))
set_option maxRecDepth 20000 in
theorem gL_refusesOne_L_call : GoodIn wsL_refusesOne (va_wsS RL 187 yL_call wsL_call) := goodIn_app (goodIn_of _ (by decide +kernel)) ggL_refusesOne_L_call
set_option maxRecDepth 20000 in
theorem ggL_refusesOne_X6_day : GoodIn wsL_refusesOne wsX6_day := goodIn_r _ [773, 6, 408, 777, 778, 779, 780, 781, 782, 783, 784, 785, 786, 787, 788, 789, 790, 791, 792, 793, 794] rfl (by decide +kernel)
set_option maxRecDepth 20000 in
theorem gL_refusesOne_X6_day : GoodIn wsL_refusesOne (wsV RL 155 RX6 yX6_day wsX6_day) := goodIn_app (goodIn_of _ (by decide +kernel)) ggL_refusesOne_X6_day
set_option maxRecDepth 20000 in
theorem ggL_refusesOne_L_line : GoodIn wsL_refusesOne wsL_line := goodIn_ca (goodIn_ca (goodIn_ca (goodIn_r _ [776, 139, 24, 25, 255, 256, 257, 4, 258, 6, 259, 260, 261, 33, 262, 75, 263, 264, 265, 115, 266, 117, 267, 268, 40, 36, 37, 42, 43, 269, 270, 271, 272, 273, 73, 50, 51, 52, 53, 54, 55, 56, 57, 58, 59, 60, 61, 62, 63, 64, 65, 66, 67, 68, 69, 70, 71, 72, 35, 74, 76, 77, 78, 79, 80, 81, 82, 83, 84, 85, 86, 87, 88, 47, 89, 49, 90, 91, 92, 93, 94, 95, 96, 97, 98, 99, 100, 101, 102, 103, 104, 105, 106, 107, 108, 109, 110, 111, 112, 113, 114, 116, 118, 119, 120, 121, 122, 123, 124, 125, 274, 275, 276, 277, 278, 279, 280, 281, 282, 283, 284, 777, 778, 779, 780, 781, 782, 783, 784, 785, 786, 787, 788, 789, 790, 791, 792, 793, 794, 807, 808, 809, 810, 811, 812, 813, 814, 795, 796, 797, 798, 799, 800, 801, 802, 803, 804, 805, 806, 815, 816, 817, 818] rfl (by decide +kernel)) (goodIn_sub (fun _ h => List.mem_cons_of_mem _ (List.mem_append_left _ (List.mem_append_left _ (List.mem_append_right _ h)))) (by decide +kernel))) (goodIn_sub (fun _ h => List.mem_cons_of_mem _ (List.mem_append_left _ (List.mem_append_right _ h))) (by decide +kernel))) (goodIn_sub (fun _ h => List.mem_cons_of_mem _ (List.mem_append_right _ h)) (by decide +kernel))
set_option maxRecDepth 20000 in
theorem gL_refusesOne_L_line : GoodIn wsL_refusesOne (va_wsS RL 190 yL_line wsL_line) := goodIn_app (goodIn_of _ (by decide +kernel)) ggL_refusesOne_L_line
theorem dL_refusesOne_0 : decode cL_refusesOne 0 = .ok (.iload_n 1, 1) := by decide +kernel
theorem dL_refusesOne_1 : decode cL_refusesOne 1 = .ok (.iconst 0, 1) := by decide +kernel
theorem dL_refusesOne_2 : decode cL_refusesOne 2 = .ok (.aload_n 0, 1) := by decide +kernel
theorem dL_refusesOne_3 : decode cL_refusesOne 3 = .ok (.invokevirtual 158, 3) := by decide +kernel
theorem dL_refusesOne_6 : decode cL_refusesOne 6 = .ok (.iconst 1, 1) := by decide +kernel
theorem dL_refusesOne_7 : decode cL_refusesOne 7 = .ok (.isub, 1) := by decide +kernel
theorem dL_refusesOne_8 : decode cL_refusesOne 8 = .ok (.invokestatic 177, 3) := by decide +kernel
theorem dL_refusesOne_11 : decode cL_refusesOne 11 = .ok (.istore_n 2, 1) := by decide +kernel
theorem dL_refusesOne_12 : decode cL_refusesOne 12 = .ok (.iload_n 1, 1) := by decide +kernel
theorem dL_refusesOne_13 : decode cL_refusesOne 13 = .ok (.iconst 0, 1) := by decide +kernel
theorem dL_refusesOne_14 : decode cL_refusesOne 14 = .ok (.aload_n 0, 1) := by decide +kernel
theorem dL_refusesOne_15 : decode cL_refusesOne 15 = .ok (.invokevirtual 161, 3) := by decide +kernel
theorem dL_refusesOne_18 : decode cL_refusesOne 18 = .ok (.iconst 1, 1) := by decide +kernel
theorem dL_refusesOne_19 : decode cL_refusesOne 19 = .ok (.isub, 1) := by decide +kernel
theorem dL_refusesOne_20 : decode cL_refusesOne 20 = .ok (.invokestatic 177, 3) := by decide +kernel
theorem dL_refusesOne_23 : decode cL_refusesOne 23 = .ok (.istore_n 3, 1) := by decide +kernel
theorem dL_refusesOne_24 : decode cL_refusesOne 24 = .ok (.iload_n 1, 1) := by decide +kernel
theorem dL_refusesOne_25 : decode cL_refusesOne 25 = .ok (.iconst 0, 1) := by decide +kernel
theorem dL_refusesOne_26 : decode cL_refusesOne 26 = .ok (.iconst 4, 1) := by decide +kernel
theorem dL_refusesOne_27 : decode cL_refusesOne 27 = .ok (.invokestatic 177, 3) := by decide +kernel
theorem dL_refusesOne_30 : decode cL_refusesOne 30 = .ok (.istore 4, 2) := by decide +kernel
theorem dL_refusesOne_32 : decode cL_refusesOne 32 = .ok (.aload_n 0, 1) := by decide +kernel
theorem dL_refusesOne_33 : decode cL_refusesOne 33 = .ok (.iload_n 1, 1) := by decide +kernel
theorem dL_refusesOne_34 : decode cL_refusesOne 34 = .ok (.bipush 7, 2) := by decide +kernel
theorem dL_refusesOne_36 : decode cL_refusesOne 36 = .ok (.bipush 70, 2) := by decide +kernel
theorem dL_refusesOne_38 : decode cL_refusesOne 38 = .ok (.invokestatic 177, 3) := by decide +kernel
theorem dL_refusesOne_41 : decode cL_refusesOne 41 = .ok (.sipush 150, 3) := by decide +kernel
theorem dL_refusesOne_44 : decode cL_refusesOne 44 = .ok (.iconst 0, 1) := by decide +kernel
theorem dL_refusesOne_45 : decode cL_refusesOne 45 = .ok (.bipush 48, 2) := by decide +kernel
theorem dL_refusesOne_47 : decode cL_refusesOne 47 = .ok (.iconst 0, 1) := by decide +kernel
theorem dL_refusesOne_48 : decode cL_refusesOne 48 = .ok (.invokestatic 180, 3) := by decide +kernel
theorem dL_refusesOne_51 : decode cL_refusesOne 51 = .ok (.sipush (-2012), 3) := by decide +kernel
theorem dL_refusesOne_54 : decode cL_refusesOne 54 = .ok (.if_icmp .ne 226, 3) := by decide +kernel
theorem dL_refusesOne_57 : decode cL_refusesOne 57 = .ok (.aload_n 0, 1) := by decide +kernel
theorem dL_refusesOne_58 : decode cL_refusesOne 58 = .ok (.bipush 70, 2) := by decide +kernel
theorem dL_refusesOne_60 : decode cL_refusesOne 60 = .ok (.iload_n 1, 1) := by decide +kernel
theorem dL_refusesOne_61 : decode cL_refusesOne 61 = .ok (.bipush 90, 2) := by decide +kernel
theorem dL_refusesOne_63 : decode cL_refusesOne 63 = .ok (.sipush 210, 3) := by decide +kernel
theorem dL_refusesOne_66 : decode cL_refusesOne 66 = .ok (.invokestatic 177, 3) := by decide +kernel
theorem dL_refusesOne_69 : decode cL_refusesOne 69 = .ok (.iconst 0, 1) := by decide +kernel
theorem dL_refusesOne_70 : decode cL_refusesOne 70 = .ok (.bipush 48, 2) := by decide +kernel
theorem dL_refusesOne_72 : decode cL_refusesOne 72 = .ok (.iconst 0, 1) := by decide +kernel
theorem dL_refusesOne_73 : decode cL_refusesOne 73 = .ok (.invokestatic 180, 3) := by decide +kernel
theorem dL_refusesOne_76 : decode cL_refusesOne 76 = .ok (.sipush (-2012), 3) := by decide +kernel
theorem dL_refusesOne_79 : decode cL_refusesOne 79 = .ok (.if_icmp .ne 201, 3) := by decide +kernel
theorem dL_refusesOne_82 : decode cL_refusesOne 82 = .ok (.aload_n 0, 1) := by decide +kernel
theorem dL_refusesOne_83 : decode cL_refusesOne 83 = .ok (.bipush 7, 2) := by decide +kernel
theorem dL_refusesOne_85 : decode cL_refusesOne 85 = .ok (.bipush 90, 2) := by decide +kernel
theorem dL_refusesOne_87 : decode cL_refusesOne 87 = .ok (.iload_n 1, 1) := by decide +kernel
theorem dL_refusesOne_88 : decode cL_refusesOne 88 = .ok (.iconst 0, 1) := by decide +kernel
theorem dL_refusesOne_89 : decode cL_refusesOne 89 = .ok (.bipush 48, 2) := by decide +kernel
theorem dL_refusesOne_91 : decode cL_refusesOne 91 = .ok (.invokestatic 177, 3) := by decide +kernel
theorem dL_refusesOne_94 : decode cL_refusesOne 94 = .ok (.bipush 48, 2) := by decide +kernel
theorem dL_refusesOne_96 : decode cL_refusesOne 96 = .ok (.bipush 12, 2) := by decide +kernel
theorem dL_refusesOne_98 : decode cL_refusesOne 98 = .ok (.invokestatic 180, 3) := by decide +kernel
theorem dL_refusesOne_101 : decode cL_refusesOne 101 = .ok (.sipush (-2012), 3) := by decide +kernel
theorem dL_refusesOne_104 : decode cL_refusesOne 104 = .ok (.if_icmp .ne 176, 3) := by decide +kernel
theorem dL_refusesOne_107 : decode cL_refusesOne 107 = .ok (.aload_n 0, 1) := by decide +kernel
theorem dL_refusesOne_108 : decode cL_refusesOne 108 = .ok (.bipush 7, 2) := by decide +kernel
theorem dL_refusesOne_110 : decode cL_refusesOne 110 = .ok (.sipush 210, 3) := by decide +kernel
theorem dL_refusesOne_113 : decode cL_refusesOne 113 = .ok (.bipush 20, 2) := by decide +kernel
theorem dL_refusesOne_115 : decode cL_refusesOne 115 = .ok (.iload_n 1, 1) := by decide +kernel
theorem dL_refusesOne_116 : decode cL_refusesOne 116 = .ok (.bipush 20, 2) := by decide +kernel
theorem dL_refusesOne_118 : decode cL_refusesOne 118 = .ok (.bipush 48, 2) := by decide +kernel
theorem dL_refusesOne_120 : decode cL_refusesOne 120 = .ok (.invokestatic 177, 3) := by decide +kernel
theorem dL_refusesOne_123 : decode cL_refusesOne 123 = .ok (.bipush 17, 2) := by decide +kernel
theorem dL_refusesOne_125 : decode cL_refusesOne 125 = .ok (.invokestatic 180, 3) := by decide +kernel
theorem dL_refusesOne_128 : decode cL_refusesOne 128 = .ok (.sipush (-2012), 3) := by decide +kernel
theorem dL_refusesOne_131 : decode cL_refusesOne 131 = .ok (.if_icmp .ne 149, 3) := by decide +kernel
theorem dL_refusesOne_134 : decode cL_refusesOne 134 = .ok (.aload_n 0, 1) := by decide +kernel
theorem dL_refusesOne_135 : decode cL_refusesOne 135 = .ok (.bipush 7, 2) := by decide +kernel
theorem dL_refusesOne_137 : decode cL_refusesOne 137 = .ok (.sipush 210, 3) := by decide +kernel
theorem dL_refusesOne_140 : decode cL_refusesOne 140 = .ok (.iconst 0, 1) := by decide +kernel
theorem dL_refusesOne_141 : decode cL_refusesOne 141 = .ok (.iconst 0, 1) := by decide +kernel
theorem dL_refusesOne_142 : decode cL_refusesOne 142 = .ok (.iload_n 1, 1) := by decide +kernel
theorem dL_refusesOne_143 : decode cL_refusesOne 143 = .ok (.ifCond .ne 8, 3) := by decide +kernel
theorem dL_refusesOne_146 : decode cL_refusesOne 146 = .ok (.bipush 11, 2) := by decide +kernel
theorem dL_refusesOne_148 : decode cL_refusesOne 148 = .ok (.goto 10, 3) := by decide +kernel
theorem dL_refusesOne_151 : decode cL_refusesOne 151 = .ok (.iload_n 1, 1) := by decide +kernel
theorem dL_refusesOne_152 : decode cL_refusesOne 152 = .ok (.iconst 0, 1) := by decide +kernel
theorem dL_refusesOne_153 : decode cL_refusesOne 153 = .ok (.bipush 17, 2) := by decide +kernel
theorem dL_refusesOne_155 : decode cL_refusesOne 155 = .ok (.invokestatic 177, 3) := by decide +kernel
theorem dL_refusesOne_158 : decode cL_refusesOne 158 = .ok (.invokestatic 180, 3) := by decide +kernel
theorem dL_refusesOne_161 : decode cL_refusesOne 161 = .ok (.sipush (-2012), 3) := by decide +kernel
theorem dL_refusesOne_164 : decode cL_refusesOne 164 = .ok (.if_icmp .ne 116, 3) := by decide +kernel
theorem dL_refusesOne_167 : decode cL_refusesOne 167 = .ok (.aload_n 0, 1) := by decide +kernel
theorem dL_refusesOne_168 : decode cL_refusesOne 168 = .ok (.iload 4, 2) := by decide +kernel
theorem dL_refusesOne_170 : decode cL_refusesOne 170 = .ok (.bipush 99, 2) := by decide +kernel
theorem dL_refusesOne_172 : decode cL_refusesOne 172 = .ok (.iconst 0, 1) := by decide +kernel
theorem dL_refusesOne_173 : decode cL_refusesOne 173 = .ok (.iconst 0, 1) := by decide +kernel
theorem dL_refusesOne_174 : decode cL_refusesOne 174 = .ok (.iconst 0, 1) := by decide +kernel
theorem dL_refusesOne_175 : decode cL_refusesOne 175 = .ok (.invokestatic 184, 3) := by decide +kernel
theorem dL_refusesOne_178 : decode cL_refusesOne 178 = .ok (.sipush (-2011), 3) := by decide +kernel
theorem dL_refusesOne_181 : decode cL_refusesOne 181 = .ok (.if_icmp .ne 99, 3) := by decide +kernel
theorem dL_refusesOne_184 : decode cL_refusesOne 184 = .ok (.aload_n 0, 1) := by decide +kernel
theorem dL_refusesOne_185 : decode cL_refusesOne 185 = .ok (.iconst 4, 1) := by decide +kernel
theorem dL_refusesOne_186 : decode cL_refusesOne 186 = .ok (.iload_n 1, 1) := by decide +kernel
theorem dL_refusesOne_187 : decode cL_refusesOne 187 = .ok (.iconst 0, 1) := by decide +kernel
theorem dL_refusesOne_188 : decode cL_refusesOne 188 = .ok (.bipush 9, 2) := by decide +kernel
theorem dL_refusesOne_190 : decode cL_refusesOne 190 = .ok (.invokestatic 177, 3) := by decide +kernel
theorem dL_refusesOne_193 : decode cL_refusesOne 193 = .ok (.sipush 150, 3) := by decide +kernel
theorem dL_refusesOne_196 : decode cL_refusesOne 196 = .ok (.bipush 40, 2) := by decide +kernel
theorem dL_refusesOne_198 : decode cL_refusesOne 198 = .ok (.iconst 5, 1) := by decide +kernel
theorem dL_refusesOne_199 : decode cL_refusesOne 199 = .ok (.invokestatic 184, 3) := by decide +kernel
theorem dL_refusesOne_202 : decode cL_refusesOne 202 = .ok (.sipush (-2012), 3) := by decide +kernel
theorem dL_refusesOne_205 : decode cL_refusesOne 205 = .ok (.if_icmp .ne 75, 3) := by decide +kernel
theorem dL_refusesOne_208 : decode cL_refusesOne 208 = .ok (.aload_n 0, 1) := by decide +kernel
theorem dL_refusesOne_209 : decode cL_refusesOne 209 = .ok (.iconst 4, 1) := by decide +kernel
theorem dL_refusesOne_210 : decode cL_refusesOne 210 = .ok (.iconst 0, 1) := by decide +kernel
theorem dL_refusesOne_211 : decode cL_refusesOne 211 = .ok (.iload_n 1, 1) := by decide +kernel
theorem dL_refusesOne_212 : decode cL_refusesOne 212 = .ok (.bipush 90, 2) := by decide +kernel
theorem dL_refusesOne_214 : decode cL_refusesOne 214 = .ok (.sipush 210, 3) := by decide +kernel
theorem dL_refusesOne_217 : decode cL_refusesOne 217 = .ok (.invokestatic 177, 3) := by decide +kernel
theorem dL_refusesOne_220 : decode cL_refusesOne 220 = .ok (.bipush 40, 2) := by decide +kernel
theorem dL_refusesOne_222 : decode cL_refusesOne 222 = .ok (.iconst 5, 1) := by decide +kernel
theorem dL_refusesOne_223 : decode cL_refusesOne 223 = .ok (.invokestatic 184, 3) := by decide +kernel
theorem dL_refusesOne_226 : decode cL_refusesOne 226 = .ok (.sipush (-2012), 3) := by decide +kernel
theorem dL_refusesOne_229 : decode cL_refusesOne 229 = .ok (.if_icmp .ne 51, 3) := by decide +kernel
theorem dL_refusesOne_232 : decode cL_refusesOne 232 = .ok (.aload_n 0, 1) := by decide +kernel
theorem dL_refusesOne_233 : decode cL_refusesOne 233 = .ok (.iconst 4, 1) := by decide +kernel
theorem dL_refusesOne_234 : decode cL_refusesOne 234 = .ok (.iconst 0, 1) := by decide +kernel
theorem dL_refusesOne_235 : decode cL_refusesOne 235 = .ok (.sipush 150, 3) := by decide +kernel
theorem dL_refusesOne_238 : decode cL_refusesOne 238 = .ok (.iload_n 1, 1) := by decide +kernel
theorem dL_refusesOne_239 : decode cL_refusesOne 239 = .ok (.bipush 20, 2) := by decide +kernel
theorem dL_refusesOne_241 : decode cL_refusesOne 241 = .ok (.bipush 48, 2) := by decide +kernel
theorem dL_refusesOne_243 : decode cL_refusesOne 243 = .ok (.invokestatic 177, 3) := by decide +kernel
theorem dL_refusesOne_246 : decode cL_refusesOne 246 = .ok (.iconst 5, 1) := by decide +kernel
theorem dL_refusesOne_247 : decode cL_refusesOne 247 = .ok (.invokestatic 184, 3) := by decide +kernel
theorem dL_refusesOne_250 : decode cL_refusesOne 250 = .ok (.sipush (-2012), 3) := by decide +kernel
theorem dL_refusesOne_253 : decode cL_refusesOne 253 = .ok (.if_icmp .ne 27, 3) := by decide +kernel
theorem dL_refusesOne_256 : decode cL_refusesOne 256 = .ok (.aload_n 0, 1) := by decide +kernel
theorem dL_refusesOne_257 : decode cL_refusesOne 257 = .ok (.iconst 4, 1) := by decide +kernel
theorem dL_refusesOne_258 : decode cL_refusesOne 258 = .ok (.iconst 0, 1) := by decide +kernel
theorem dL_refusesOne_259 : decode cL_refusesOne 259 = .ok (.sipush 150, 3) := by decide +kernel
theorem dL_refusesOne_262 : decode cL_refusesOne 262 = .ok (.bipush 40, 2) := by decide +kernel
theorem dL_refusesOne_264 : decode cL_refusesOne 264 = .ok (.iload_n 1, 1) := by decide +kernel
theorem dL_refusesOne_265 : decode cL_refusesOne 265 = .ok (.iconst 1, 1) := by decide +kernel
theorem dL_refusesOne_266 : decode cL_refusesOne 266 = .ok (.bipush 90, 2) := by decide +kernel
theorem dL_refusesOne_268 : decode cL_refusesOne 268 = .ok (.invokestatic 177, 3) := by decide +kernel
theorem dL_refusesOne_271 : decode cL_refusesOne 271 = .ok (.invokestatic 184, 3) := by decide +kernel
theorem dL_refusesOne_274 : decode cL_refusesOne 274 = .ok (.sipush (-2012), 3) := by decide +kernel
theorem dL_refusesOne_277 : decode cL_refusesOne 277 = .ok (.if_icmp .eq 5, 3) := by decide +kernel
theorem dL_refusesOne_280 : decode cL_refusesOne 280 = .ok (.iconst 0, 1) := by decide +kernel
theorem dL_refusesOne_281 : decode cL_refusesOne 281 = .ok (.ireturn, 1) := by decide +kernel
theorem dL_refusesOne_282 : decode cL_refusesOne 282 = .ok (.aload_n 0, 1) := by decide +kernel
theorem dL_refusesOne_283 : decode cL_refusesOne 283 = .ok (.iconst 1, 1) := by decide +kernel
theorem dL_refusesOne_284 : decode cL_refusesOne 284 = .ok (.iload_n 2, 1) := by decide +kernel
theorem dL_refusesOne_285 : decode cL_refusesOne 285 = .ok (.iconst 0, 1) := by decide +kernel
theorem dL_refusesOne_286 : decode cL_refusesOne 286 = .ok (.iconst 0, 1) := by decide +kernel
theorem dL_refusesOne_287 : decode cL_refusesOne 287 = .ok (.invokestatic 187, 3) := by decide +kernel
theorem dL_refusesOne_290 : decode cL_refusesOne 290 = .ok (.sipush (-2011), 3) := by decide +kernel
theorem dL_refusesOne_293 : decode cL_refusesOne 293 = .ok (.if_icmp .ne 161, 3) := by decide +kernel
theorem dL_refusesOne_296 : decode cL_refusesOne 296 = .ok (.aload_n 0, 1) := by decide +kernel
theorem dL_refusesOne_297 : decode cL_refusesOne 297 = .ok (.iconst 3, 1) := by decide +kernel
theorem dL_refusesOne_298 : decode cL_refusesOne 298 = .ok (.iload_n 2, 1) := by decide +kernel
theorem dL_refusesOne_299 : decode cL_refusesOne 299 = .ok (.iconst 0, 1) := by decide +kernel
theorem dL_refusesOne_300 : decode cL_refusesOne 300 = .ok (.iconst 0, 1) := by decide +kernel
theorem dL_refusesOne_301 : decode cL_refusesOne 301 = .ok (.invokestatic 187, 3) := by decide +kernel
theorem dL_refusesOne_304 : decode cL_refusesOne 304 = .ok (.sipush (-2011), 3) := by decide +kernel
theorem dL_refusesOne_307 : decode cL_refusesOne 307 = .ok (.if_icmp .ne 147, 3) := by decide +kernel
theorem dL_refusesOne_310 : decode cL_refusesOne 310 = .ok (.aload_n 0, 1) := by decide +kernel
theorem dL_refusesOne_311 : decode cL_refusesOne 311 = .ok (.iconst 4, 1) := by decide +kernel
theorem dL_refusesOne_312 : decode cL_refusesOne 312 = .ok (.iload_n 2, 1) := by decide +kernel
theorem dL_refusesOne_313 : decode cL_refusesOne 313 = .ok (.iconst 0, 1) := by decide +kernel
theorem dL_refusesOne_314 : decode cL_refusesOne 314 = .ok (.iconst 0, 1) := by decide +kernel
theorem dL_refusesOne_315 : decode cL_refusesOne 315 = .ok (.invokestatic 187, 3) := by decide +kernel
theorem dL_refusesOne_318 : decode cL_refusesOne 318 = .ok (.sipush (-2011), 3) := by decide +kernel
theorem dL_refusesOne_321 : decode cL_refusesOne 321 = .ok (.if_icmp .ne 133, 3) := by decide +kernel
theorem dL_refusesOne_324 : decode cL_refusesOne 324 = .ok (.aload_n 0, 1) := by decide +kernel
theorem dL_refusesOne_325 : decode cL_refusesOne 325 = .ok (.iconst 5, 1) := by decide +kernel
theorem dL_refusesOne_326 : decode cL_refusesOne 326 = .ok (.iload_n 1, 1) := by decide +kernel
theorem dL_refusesOne_327 : decode cL_refusesOne 327 = .ok (.aload_n 0, 1) := by decide +kernel
theorem dL_refusesOne_328 : decode cL_refusesOne 328 = .ok (.invokevirtual 155, 3) := by decide +kernel
theorem dL_refusesOne_331 : decode cL_refusesOne 331 = .ok (.iconst 1, 1) := by decide +kernel
theorem dL_refusesOne_332 : decode cL_refusesOne 332 = .ok (.iadd, 1) := by decide +kernel
theorem dL_refusesOne_333 : decode cL_refusesOne 333 = .ok (.sipush 9999, 3) := by decide +kernel
theorem dL_refusesOne_336 : decode cL_refusesOne 336 = .ok (.invokestatic 177, 3) := by decide +kernel
theorem dL_refusesOne_339 : decode cL_refusesOne 339 = .ok (.iconst 1, 1) := by decide +kernel
theorem dL_refusesOne_340 : decode cL_refusesOne 340 = .ok (.iconst 0, 1) := by decide +kernel
theorem dL_refusesOne_341 : decode cL_refusesOne 341 = .ok (.invokestatic 187, 3) := by decide +kernel
theorem dL_refusesOne_344 : decode cL_refusesOne 344 = .ok (.sipush (-2012), 3) := by decide +kernel
theorem dL_refusesOne_347 : decode cL_refusesOne 347 = .ok (.if_icmp .ne 107, 3) := by decide +kernel
theorem dL_refusesOne_350 : decode cL_refusesOne 350 = .ok (.aload_n 0, 1) := by decide +kernel
theorem dL_refusesOne_351 : decode cL_refusesOne 351 = .ok (.iconst 5, 1) := by decide +kernel
theorem dL_refusesOne_352 : decode cL_refusesOne 352 = .ok (.sipush 9999, 3) := by decide +kernel
theorem dL_refusesOne_355 : decode cL_refusesOne 355 = .ok (.iload_n 1, 1) := by decide +kernel
theorem dL_refusesOne_356 : decode cL_refusesOne 356 = .ok (.iconst 1, 1) := by decide +kernel
theorem dL_refusesOne_357 : decode cL_refusesOne 357 = .ok (.iconst 3, 1) := by decide +kernel
theorem dL_refusesOne_358 : decode cL_refusesOne 358 = .ok (.invokestatic 177, 3) := by decide +kernel
theorem dL_refusesOne_361 : decode cL_refusesOne 361 = .ok (.iconst 0, 1) := by decide +kernel
theorem dL_refusesOne_362 : decode cL_refusesOne 362 = .ok (.invokestatic 187, 3) := by decide +kernel
theorem dL_refusesOne_365 : decode cL_refusesOne 365 = .ok (.sipush (-2012), 3) := by decide +kernel
theorem dL_refusesOne_368 : decode cL_refusesOne 368 = .ok (.if_icmp .ne 86, 3) := by decide +kernel
theorem dL_refusesOne_371 : decode cL_refusesOne 371 = .ok (.aload_n 0, 1) := by decide +kernel
theorem dL_refusesOne_372 : decode cL_refusesOne 372 = .ok (.bipush 6, 2) := by decide +kernel
theorem dL_refusesOne_374 : decode cL_refusesOne 374 = .ok (.iload_n 3, 1) := by decide +kernel
theorem dL_refusesOne_375 : decode cL_refusesOne 375 = .ok (.iconst 0, 1) := by decide +kernel
theorem dL_refusesOne_376 : decode cL_refusesOne 376 = .ok (.bipush 7, 2) := by decide +kernel
theorem dL_refusesOne_378 : decode cL_refusesOne 378 = .ok (.invokestatic 187, 3) := by decide +kernel
theorem dL_refusesOne_381 : decode cL_refusesOne 381 = .ok (.sipush (-2011), 3) := by decide +kernel
theorem dL_refusesOne_384 : decode cL_refusesOne 384 = .ok (.if_icmp .ne 70, 3) := by decide +kernel
theorem dL_refusesOne_387 : decode cL_refusesOne 387 = .ok (.aload_n 0, 1) := by decide +kernel
theorem dL_refusesOne_388 : decode cL_refusesOne 388 = .ok (.bipush 7, 2) := by decide +kernel
theorem dL_refusesOne_390 : decode cL_refusesOne 390 = .ok (.iload_n 1, 1) := by decide +kernel
theorem dL_refusesOne_391 : decode cL_refusesOne 391 = .ok (.iconst 1, 1) := by decide +kernel
theorem dL_refusesOne_392 : decode cL_refusesOne 392 = .ok (.bipush 99, 2) := by decide +kernel
theorem dL_refusesOne_394 : decode cL_refusesOne 394 = .ok (.invokestatic 177, 3) := by decide +kernel
theorem dL_refusesOne_397 : decode cL_refusesOne 397 = .ok (.iconst 0, 1) := by decide +kernel
theorem dL_refusesOne_398 : decode cL_refusesOne 398 = .ok (.iconst 0, 1) := by decide +kernel
theorem dL_refusesOne_399 : decode cL_refusesOne 399 = .ok (.invokestatic 187, 3) := by decide +kernel
theorem dL_refusesOne_402 : decode cL_refusesOne 402 = .ok (.sipush (-2012), 3) := by decide +kernel
theorem dL_refusesOne_405 : decode cL_refusesOne 405 = .ok (.if_icmp .ne 49, 3) := by decide +kernel
theorem dL_refusesOne_408 : decode cL_refusesOne 408 = .ok (.aload_n 0, 1) := by decide +kernel
theorem dL_refusesOne_409 : decode cL_refusesOne 409 = .ok (.bipush 31, 2) := by decide +kernel
theorem dL_refusesOne_411 : decode cL_refusesOne 411 = .ok (.iconst 0, 1) := by decide +kernel
theorem dL_refusesOne_412 : decode cL_refusesOne 412 = .ok (.iconst 0, 1) := by decide +kernel
theorem dL_refusesOne_413 : decode cL_refusesOne 413 = .ok (.iconst 0, 1) := by decide +kernel
theorem dL_refusesOne_414 : decode cL_refusesOne 414 = .ok (.invokestatic 187, 3) := by decide +kernel
theorem dL_refusesOne_417 : decode cL_refusesOne 417 = .ok (.sipush (-2013), 3) := by decide +kernel
theorem dL_refusesOne_420 : decode cL_refusesOne 420 = .ok (.if_icmp .ne 34, 3) := by decide +kernel
theorem dL_refusesOne_423 : decode cL_refusesOne 423 = .ok (.aload_n 0, 1) := by decide +kernel
theorem dL_refusesOne_424 : decode cL_refusesOne 424 = .ok (.bipush 32, 2) := by decide +kernel
theorem dL_refusesOne_426 : decode cL_refusesOne 426 = .ok (.iconst 0, 1) := by decide +kernel
theorem dL_refusesOne_427 : decode cL_refusesOne 427 = .ok (.iconst 0, 1) := by decide +kernel
theorem dL_refusesOne_428 : decode cL_refusesOne 428 = .ok (.iconst 0, 1) := by decide +kernel
theorem dL_refusesOne_429 : decode cL_refusesOne 429 = .ok (.invokestatic 187, 3) := by decide +kernel
theorem dL_refusesOne_432 : decode cL_refusesOne 432 = .ok (.sipush (-2013), 3) := by decide +kernel
theorem dL_refusesOne_435 : decode cL_refusesOne 435 = .ok (.if_icmp .ne 19, 3) := by decide +kernel
theorem dL_refusesOne_438 : decode cL_refusesOne 438 = .ok (.aload_n 0, 1) := by decide +kernel
theorem dL_refusesOne_439 : decode cL_refusesOne 439 = .ok (.bipush 18, 2) := by decide +kernel
theorem dL_refusesOne_441 : decode cL_refusesOne 441 = .ok (.iload 4, 2) := by decide +kernel
theorem dL_refusesOne_443 : decode cL_refusesOne 443 = .ok (.iconst 0, 1) := by decide +kernel
theorem dL_refusesOne_444 : decode cL_refusesOne 444 = .ok (.iconst 0, 1) := by decide +kernel
theorem dL_refusesOne_445 : decode cL_refusesOne 445 = .ok (.invokestatic 187, 3) := by decide +kernel
theorem dL_refusesOne_448 : decode cL_refusesOne 448 = .ok (.sipush (-2011), 3) := by decide +kernel
theorem dL_refusesOne_451 : decode cL_refusesOne 451 = .ok (.if_icmp .eq 5, 3) := by decide +kernel
theorem dL_refusesOne_454 : decode cL_refusesOne 454 = .ok (.iconst 0, 1) := by decide +kernel
theorem dL_refusesOne_455 : decode cL_refusesOne 455 = .ok (.ireturn, 1) := by decide +kernel
theorem dL_refusesOne_456 : decode cL_refusesOne 456 = .ok (.bipush 8, 2) := by decide +kernel
theorem dL_refusesOne_458 : decode cL_refusesOne 458 = .ok (.istore 5, 2) := by decide +kernel
theorem dL_refusesOne_460 : decode cL_refusesOne 460 = .ok (.iload 5, 2) := by decide +kernel
theorem dL_refusesOne_462 : decode cL_refusesOne 462 = .ok (.bipush 18, 2) := by decide +kernel
theorem dL_refusesOne_464 : decode cL_refusesOne 464 = .ok (.if_icmp .ge 26, 3) := by decide +kernel
theorem dL_refusesOne_467 : decode cL_refusesOne 467 = .ok (.aload_n 0, 1) := by decide +kernel
theorem dL_refusesOne_468 : decode cL_refusesOne 468 = .ok (.iload 5, 2) := by decide +kernel
theorem dL_refusesOne_470 : decode cL_refusesOne 470 = .ok (.iload_n 2, 1) := by decide +kernel
theorem dL_refusesOne_471 : decode cL_refusesOne 471 = .ok (.iconst (-1), 1) := by decide +kernel
theorem dL_refusesOne_472 : decode cL_refusesOne 472 = .ok (.iconst 0, 1) := by decide +kernel
theorem dL_refusesOne_473 : decode cL_refusesOne 473 = .ok (.invokestatic 187, 3) := by decide +kernel
theorem dL_refusesOne_476 : decode cL_refusesOne 476 = .ok (.sipush (-2011), 3) := by decide +kernel
theorem dL_refusesOne_479 : decode cL_refusesOne 479 = .ok (.if_icmp .eq 5, 3) := by decide +kernel
theorem dL_refusesOne_482 : decode cL_refusesOne 482 = .ok (.iconst 0, 1) := by decide +kernel
theorem dL_refusesOne_483 : decode cL_refusesOne 483 = .ok (.ireturn, 1) := by decide +kernel
theorem dL_refusesOne_484 : decode cL_refusesOne 484 = .ok (.iinc 5 1, 3) := by decide +kernel
theorem dL_refusesOne_487 : decode cL_refusesOne 487 = .ok (.goto (-27), 3) := by decide +kernel
theorem dL_refusesOne_490 : decode cL_refusesOne 490 = .ok (.bipush 19, 2) := by decide +kernel
theorem dL_refusesOne_492 : decode cL_refusesOne 492 = .ok (.istore 5, 2) := by decide +kernel
theorem dL_refusesOne_494 : decode cL_refusesOne 494 = .ok (.iload 5, 2) := by decide +kernel
theorem dL_refusesOne_496 : decode cL_refusesOne 496 = .ok (.bipush 30, 2) := by decide +kernel
theorem dL_refusesOne_498 : decode cL_refusesOne 498 = .ok (.if_icmp .ge 26, 3) := by decide +kernel
theorem dL_refusesOne_501 : decode cL_refusesOne 501 = .ok (.aload_n 0, 1) := by decide +kernel
theorem dL_refusesOne_502 : decode cL_refusesOne 502 = .ok (.iload 5, 2) := by decide +kernel
theorem dL_refusesOne_504 : decode cL_refusesOne 504 = .ok (.iload_n 3, 1) := by decide +kernel
theorem dL_refusesOne_505 : decode cL_refusesOne 505 = .ok (.iconst 0, 1) := by decide +kernel
theorem dL_refusesOne_506 : decode cL_refusesOne 506 = .ok (.iconst 0, 1) := by decide +kernel
theorem dL_refusesOne_507 : decode cL_refusesOne 507 = .ok (.invokestatic 187, 3) := by decide +kernel
theorem dL_refusesOne_510 : decode cL_refusesOne 510 = .ok (.sipush (-2011), 3) := by decide +kernel
theorem dL_refusesOne_513 : decode cL_refusesOne 513 = .ok (.if_icmp .eq 5, 3) := by decide +kernel
theorem dL_refusesOne_516 : decode cL_refusesOne 516 = .ok (.iconst 0, 1) := by decide +kernel
theorem dL_refusesOne_517 : decode cL_refusesOne 517 = .ok (.ireturn, 1) := by decide +kernel
theorem dL_refusesOne_518 : decode cL_refusesOne 518 = .ok (.iinc 5 1, 3) := by decide +kernel
theorem dL_refusesOne_521 : decode cL_refusesOne 521 = .ok (.goto (-27), 3) := by decide +kernel
theorem dL_refusesOne_524 : decode cL_refusesOne 524 = .ok (.aload_n 0, 1) := by decide +kernel
theorem dL_refusesOne_525 : decode cL_refusesOne 525 = .ok (.invokevirtual 158, 3) := by decide +kernel
theorem dL_refusesOne_528 : decode cL_refusesOne 528 = .ok (.ifCond .eq 10, 3) := by decide +kernel
theorem dL_refusesOne_531 : decode cL_refusesOne 531 = .ok (.aload_n 0, 1) := by decide +kernel
theorem dL_refusesOne_532 : decode cL_refusesOne 532 = .ok (.invokevirtual 161, 3) := by decide +kernel
theorem dL_refusesOne_535 : decode cL_refusesOne 535 = .ok (.ifCond .ne 5, 3) := by decide +kernel
theorem dL_refusesOne_538 : decode cL_refusesOne 538 = .ok (.iconst 1, 1) := by decide +kernel
theorem dL_refusesOne_539 : decode cL_refusesOne 539 = .ok (.ireturn, 1) := by decide +kernel
theorem dL_refusesOne_540 : decode cL_refusesOne 540 = .ok (.aload_n 0, 1) := by decide +kernel
theorem dL_refusesOne_541 : decode cL_refusesOne 541 = .ok (.iconst 3, 1) := by decide +kernel
theorem dL_refusesOne_542 : decode cL_refusesOne 542 = .ok (.iconst 0, 1) := by decide +kernel
theorem dL_refusesOne_543 : decode cL_refusesOne 543 = .ok (.iload 4, 2) := by decide +kernel
theorem dL_refusesOne_545 : decode cL_refusesOne 545 = .ok (.iconst 0, 1) := by decide +kernel
theorem dL_refusesOne_546 : decode cL_refusesOne 546 = .ok (.invokestatic 187, 3) := by decide +kernel
theorem dL_refusesOne_549 : decode cL_refusesOne 549 = .ok (.sipush (-2011), 3) := by decide +kernel
theorem dL_refusesOne_552 : decode cL_refusesOne 552 = .ok (.if_icmp .ne 180, 3) := by decide +kernel
theorem dL_refusesOne_555 : decode cL_refusesOne 555 = .ok (.aload_n 0, 1) := by decide +kernel
theorem dL_refusesOne_556 : decode cL_refusesOne 556 = .ok (.iconst 3, 1) := by decide +kernel
theorem dL_refusesOne_557 : decode cL_refusesOne 557 = .ok (.iconst 0, 1) := by decide +kernel
theorem dL_refusesOne_558 : decode cL_refusesOne 558 = .ok (.iconst 0, 1) := by decide +kernel
theorem dL_refusesOne_559 : decode cL_refusesOne 559 = .ok (.iload_n 1, 1) := by decide +kernel
theorem dL_refusesOne_560 : decode cL_refusesOne 560 = .ok (.iconst 1, 1) := by decide +kernel
theorem dL_refusesOne_561 : decode cL_refusesOne 561 = .ok (.bipush 90, 2) := by decide +kernel
theorem dL_refusesOne_563 : decode cL_refusesOne 563 = .ok (.invokestatic 177, 3) := by decide +kernel
theorem dL_refusesOne_566 : decode cL_refusesOne 566 = .ok (.invokestatic 187, 3) := by decide +kernel
theorem dL_refusesOne_569 : decode cL_refusesOne 569 = .ok (.sipush (-2012), 3) := by decide +kernel
theorem dL_refusesOne_572 : decode cL_refusesOne 572 = .ok (.if_icmp .ne 160, 3) := by decide +kernel
theorem dL_refusesOne_575 : decode cL_refusesOne 575 = .ok (.aload_n 0, 1) := by decide +kernel
theorem dL_refusesOne_576 : decode cL_refusesOne 576 = .ok (.iconst 4, 1) := by decide +kernel
theorem dL_refusesOne_577 : decode cL_refusesOne 577 = .ok (.iconst 0, 1) := by decide +kernel
theorem dL_refusesOne_578 : decode cL_refusesOne 578 = .ok (.iload_n 1, 1) := by decide +kernel
theorem dL_refusesOne_579 : decode cL_refusesOne 579 = .ok (.aload_n 0, 1) := by decide +kernel
theorem dL_refusesOne_580 : decode cL_refusesOne 580 = .ok (.invokevirtual 155, 3) := by decide +kernel
theorem dL_refusesOne_583 : decode cL_refusesOne 583 = .ok (.iconst 1, 1) := by decide +kernel
theorem dL_refusesOne_584 : decode cL_refusesOne 584 = .ok (.iadd, 1) := by decide +kernel
theorem dL_refusesOne_585 : decode cL_refusesOne 585 = .ok (.sipush 9999, 3) := by decide +kernel
theorem dL_refusesOne_588 : decode cL_refusesOne 588 = .ok (.invokestatic 177, 3) := by decide +kernel
theorem dL_refusesOne_591 : decode cL_refusesOne 591 = .ok (.sipush 9999, 3) := by decide +kernel
theorem dL_refusesOne_594 : decode cL_refusesOne 594 = .ok (.invokestatic 187, 3) := by decide +kernel
theorem dL_refusesOne_597 : decode cL_refusesOne 597 = .ok (.sipush (-2012), 3) := by decide +kernel
theorem dL_refusesOne_600 : decode cL_refusesOne 600 = .ok (.if_icmp .ne 132, 3) := by decide +kernel
theorem dL_refusesOne_603 : decode cL_refusesOne 603 = .ok (.aload_n 0, 1) := by decide +kernel
theorem dL_refusesOne_604 : decode cL_refusesOne 604 = .ok (.iconst 4, 1) := by decide +kernel
theorem dL_refusesOne_605 : decode cL_refusesOne 605 = .ok (.iconst 0, 1) := by decide +kernel
theorem dL_refusesOne_606 : decode cL_refusesOne 606 = .ok (.sipush 9999, 3) := by decide +kernel
theorem dL_refusesOne_609 : decode cL_refusesOne 609 = .ok (.iload_n 1, 1) := by decide +kernel
theorem dL_refusesOne_610 : decode cL_refusesOne 610 = .ok (.sipush 9999, 3) := by decide +kernel
theorem dL_refusesOne_613 : decode cL_refusesOne 613 = .ok (.sipush 10059, 3) := by decide +kernel
theorem dL_refusesOne_616 : decode cL_refusesOne 616 = .ok (.invokestatic 177, 3) := by decide +kernel
theorem dL_refusesOne_619 : decode cL_refusesOne 619 = .ok (.invokestatic 187, 3) := by decide +kernel
theorem dL_refusesOne_622 : decode cL_refusesOne 622 = .ok (.sipush (-2012), 3) := by decide +kernel
theorem dL_refusesOne_625 : decode cL_refusesOne 625 = .ok (.if_icmp .ne 107, 3) := by decide +kernel
theorem dL_refusesOne_628 : decode cL_refusesOne 628 = .ok (.aload_n 0, 1) := by decide +kernel
theorem dL_refusesOne_629 : decode cL_refusesOne 629 = .ok (.bipush 6, 2) := by decide +kernel
theorem dL_refusesOne_631 : decode cL_refusesOne 631 = .ok (.iconst 0, 1) := by decide +kernel
theorem dL_refusesOne_632 : decode cL_refusesOne 632 = .ok (.iload_n 1, 1) := by decide +kernel
theorem dL_refusesOne_633 : decode cL_refusesOne 633 = .ok (.iconst 0, 1) := by decide +kernel
theorem dL_refusesOne_634 : decode cL_refusesOne 634 = .ok (.iconst 3, 1) := by decide +kernel
theorem dL_refusesOne_635 : decode cL_refusesOne 635 = .ok (.invokestatic 177, 3) := by decide +kernel
theorem dL_refusesOne_638 : decode cL_refusesOne 638 = .ok (.bipush 7, 2) := by decide +kernel
theorem dL_refusesOne_640 : decode cL_refusesOne 640 = .ok (.invokestatic 187, 3) := by decide +kernel
theorem dL_refusesOne_643 : decode cL_refusesOne 643 = .ok (.sipush (-2011), 3) := by decide +kernel
theorem dL_refusesOne_646 : decode cL_refusesOne 646 = .ok (.if_icmp .ne 86, 3) := by decide +kernel
theorem dL_refusesOne_649 : decode cL_refusesOne 649 = .ok (.aload_n 0, 1) := by decide +kernel
theorem dL_refusesOne_650 : decode cL_refusesOne 650 = .ok (.iload_n 1, 1) := by decide +kernel
theorem dL_refusesOne_651 : decode cL_refusesOne 651 = .ok (.iconst 0, 1) := by decide +kernel
theorem dL_refusesOne_652 : decode cL_refusesOne 652 = .ok (.bipush 6, 2) := by decide +kernel
theorem dL_refusesOne_654 : decode cL_refusesOne 654 = .ok (.invokestatic 177, 3) := by decide +kernel
theorem dL_refusesOne_657 : decode cL_refusesOne 657 = .ok (.iconst 0, 1) := by decide +kernel
theorem dL_refusesOne_658 : decode cL_refusesOne 658 = .ok (.iconst 0, 1) := by decide +kernel
theorem dL_refusesOne_659 : decode cL_refusesOne 659 = .ok (.invokestatic 190, 3) := by decide +kernel
theorem dL_refusesOne_662 : decode cL_refusesOne 662 = .ok (.sipush (-2012), 3) := by decide +kernel
theorem dL_refusesOne_665 : decode cL_refusesOne 665 = .ok (.if_icmp .ne 67, 3) := by decide +kernel
theorem dL_refusesOne_668 : decode cL_refusesOne 668 = .ok (.aload_n 0, 1) := by decide +kernel
theorem dL_refusesOne_669 : decode cL_refusesOne 669 = .ok (.bipush 6, 2) := by decide +kernel
theorem dL_refusesOne_671 : decode cL_refusesOne 671 = .ok (.iload_n 1, 1) := by decide +kernel
theorem dL_refusesOne_672 : decode cL_refusesOne 672 = .ok (.iconst 0, 1) := by decide +kernel
theorem dL_refusesOne_673 : decode cL_refusesOne 673 = .ok (.bipush 48, 2) := by decide +kernel
theorem dL_refusesOne_675 : decode cL_refusesOne 675 = .ok (.invokestatic 177, 3) := by decide +kernel
theorem dL_refusesOne_678 : decode cL_refusesOne 678 = .ok (.bipush 48, 2) := by decide +kernel
theorem dL_refusesOne_680 : decode cL_refusesOne 680 = .ok (.invokestatic 190, 3) := by decide +kernel
theorem dL_refusesOne_683 : decode cL_refusesOne 683 = .ok (.sipush (-2012), 3) := by decide +kernel
theorem dL_refusesOne_686 : decode cL_refusesOne 686 = .ok (.if_icmp .ne 46, 3) := by decide +kernel
theorem dL_refusesOne_689 : decode cL_refusesOne 689 = .ok (.aload_n 0, 1) := by decide +kernel
theorem dL_refusesOne_690 : decode cL_refusesOne 690 = .ok (.iconst 0, 1) := by decide +kernel
theorem dL_refusesOne_691 : decode cL_refusesOne 691 = .ok (.bipush 20, 2) := by decide +kernel
theorem dL_refusesOne_693 : decode cL_refusesOne 693 = .ok (.iload_n 1, 1) := by decide +kernel
theorem dL_refusesOne_694 : decode cL_refusesOne 694 = .ok (.bipush 20, 2) := by decide +kernel
theorem dL_refusesOne_696 : decode cL_refusesOne 696 = .ok (.bipush 48, 2) := by decide +kernel
theorem dL_refusesOne_698 : decode cL_refusesOne 698 = .ok (.invokestatic 177, 3) := by decide +kernel
theorem dL_refusesOne_701 : decode cL_refusesOne 701 = .ok (.invokestatic 190, 3) := by decide +kernel
theorem dL_refusesOne_704 : decode cL_refusesOne 704 = .ok (.sipush (-2012), 3) := by decide +kernel
theorem dL_refusesOne_707 : decode cL_refusesOne 707 = .ok (.if_icmp .ne 25, 3) := by decide +kernel
theorem dL_refusesOne_710 : decode cL_refusesOne 710 = .ok (.aload_n 0, 1) := by decide +kernel
theorem dL_refusesOne_711 : decode cL_refusesOne 711 = .ok (.bipush 15, 2) := by decide +kernel
theorem dL_refusesOne_713 : decode cL_refusesOne 713 = .ok (.iconst 0, 1) := by decide +kernel
theorem dL_refusesOne_714 : decode cL_refusesOne 714 = .ok (.iload_n 1, 1) := by decide +kernel
theorem dL_refusesOne_715 : decode cL_refusesOne 715 = .ok (.iconst 0, 1) := by decide +kernel
theorem dL_refusesOne_716 : decode cL_refusesOne 716 = .ok (.sipush 9999, 3) := by decide +kernel
theorem dL_refusesOne_719 : decode cL_refusesOne 719 = .ok (.invokestatic 177, 3) := by decide +kernel
theorem dL_refusesOne_722 : decode cL_refusesOne 722 = .ok (.iconst 0, 1) := by decide +kernel
theorem dL_refusesOne_723 : decode cL_refusesOne 723 = .ok (.invokestatic 187, 3) := by decide +kernel
theorem dL_refusesOne_726 : decode cL_refusesOne 726 = .ok (.sipush (-2012), 3) := by decide +kernel
theorem dL_refusesOne_729 : decode cL_refusesOne 729 = .ok (.if_icmp .eq 5, 3) := by decide +kernel
theorem dL_refusesOne_732 : decode cL_refusesOne 732 = .ok (.iconst 0, 1) := by decide +kernel
theorem dL_refusesOne_733 : decode cL_refusesOne 733 = .ok (.ireturn, 1) := by decide +kernel
theorem dL_refusesOne_734 : decode cL_refusesOne 734 = .ok (.aload_n 0, 1) := by decide +kernel
theorem dL_refusesOne_735 : decode cL_refusesOne 735 = .ok (.bipush 25, 2) := by decide +kernel
theorem dL_refusesOne_737 : decode cL_refusesOne 737 = .ok (.iconst 0, 1) := by decide +kernel
theorem dL_refusesOne_738 : decode cL_refusesOne 738 = .ok (.iload_n 2, 1) := by decide +kernel
theorem dL_refusesOne_739 : decode cL_refusesOne 739 = .ok (.iconst 0, 1) := by decide +kernel
theorem dL_refusesOne_740 : decode cL_refusesOne 740 = .ok (.invokestatic 187, 3) := by decide +kernel
theorem dL_refusesOne_743 : decode cL_refusesOne 743 = .ok (.sipush (-2011), 3) := by decide +kernel
theorem dL_refusesOne_746 : decode cL_refusesOne 746 = .ok (.if_icmp .ne 97, 3) := by decide +kernel
theorem dL_refusesOne_749 : decode cL_refusesOne 749 = .ok (.aload_n 0, 1) := by decide +kernel
theorem dL_refusesOne_750 : decode cL_refusesOne 750 = .ok (.bipush 28, 2) := by decide +kernel
theorem dL_refusesOne_752 : decode cL_refusesOne 752 = .ok (.iconst 0, 1) := by decide +kernel
theorem dL_refusesOne_753 : decode cL_refusesOne 753 = .ok (.iload_n 2, 1) := by decide +kernel
theorem dL_refusesOne_754 : decode cL_refusesOne 754 = .ok (.iconst 0, 1) := by decide +kernel
theorem dL_refusesOne_755 : decode cL_refusesOne 755 = .ok (.invokestatic 187, 3) := by decide +kernel
