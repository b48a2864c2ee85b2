/-! printed by wip/p53/jgen.py out of the bytecode: the law -/
abbrev rmL_turns : Room := { frames := 7, cells := 753, slots := 10921, locals := 166 }
set_option maxRecDepth 100000 in
set_option maxHeartbeats 4000000 in
theorem cb_L_turns {Λ : jL kC} (hC : LC Λ) {l : Launch} (hfl : l.stackTraces = false) (hX : Xnc Λ) {v : mC} {Γ : jG (Int32 × mC)} (hG : jOk Γ Λ cL_turns "ChoirRegisterLaw" wsL_turns rmL_turns) (hT : jRt Γ Λ rmL_turns (some .boolean) (fun (q : Int32 × mC) => (some (Value.int q.1), q.2))) (hN : Γ.2.1 = 3) (hl : Γ.1.2.1 = l) : Sm Γ Λ (753, 10921) 8 [(0, .ref (Λ.2.2.2.1 (0, 0, 0)))] [] v (b_L_turns v) := by
  subst hl
  unfold b_L_turns
  refine sm_iconst (x := (0 : Int32)) hG 9 rfl dL_turns_8 rfl ?_
  refine sm_istore_n hG 10 rfl dL_turns_9 rfl (jlt hN rfl) [(1, .int (0 : Int32)), (0, .ref (Λ.2.2.2.1 (0, 0, 0)))] rfl ?_
  refine sm_loc [1, 0] [(0, .ref (Λ.2.2.2.1 (0, 0, 0))), (1, .int (0 : Int32))] rfl ?_
  refine lp_ind (fun (X10 : Int32 → mC → Option (Int32 × mC)) => ∀ (x1_10 : Int32) (v_10 : mC), Sm Γ Λ (753, 10921) 10 [(0, .ref (Λ.2.2.2.1 (0, 0, 0))), (1, .int x1_10)] [] v_10 (X10 x1_10 v_10)) (fun _ _ => sm_none) (fun self10 hs10 x1_10 v_10 => ?_) 8192 _ _
  refine sm_iload_n hG 11 rfl dL_turns_10 rfl 1 rfl ?_
  refine sm_iconst (x := (3 : Int32)) hG 12 rfl dL_turns_11 rfl ?_
  refine sm_icmp_ge hG 46 15 rfl dL_turns_12 (by decide) ?_ ?_
  · refine sm_iconst (x := (0 : Int32)) hG 47 rfl dL_turns_46 rfl ?_
    refine sm_istore_n hG 48 rfl dL_turns_47 rfl (jlt hN rfl) [(1, .int (0 : Int32)), (0, .ref (Λ.2.2.2.1 (0, 0, 0)))] rfl ?_
    refine sm_loc [1, 0] [(0, .ref (Λ.2.2.2.1 (0, 0, 0))), (1, .int (0 : Int32))] rfl ?_
    refine lp_ind (fun (X48 : Int32 → mC → Option (Int32 × mC)) => ∀ (x1_48 : Int32) (v_48 : mC), Sm Γ Λ (753, 10921) 48 [(0, .ref (Λ.2.2.2.1 (0, 0, 0))), (1, .int x1_48)] [] v_48 (X48 x1_48 v_48)) (fun _ _ => sm_none) (fun self48 hs48 x1_48 v_48 => ?_) 8192 _ _
    refine sm_iload_n hG 49 rfl dL_turns_48 rfl 1 rfl ?_
    refine sm_iconst (x := (5 : Int32)) hG 50 rfl dL_turns_49 rfl ?_
    refine sm_icmp_ge hG 88 53 rfl dL_turns_50 (by decide) ?_ ?_
    · refine sm_iconst (x := (0 : Int32)) hG 89 rfl dL_turns_88 rfl ?_
      refine sm_istore_n hG 90 rfl dL_turns_89 rfl (jlt hN rfl) [(1, .int (0 : Int32)), (0, .ref (Λ.2.2.2.1 (0, 0, 0)))] rfl ?_
      refine sm_loc [1, 0] [(0, .ref (Λ.2.2.2.1 (0, 0, 0))), (1, .int (0 : Int32))] rfl ?_
      refine lp_ind (fun (X90 : Int32 → mC → Option (Int32 × mC)) => ∀ (x1_90 : Int32) (v_90 : mC), Sm Γ Λ (753, 10921) 90 [(0, .ref (Λ.2.2.2.1 (0, 0, 0))), (1, .int x1_90)] [] v_90 (X90 x1_90 v_90)) (fun _ _ => sm_none) (fun self90 hs90 x1_90 v_90 => ?_) 8192 _ _
      refine sm_iload_n hG 91 rfl dL_turns_90 rfl 1 rfl ?_
      refine sm_iconst (x := (5 : Int32)) hG 92 rfl dL_turns_91 rfl ?_
      refine sm_icmp_ge hG 158 95 rfl dL_turns_92 (by decide) ?_ ?_
      · refine sm_aload_n hG 159 rfl dL_turns_158 rfl 0 rfl ?_
        refine sm_bipush (x := (7 : Int32)) hG 161 rfl dL_turns_159 rfl ?_
        refine sm_callV hG (fun (q : Int32 × mC) => (some (Value.int q.1), q.2)) (0, 0, 0) [.int (7 : Int32)] 164 rfl (ok0 hC) (ce_0 hC _) (ci := 6) rfl (fun r_ hr_ => c0n_X6_passDays hC hr_) gL_turns_X6_passDays rfl (by decide) (by decide) (n := 1) rfl (Nat.le_of_ble_eq_true rfl) (by decide) (by decide) rfl dL_turns_161 (fun r_161 => ?_)
        refine sm_iconst (x := (3 : Int32)) hG 165 rfl dL_turns_164 rfl ?_
        refine sm_icmp_ne hG 311 168 rfl dL_turns_165 (by decide) ?_ ?_
        · refine sm_iconst (x := (0 : Int32)) hG 312 rfl dL_turns_311 rfl ?_
          exact sm_bret hG hT (by decide) dL_turns_312 rfl
        · refine sm_aload_n hG 169 rfl dL_turns_168 rfl 0 rfl ?_
          refine sm_iconst (x := (4 : Int32)) hG 170 rfl dL_turns_169 rfl ?_
          refine sm_callV hG (fun (q : Int32 × mC) => (some (Value.int q.1), q.2)) (0, 0, 0) [.int (4 : Int32)] 173 rfl (ok0 hC) (ce_0 hC _) (ci := 6) rfl (fun r_ hr_ => c0n_X6_descantIn hC hr_) gL_turns_X6_descantIn rfl (by decide) (by decide) (n := 1) rfl (Nat.le_of_ble_eq_true rfl) (by decide) (by decide) rfl dL_turns_170 (fun r_170 => ?_)
          refine sm_iconst (x := (1 : Int32)) hG 174 rfl dL_turns_173 rfl ?_
          refine sm_icmp_ne hG 311 177 rfl dL_turns_174 (by decide) ?_ ?_
          · refine sm_iconst (x := (0 : Int32)) hG 312 rfl dL_turns_311 rfl ?_
            exact sm_bret hG hT (by decide) dL_turns_312 rfl
          · refine sm_aload_n hG 178 rfl dL_turns_177 rfl 0 rfl ?_
            refine sm_iconst (x := (3 : Int32)) hG 179 rfl dL_turns_178 rfl ?_
            refine sm_callV hG (fun (q : Int32 × mC) => (some (Value.int q.1), q.2)) (0, 0, 0) [.int (3 : Int32)] 182 rfl (ok0 hC) (ce_0 hC _) (ci := 6) rfl (fun r_ hr_ => c0n_X6_descantIn hC hr_) gL_turns_X6_descantIn rfl (by decide) (by decide) (n := 1) rfl (Nat.le_of_ble_eq_true rfl) (by decide) (by decide) rfl dL_turns_179 (fun r_179 => ?_)
            refine sm_if_ne hG 311 185 rfl dL_turns_182 (by decide) ?_ ?_
            · refine sm_iconst (x := (0 : Int32)) hG 312 rfl dL_turns_311 rfl ?_
              exact sm_bret hG hT (by decide) dL_turns_312 rfl
            · refine sm_aload_n hG 186 rfl dL_turns_185 rfl 0 rfl ?_
              refine sm_iconst (x := (2 : Int32)) hG 187 rfl dL_turns_186 rfl ?_
              refine sm_callV hG (fun (q : Int32 × mC) => (some (Value.int q.1), q.2)) (0, 0, 0) [.int (2 : Int32)] 190 rfl (ok0 hC) (ce_0 hC _) (ci := 6) rfl (fun r_ hr_ => c0n_X6_descantIn hC hr_) gL_turns_X6_descantIn rfl (by decide) (by decide) (n := 1) rfl (Nat.le_of_ble_eq_true rfl) (by decide) (by decide) rfl dL_turns_187 (fun r_187 => ?_)
              refine sm_iconst (x := (2 : Int32)) hG 191 rfl dL_turns_190 rfl ?_
              refine sm_icmp_ne hG 311 194 rfl dL_turns_191 (by decide) ?_ ?_
              · refine sm_iconst (x := (0 : Int32)) hG 312 rfl dL_turns_311 rfl ?_
                exact sm_bret hG hT (by decide) dL_turns_312 rfl
              · refine sm_aload_n hG 195 rfl dL_turns_194 rfl 0 rfl ?_
                refine sm_iconst (x := (1 : Int32)) hG 196 rfl dL_turns_195 rfl ?_
                refine sm_callV hG (fun (q : Int32 × mC) => (some (Value.int q.1), q.2)) (0, 0, 0) [.int (1 : Int32)] 199 rfl (ok0 hC) (ce_0 hC _) (ci := 6) rfl (fun r_ hr_ => c0n_X6_descantIn hC hr_) gL_turns_X6_descantIn rfl (by decide) (by decide) (n := 1) rfl (Nat.le_of_ble_eq_true rfl) (by decide) (by decide) rfl dL_turns_196 (fun r_196 => ?_)
                refine sm_iconst (x := (1 : Int32)) hG 200 rfl dL_turns_199 rfl ?_
                refine sm_icmp_ne hG 311 203 rfl dL_turns_200 (by decide) ?_ ?_
                · refine sm_iconst (x := (0 : Int32)) hG 312 rfl dL_turns_311 rfl ?_
                  exact sm_bret hG hT (by decide) dL_turns_312 rfl
                · refine sm_aload_n hG 204 rfl dL_turns_203 rfl 0 rfl ?_
                  refine sm_iconst (x := (0 : Int32)) hG 205 rfl dL_turns_204 rfl ?_
                  refine sm_callV hG (fun (q : Int32 × mC) => (some (Value.int q.1), q.2)) (0, 0, 0) [.int (0 : Int32)] 208 rfl (ok0 hC) (ce_0 hC _) (ci := 6) rfl (fun r_ hr_ => c0n_X6_descantIn hC hr_) gL_turns_X6_descantIn rfl (by decide) (by decide) (n := 1) rfl (Nat.le_of_ble_eq_true rfl) (by decide) (by decide) rfl dL_turns_205 (fun r_205 => ?_)
                  refine sm_if_ne hG 311 211 rfl dL_turns_208 (by decide) ?_ ?_
                  · refine sm_iconst (x := (0 : Int32)) hG 312 rfl dL_turns_311 rfl ?_
                    exact sm_bret hG hT (by decide) dL_turns_312 rfl
                  · refine sm_aload_n hG 212 rfl dL_turns_211 rfl 0 rfl ?_
                    refine sm_iconst (x := (2 : Int32)) hG 213 rfl dL_turns_212 rfl ?_
                    refine sm_callV hG (fun (q : Int32 × mC) => (some (Value.int q.1), q.2)) (0, 0, 0) [.int (2 : Int32)] 216 rfl (ok0 hC) (ce_0 hC _) (ci := 6) rfl (fun r_ hr_ => c0n_X6_descantsOf hC hr_) gL_turns_X6_descantsOf rfl (by decide) (by decide) (n := 1) rfl (Nat.le_of_ble_eq_true rfl) (by decide) (by decide) rfl dL_turns_213 (fun r_213 => ?_)
                    refine sm_iconst (x := (1 : Int32)) hG 217 rfl dL_turns_216 rfl ?_
                    refine sm_icmp_ne hG 311 220 rfl dL_turns_217 (by decide) ?_ ?_
                    · refine sm_iconst (x := (0 : Int32)) hG 312 rfl dL_turns_311 rfl ?_
                      exact sm_bret hG hT (by decide) dL_turns_312 rfl
                    · refine sm_aload_n hG 221 rfl dL_turns_220 rfl 0 rfl ?_
                      refine sm_bipush (x := (59 : Int32)) hG 223 rfl dL_turns_221 rfl ?_
                      refine sm_bipush (x := (9 : Int32)) hG 225 rfl dL_turns_223 rfl ?_
                      refine sm_iconst (x := (0 : Int32)) hG 226 rfl dL_turns_225 rfl ?_
                      refine sm_iconst (x := (0 : Int32)) hG 227 rfl dL_turns_226 rfl ?_
                      refine sm_callS hG (fun (q : Int32 × mC) => (some (Value.int q.1), q.2)) [.ref (Λ.2.2.2.1 (0, 0, 0)), .int (59 : Int32), .int (9 : Int32), .int (0 : Int32), .int (0 : Int32)] 230 rfl (fun r_ hr_ => c_L_accounts hC   hr_) gL_turns_L_accounts rfl (by decide) (by decide) (n := 5) rfl (Nat.le_of_ble_eq_true rfl) (by decide) (by decide) rfl dL_turns_227 (fun r_227 => ?_)
                      refine sm_if_eq hG 311 233 rfl dL_turns_230 (by decide) ?_ ?_
                      · refine sm_iconst (x := (0 : Int32)) hG 312 rfl dL_turns_311 rfl ?_
                        exact sm_bret hG hT (by decide) dL_turns_312 rfl
                      · refine sm_aload_n hG 234 rfl dL_turns_233 rfl 0 rfl ?_
                        refine sm_iconst (x := (1 : Int32)) hG 235 rfl dL_turns_234 rfl ?_
                        refine sm_callV hG (fun (q : Int32 × mC) => (some (Value.int q.1), q.2)) (0, 0, 0) [.int (1 : Int32)] 238 rfl (ok0 hC) (ce_0 hC _) (ci := 6) rfl (fun r_ hr_ => c0n_X6_leave hC hr_) gL_turns_X6_leave rfl (by decide) (by decide) (n := 1) rfl (Nat.le_of_ble_eq_true rfl) (by decide) (by decide) rfl dL_turns_235 (fun r_235 => ?_)
                        refine sm_iconst (x := (2 : Int32)) hG 239 rfl dL_turns_238 rfl ?_
                        refine sm_icmp_ne hG 311 242 rfl dL_turns_239 (by decide) ?_ ?_
                        · refine sm_iconst (x := (0 : Int32)) hG 312 rfl dL_turns_311 rfl ?_
                          exact sm_bret hG hT (by decide) dL_turns_312 rfl
                        · refine sm_aload_n hG 243 rfl dL_turns_242 rfl 0 rfl ?_
                          refine sm_iconst (x := (1 : Int32)) hG 244 rfl dL_turns_243 rfl ?_
                          refine sm_callV hG (fun (q : Int32 × mC) => (some (Value.int q.1), q.2)) (0, 0, 0) [.int (1 : Int32)] 247 rfl (ok0 hC) (ce_0 hC _) (ci := 6) rfl (fun r_ hr_ => c0n_X6_descantIn hC hr_) gL_turns_X6_descantIn rfl (by decide) (by decide) (n := 1) rfl (Nat.le_of_ble_eq_true rfl) (by decide) (by decide) rfl dL_turns_244 (fun r_244 => ?_)
                          refine sm_if_ne hG 311 250 rfl dL_turns_247 (by decide) ?_ ?_
                          · refine sm_iconst (x := (0 : Int32)) hG 312 rfl dL_turns_311 rfl ?_
                            exact sm_bret hG hT (by decide) dL_turns_312 rfl
                          · refine sm_aload_n hG 251 rfl dL_turns_250 rfl 0 rfl ?_
                            refine sm_iconst (x := (0 : Int32)) hG 252 rfl dL_turns_251 rfl ?_
                            refine sm_callV hG (fun (q : Int32 × mC) => (some (Value.int q.1), q.2)) (0, 0, 0) [.int (0 : Int32)] 255 rfl (ok0 hC) (ce_0 hC _) (ci := 6) rfl (fun r_ hr_ => c0n_X6_descantIn hC hr_) gL_turns_X6_descantIn rfl (by decide) (by decide) (n := 1) rfl (Nat.le_of_ble_eq_true rfl) (by decide) (by decide) rfl dL_turns_252 (fun r_252 => ?_)
                            refine sm_iconst (x := (2 : Int32)) hG 256 rfl dL_turns_255 rfl ?_
                            refine sm_icmp_ne hG 311 259 rfl dL_turns_256 (by decide) ?_ ?_
                            · refine sm_iconst (x := (0 : Int32)) hG 312 rfl dL_turns_311 rfl ?_
                              exact sm_bret hG hT (by decide) dL_turns_312 rfl
                            · refine sm_aload_n hG 260 rfl dL_turns_259 rfl 0 rfl ?_
                              refine sm_iconst (x := (0 : Int32)) hG 261 rfl dL_turns_260 rfl ?_
                              refine sm_callV hG (fun (q : Int32 × mC) => (some (Value.int q.1), q.2)) (0, 0, 0) [.int (0 : Int32)] 264 rfl (ok0 hC) (ce_0 hC _) (ci := 6) rfl (fun r_ hr_ => c0n_X6_shortfall hC hr_) gL_turns_X6_shortfall rfl (by decide) (by decide) (n := 1) rfl (Nat.le_of_ble_eq_true rfl) (by decide) (by decide) rfl dL_turns_261 (fun r_261 => ?_)
                              refine sm_iconst (x := (1 : Int32)) hG 265 rfl dL_turns_264 rfl ?_
                              refine sm_icmp_ne hG 311 268 rfl dL_turns_265 (by decide) ?_ ?_
                              · refine sm_iconst (x := (0 : Int32)) hG 312 rfl dL_turns_311 rfl ?_
                                exact sm_bret hG hT (by decide) dL_turns_312 rfl
                              · refine sm_aload_n hG 269 rfl dL_turns_268 rfl 0 rfl ?_
                                refine sm_iconst (x := (1 : Int32)) hG 270 rfl dL_turns_269 rfl ?_
                                refine sm_callV hG (fun (q : Int32 × mC) => (some (Value.int q.1), q.2)) (0, 0, 0) [.int (1 : Int32)] 273 rfl (ok0 hC) (ce_0 hC _) (ci := 6) rfl (fun r_ hr_ => c0n_X6_neededLine hC hr_) gL_turns_X6_neededLine rfl (by decide) (by decide) (n := 1) rfl (Nat.le_of_ble_eq_true rfl) (by decide) (by decide) rfl dL_turns_270 (fun r_270 => ?_)
                                refine sm_if_ne hG 311 276 rfl dL_turns_273 (by decide) ?_ ?_
                                · refine sm_iconst (x := (0 : Int32)) hG 312 rfl dL_turns_311 rfl ?_
                                  exact sm_bret hG hT (by decide) dL_turns_312 rfl
                                · refine sm_aload_n hG 277 rfl dL_turns_276 rfl 0 rfl ?_
                                  refine sm_iconst (x := (2 : Int32)) hG 278 rfl dL_turns_277 rfl ?_
                                  refine sm_callV hG (fun (q : Int32 × mC) => (some (Value.int q.1), q.2)) (0, 0, 0) [.int (2 : Int32)] 281 rfl (ok0 hC) (ce_0 hC _) (ci := 6) rfl (fun r_ hr_ => c0n_X6_passDays hC hr_) gL_turns_X6_passDays rfl (by decide) (by decide) (n := 1) rfl (Nat.le_of_ble_eq_true rfl) (by decide) (by decide) rfl dL_turns_278 (fun r_278 => ?_)
                                  refine sm_iconst (x := (2 : Int32)) hG 282 rfl dL_turns_281 rfl ?_
                                  refine sm_icmp_ne hG 311 285 rfl dL_turns_282 (by decide) ?_ ?_
                                  · refine sm_iconst (x := (0 : Int32)) hG 312 rfl dL_turns_311 rfl ?_
                                    exact sm_bret hG hT (by decide) dL_turns_312 rfl
                                  · refine sm_aload_n hG 286 rfl dL_turns_285 rfl 0 rfl ?_
                                    refine sm_iconst (x := (0 : Int32)) hG 287 rfl dL_turns_286 rfl ?_
                                    refine sm_callV hG (fun (q : Int32 × mC) => (some (Value.int q.1), q.2)) (0, 0, 0) [.int (0 : Int32)] 290 rfl (ok0 hC) (ce_0 hC _) (ci := 6) rfl (fun r_ hr_ => c0n_X6_descantsOf hC hr_) gL_turns_X6_descantsOf rfl (by decide) (by decide) (n := 1) rfl (Nat.le_of_ble_eq_true rfl) (by decide) (by decide) rfl dL_turns_287 (fun r_287 => ?_)
                                    refine sm_iconst (x := (2 : Int32)) hG 291 rfl dL_turns_290 rfl ?_
                                    refine sm_icmp_ne hG 311 294 rfl dL_turns_291 (by decide) ?_ ?_
                                    · refine sm_iconst (x := (0 : Int32)) hG 312 rfl dL_turns_311 rfl ?_
                                      exact sm_bret hG hT (by decide) dL_turns_312 rfl
                                    · refine sm_aload_n hG 295 rfl dL_turns_294 rfl 0 rfl ?_
                                      refine sm_bipush (x := (61 : Int32)) hG 297 rfl dL_turns_295 rfl ?_
                                      refine sm_bipush (x := (13 : Int32)) hG 299 rfl dL_turns_297 rfl ?_
                                      refine sm_iconst (x := (0 : Int32)) hG 300 rfl dL_turns_299 rfl ?_
                                      refine sm_iconst (x := (2 : Int32)) hG 301 rfl dL_turns_300 rfl ?_
                                      refine sm_callS hG (fun (q : Int32 × mC) => (some (Value.int q.1), q.2)) [.ref (Λ.2.2.2.1 (0, 0, 0)), .int (61 : Int32), .int (13 : Int32), .int (0 : Int32), .int (2 : Int32)] 304 rfl (fun r_ hr_ => c_L_accounts hC   hr_) gL_turns_L_accounts rfl (by decide) (by decide) (n := 5) rfl (Nat.le_of_ble_eq_true rfl) (by decide) (by decide) rfl dL_turns_301 (fun r_301 => ?_)
                                      refine sm_if_eq hG 311 307 rfl dL_turns_304 (by decide) ?_ ?_
                                      · refine sm_iconst (x := (0 : Int32)) hG 312 rfl dL_turns_311 rfl ?_
                                        exact sm_bret hG hT (by decide) dL_turns_312 rfl
                                      · refine sm_iconst (x := (1 : Int32)) hG 308 rfl dL_turns_307 rfl ?_
                                        refine sm_goto hG 312 dL_turns_308 (by decide) ?_
                                        exact sm_bret hG hT (by decide) dL_turns_312 rfl
      · refine sm_jn (fun (X121 : Int32 → Option (Int32 × mC)) => ∀ (s0_121 : Int32), Sm Γ Λ (753, 10921) 121 [(0, .ref (Λ.2.2.2.1 (0, 0, 0))), (1, .int x1_90)] [.int s0_121] v_90 (X121 s0_121)) (fun s0_121 => ?_) (fun j121 hj121 => ?_)
        · refine sm_istore_n hG 122 rfl dL_turns_121 rfl (jlt hN rfl) [(2, .int s0_121), (0, .ref (Λ.2.2.2.1 (0, 0, 0))), (1, .int x1_90)] rfl ?_
          refine sm_aload_n hG 123 rfl dL_turns_122 rfl 1 rfl ?_
          refine sm_iload_n hG 124 rfl dL_turns_123 rfl 2 rfl ?_
          refine sm_callV hG (fun (q : Int32 × mC) => (some (Value.int q.1), q.2)) (0, 0, 0) [.int x1_90] 127 rfl (ok0 hC) (ce_0 hC _) (ci := 6) rfl (fun r_ hr_ => c0n_X6_descantIn hC hr_) gL_turns_X6_descantIn rfl (by decide) (by decide) (n := 1) rfl (Nat.le_of_ble_eq_true rfl) (by decide) (by decide) rfl dL_turns_124 (fun r_124 => ?_)
          refine sm_iload_n hG 128 rfl dL_turns_127 rfl 0 rfl ?_
          refine sm_icmp_ne hG 150 131 rfl dL_turns_128 (by decide) ?_ ?_
          · refine sm_iconst (x := (0 : Int32)) hG 151 rfl dL_turns_150 rfl ?_
            exact sm_bret hG hT (by decide) dL_turns_151 rfl
          · refine sm_aload_n hG 132 rfl dL_turns_131 rfl 1 rfl ?_
            refine sm_iload_n hG 133 rfl dL_turns_132 rfl 2 rfl ?_
            refine sm_callV hG (fun (q : Int32 × mC) => (some (Value.int q.1), q.2)) (0, 0, 0) [.int x1_90] 136 rfl (ok0 hC) (ce_0 hC _) (ci := 6) rfl (fun r_ hr_ => c0n_X6_shortfall hC hr_) gL_turns_X6_shortfall rfl (by decide) (by decide) (n := 1) rfl (Nat.le_of_ble_eq_true rfl) (by decide) (by decide) rfl dL_turns_133 (fun r_133 => ?_)
            refine sm_if_ne hG 150 139 rfl dL_turns_136 (by decide) ?_ ?_
            · refine sm_iconst (x := (0 : Int32)) hG 151 rfl dL_turns_150 rfl ?_
              exact sm_bret hG hT (by decide) dL_turns_151 rfl
            · refine sm_aload_n hG 140 rfl dL_turns_139 rfl 1 rfl ?_
              refine sm_iload_n hG 141 rfl dL_turns_140 rfl 2 rfl ?_
              refine sm_iconst (x := (2 : Int32)) hG 142 rfl dL_turns_141 rfl ?_
              refine sm_iconst (x := (1 : Int32)) hG 143 rfl dL_turns_142 rfl ?_
              refine sm_iconst (x := (0 : Int32)) hG 144 rfl dL_turns_143 rfl ?_
              refine sm_callS hG (fun (q : Int32 × mC) => (some (Value.int q.1), q.2)) [.ref (Λ.2.2.2.1 (0, 0, 0)), .int x1_90, .int (2 : Int32), .int (1 : Int32), .int (0 : Int32)] 147 rfl (fun r_ hr_ => c_L_sits hC   hr_) gL_turns_L_sits rfl (by decide) (by decide) (n := 5) rfl (Nat.le_of_ble_eq_true rfl) (by decide) (by decide) rfl dL_turns_144 (fun r_144 => ?_)
              refine sm_if_ne hG 152 150 rfl dL_turns_147 (by decide) ?_ ?_
              · refine sm_iinc hG 155 rfl dL_turns_152 (j := 2) rfl rfl (jlt hN rfl) [(1, .int (x1_90 + (1 : Int32))), (2, .int s0_121), (0, .ref (Λ.2.2.2.1 (0, 0, 0)))] rfl ?_
                refine sm_goto hG 90 dL_turns_155 (by decide) ?_
                refine sm_loc [2, 0] [(0, .ref (Λ.2.2.2.1 (0, 0, 0))), (1, .int (x1_90 + (1 : Int32)))] rfl ?_
                exact hs90 _ _
              · refine sm_iconst (x := (0 : Int32)) hG 151 rfl dL_turns_150 rfl ?_
                exact sm_bret hG hT (by decide) dL_turns_151 rfl
        · refine sm_iconst (x := (4 : Int32)) hG 96 rfl dL_turns_95 rfl ?_
          refine sm_iload_n hG 97 rfl dL_turns_96 rfl 1 rfl ?_
          refine sm_isub hG 98 rfl dL_turns_97 ?_
          refine sm_iconst (x := (3 : Int32)) hG 99 rfl dL_turns_98 rfl ?_
          refine sm_irem hG 100 rfl dL_turns_99 (by decide) ?_
          refine sm_nmi (fun y99_1 => ?_)
          refine sm_if_ne hG 107 103 rfl dL_turns_100 (by decide) ?_ ?_
          · refine sm_iconst (x := (4 : Int32)) hG 108 rfl dL_turns_107 rfl ?_
            refine sm_iload_n hG 109 rfl dL_turns_108 rfl 1 rfl ?_
            refine sm_isub hG 110 rfl dL_turns_109 ?_
            refine sm_iconst (x := (3 : Int32)) hG 111 rfl dL_turns_110 rfl ?_
            refine sm_irem hG 112 rfl dL_turns_111 (by decide) ?_
            refine sm_nmi (fun y111_2 => ?_)
            refine sm_iconst (x := (1 : Int32)) hG 113 rfl dL_turns_112 rfl ?_
            refine sm_icmp_ne hG 120 116 rfl dL_turns_113 (by decide) ?_ ?_
            · refine sm_iconst (x := (2 : Int32)) hG 121 rfl dL_turns_120 rfl ?_
              exact hj121 _
            · refine sm_iconst (x := (0 : Int32)) hG 117 rfl dL_turns_116 rfl ?_
              refine sm_goto hG 121 dL_turns_117 (by decide) ?_
              exact hj121 _
          · refine sm_iconst (x := (1 : Int32)) hG 104 rfl dL_turns_103 rfl ?_
            refine sm_goto hG 121 dL_turns_104 (by decide) ?_
            exact hj121 _
    · refine sm_aload_n hG 54 rfl dL_turns_53 rfl 0 rfl ?_
      refine sm_bipush (x := (9 : Int32)) hG 56 rfl dL_turns_54 rfl ?_
      refine sm_iload_n hG 57 rfl dL_turns_56 rfl 1 rfl ?_
      refine sm_isub hG 58 rfl dL_turns_57 ?_
      refine sm_iconst (x := (1 : Int32)) hG 59 rfl dL_turns_58 rfl ?_
      refine sm_callV hG (fun (q : Int32 × mC) => (some (Value.int q.1), q.2)) (0, 0, 0) [.int ((9 : Int32) - x1_48), .int (1 : Int32)] 62 rfl (ok0 hC) (ce_0 hC _) (ci := 6) rfl (fun r_ hr_ => c0n_X6_announce hC hr_) gL_turns_X6_announce rfl (by decide) (by decide) (n := 2) rfl (Nat.le_of_ble_eq_true rfl) (by decide) (by decide) rfl dL_turns_59 (fun r_59 => ?_)
      refine sm_iload_n hG 63 rfl dL_turns_62 rfl 1 rfl ?_
      refine sm_icmp_ne hG 80 66 rfl dL_turns_63 (by decide) ?_ ?_
      · refine sm_iconst (x := (0 : Int32)) hG 81 rfl dL_turns_80 rfl ?_
        exact sm_bret hG hT (by decide) dL_turns_81 rfl
      · refine sm_aload_n hG 67 rfl dL_turns_66 rfl 0 rfl ?_
        refine sm_iload_n hG 68 rfl dL_turns_67 rfl 1 rfl ?_
        refine sm_iconst (x := (0 : Int32)) hG 69 rfl dL_turns_68 rfl ?_
        refine sm_iconst (x := (3 : Int32)) hG 70 rfl dL_turns_69 rfl ?_
        refine sm_iconst (x := (0 : Int32)) hG 71 rfl dL_turns_70 rfl ?_
        refine sm_bipush (x := (48 : Int32)) hG 73 rfl dL_turns_71 rfl ?_
        refine sm_callV hG (fun (q : Int32 × mC) => (some (Value.int q.1), q.2)) (0, 0, 0) [.int x1_48, .int (0 : Int32), .int (3 : Int32), .int (0 : Int32), .int (48 : Int32)] 76 rfl (ok0 hC) (ce_0 hC _) (ci := 6) rfl (fun r_ hr_ => c0n_X6_setLine hC hr_) gL_turns_X6_setLine rfl (by decide) (by decide) (n := 5) rfl (Nat.le_of_ble_eq_true rfl) (by decide) (by decide) rfl dL_turns_73 (fun r_73 => ?_)
        refine sm_iconst (x := (3 : Int32)) hG 77 rfl dL_turns_76 rfl ?_
        refine sm_icmp_eq hG 82 80 rfl dL_turns_77 (by decide) ?_ ?_
        · refine sm_iinc hG 85 rfl dL_turns_82 (j := 1) rfl rfl (jlt hN rfl) [(1, .int (x1_48 + (1 : Int32))), (0, .ref (Λ.2.2.2.1 (0, 0, 0)))] rfl ?_
          refine sm_goto hG 48 dL_turns_85 (by decide) ?_
          refine sm_loc [1, 0] [(0, .ref (Λ.2.2.2.1 (0, 0, 0))), (1, .int (x1_48 + (1 : Int32)))] rfl ?_
          exact hs48 _ _
        · refine sm_iconst (x := (0 : Int32)) hG 81 rfl dL_turns_80 rfl ?_
          exact sm_bret hG hT (by decide) dL_turns_81 rfl
  · refine sm_aload_n hG 16 rfl dL_turns_15 rfl 0 rfl ?_
    refine sm_bipush (x := (20 : Int32)) hG 18 rfl dL_turns_16 rfl ?_
    refine sm_iload_n hG 19 rfl dL_turns_18 rfl 1 rfl ?_
    refine sm_iconst (x := (2 : Int32)) hG 20 rfl dL_turns_19 rfl ?_
    refine sm_irem hG 21 rfl dL_turns_20 (by decide) ?_
    refine sm_iadd hG 22 rfl dL_turns_21 ?_
    refine sm_nmi (fun y21_3 => ?_)
    refine sm_sipush (x := (150 : Int32)) hG 25 rfl dL_turns_22 rfl ?_
    refine sm_iload_n hG 26 rfl dL_turns_25 rfl 1 rfl ?_
    refine sm_iadd hG 27 rfl dL_turns_26 ?_
    refine sm_iconst (x := (0 : Int32)) hG 28 rfl dL_turns_27 rfl ?_
    refine sm_bipush (x := (48 : Int32)) hG 30 rfl dL_turns_28 rfl ?_
    refine sm_iconst (x := (0 : Int32)) hG 31 rfl dL_turns_30 rfl ?_
    refine sm_callV hG (fun (q : Int32 × mC) => (some (Value.int q.1), q.2)) (0, 0, 0) [.int y21_3, .int ((150 : Int32) + x1_10), .int (0 : Int32), .int (48 : Int32), .int (0 : Int32)] 34 rfl (ok0 hC) (ce_0 hC _) (ci := 6) rfl (fun r_ hr_ => c0n_X6_register hC hr_) gL_turns_X6_register rfl (by decide) (by decide) (n := 5) rfl (Nat.le_of_ble_eq_true rfl) (by decide) (by decide) rfl dL_turns_31 (fun r_31 => ?_)
    refine sm_iload_n hG 35 rfl dL_turns_34 rfl 1 rfl ?_
    refine sm_icmp_eq hG 40 38 rfl dL_turns_35 (by decide) ?_ ?_
    · refine sm_iinc hG 43 rfl dL_turns_40 (j := 1) rfl rfl (jlt hN rfl) [(1, .int (x1_10 + (1 : Int32))), (0, .ref (Λ.2.2.2.1 (0, 0, 0)))] rfl ?_
      refine sm_goto hG 10 dL_turns_43 (by decide) ?_
      refine sm_loc [1, 0] [(0, .ref (Λ.2.2.2.1 (0, 0, 0))), (1, .int (x1_10 + (1 : Int32)))] rfl ?_
      exact hs10 _ _
    · refine sm_iconst (x := (0 : Int32)) hG 39 rfl dL_turns_38 rfl ?_
      exact sm_bret hG hT (by decide) dL_turns_39 rfl
abbrev rmL_limits : Room := { frames := 16, cells := 1512, slots := 15475, locals := 363 }
set_option maxRecDepth 100000 in
set_option maxHeartbeats 4000000 in
theorem cb_L_limits {Λ : jL kC} (hC : LC Λ) {l : Launch} (hfl : l.stackTraces = false) (hX : Xnc Λ) {v : mC} {Γ : jG (Int32 × mC)} (hG : jOk Γ Λ cL_limits "ChoirRegisterLaw" wsL_limits rmL_limits) (hT : jRt Γ Λ rmL_limits (some .boolean) (fun (q : Int32 × mC) => (some (Value.int q.1), q.2))) (hN : Γ.2.1 = 2) (hl : Γ.1.2.1 = l) : Sm Γ Λ (753, 10921) 8 [(0, .ref (Λ.2.2.2.1 (0, 0, 0)))] [] v (b_L_limits v) := by
  subst hl
  unfold b_L_limits
  refine sm_iconst (x := (0 : Int32)) hG 9 rfl dL_limits_8 rfl ?_
  refine sm_istore_n hG 10 rfl dL_limits_9 rfl (jlt hN rfl) [(1, .int (0 : Int32)), (0, .ref (Λ.2.2.2.1 (0, 0, 0)))] rfl ?_
  refine sm_loc [1, 0] [(0, .ref (Λ.2.2.2.1 (0, 0, 0))), (1, .int (0 : Int32))] rfl ?_
  refine lp_ind (fun (X10 : Int32 → mC → Option (Int32 × mC)) => ∀ (x1_10 : Int32) (v_10 : mC), Sm Γ Λ (753, 10921) 10 [(0, .ref (Λ.2.2.2.1 (0, 0, 0))), (1, .int x1_10)] [] v_10 (X10 x1_10 v_10)) (fun _ _ => sm_none) (fun self10 hs10 x1_10 v_10 => ?_) 8192 _ _
  refine sm_iload_n hG 11 rfl dL_limits_10 rfl 1 rfl ?_
  refine sm_iconst (x := (3 : Int32)) hG 12 rfl dL_limits_11 rfl ?_
  refine sm_icmp_ge hG 54 15 rfl dL_limits_12 (by decide) ?_ ?_
  · refine sm_aload_n hG 55 rfl dL_limits_54 rfl 0 rfl ?_
    refine sm_iconst (x := (1 : Int32)) hG 56 rfl dL_limits_55 rfl ?_
    refine sm_iconst (x := (0 : Int32)) hG 57 rfl dL_limits_56 rfl ?_
    refine sm_sipush (x := (150 : Int32)) hG 60 rfl dL_limits_57 rfl ?_
    refine sm_bipush (x := (40 : Int32)) hG 62 rfl dL_limits_60 rfl ?_
    refine sm_iconst (x := (5 : Int32)) hG 63 rfl dL_limits_62 rfl ?_
    refine sm_hcallS hG [.ref (Λ.2.2.2.1 (0, 0, 0)), .int (1 : Int32), .int (0 : Int32), .int (150 : Int32), .int (40 : Int32), .int (5 : Int32)] 66 rfl (fun r_ hr_ => c_L_borrowed hC hfl hX hr_) gL_limits_L_borrowed rfl (by decide) (by decide) (n := 6) rfl (Nat.le_of_ble_eq_true rfl) (754, 10927) ⟨rfl, rfl⟩ (by decide) rfl dL_limits_63 (fun r_63 => ?_)
    refine sm_sipush (x := (-2013 : Int32)) hG 69 rfl dL_limits_66 rfl ?_
    refine sm_icmp_ne hG 137 72 rfl dL_limits_69 (by decide) ?_ ?_
    · refine sm_iconst (x := (0 : Int32)) hG 138 rfl dL_limits_137 rfl ?_
      exact sm_bret hG hT (by decide) dL_limits_138 rfl
    · refine sm_aload_n hG 73 rfl dL_limits_72 rfl 0 rfl ?_
      refine sm_bipush (x := (70 : Int32)) hG 75 rfl dL_limits_73 rfl ?_
      refine sm_sipush (x := (210 : Int32)) hG 78 rfl dL_limits_75 rfl ?_
      refine sm_bipush (x := (48 : Int32)) hG 80 rfl dL_limits_78 rfl ?_
      refine sm_bipush (x := (48 : Int32)) hG 82 rfl dL_limits_80 rfl ?_
      refine sm_bipush (x := (17 : Int32)) hG 84 rfl dL_limits_82 rfl ?_
      refine sm_callV hG (fun (q : Int32 × mC) => (some (Value.int q.1), q.2)) (0, 0, 0) [.int (70 : Int32), .int (210 : Int32), .int (48 : Int32), .int (48 : Int32), .int (17 : Int32)] 87 rfl (ok0 hC) (ce_0 hC _) (ci := 6) rfl (fun r_ hr_ => c0n_X6_register hC hr_) gL_limits_X6_register rfl (by decide) (by decide) (n := 5) rfl (Nat.le_of_ble_eq_true rfl) (by decide) (by decide) rfl dL_limits_84 (fun r_84 => ?_)
      refine sm_iconst (x := (3 : Int32)) hG 88 rfl dL_limits_87 rfl ?_
      refine sm_icmp_ne hG 137 91 rfl dL_limits_88 (by decide) ?_ ?_
      · refine sm_iconst (x := (0 : Int32)) hG 138 rfl dL_limits_137 rfl ?_
        exact sm_bret hG hT (by decide) dL_limits_138 rfl
      · refine sm_aload_n hG 92 rfl dL_limits_91 rfl 0 rfl ?_
        refine sm_iconst (x := (3 : Int32)) hG 93 rfl dL_limits_92 rfl ?_
        refine sm_callV hG (fun (q : Int32 × mC) => (some (Value.int q.1), q.2)) (0, 0, 0) [.int (3 : Int32)] 96 rfl (ok0 hC) (ce_0 hC _) (ci := 6) rfl (fun r_ hr_ => c0n_X6_breakDayOf hC hr_) gL_limits_X6_breakDayOf rfl (by decide) (by decide) (n := 1) rfl (Nat.le_of_ble_eq_true rfl) (by decide) (by decide) rfl dL_limits_93 (fun r_93 => ?_)
        refine sm_iconst (x := (-1 : Int32)) hG 97 rfl dL_limits_96 rfl ?_
        refine sm_icmp_ne hG 137 100 rfl dL_limits_97 (by decide) ?_ ?_
        · refine sm_iconst (x := (0 : Int32)) hG 138 rfl dL_limits_137 rfl ?_
          exact sm_bret hG hT (by decide) dL_limits_138 rfl
        · refine sm_aload_n hG 101 rfl dL_limits_100 rfl 0 rfl ?_
          refine sm_iconst (x := (3 : Int32)) hG 102 rfl dL_limits_101 rfl ?_
          refine sm_iconst (x := (1 : Int32)) hG 103 rfl dL_limits_102 rfl ?_
          refine sm_iconst (x := (1 : Int32)) hG 104 rfl dL_limits_103 rfl ?_
          refine sm_callV hG (fun (q : Int32 × mC) => (some (Value.int q.1), q.2)) (0, 0, 0) [.int (3 : Int32), .int (1 : Int32), .int (1 : Int32)] 107 rfl (ok0 hC) (ce_0 hC _) (ci := 6) rfl (fun r_ hr_ => c0n_X6_lend hC hr_) gL_limits_X6_lend rfl (by decide) (by decide) (n := 3) rfl (Nat.le_of_ble_eq_true rfl) (by decide) (by decide) rfl dL_limits_104 (fun r_104 => ?_)
          refine sm_iconst (x := (1 : Int32)) hG 108 rfl dL_limits_107 rfl ?_
          refine sm_icmp_ne hG 137 111 rfl dL_limits_108 (by decide) ?_ ?_
          · refine sm_iconst (x := (0 : Int32)) hG 138 rfl dL_limits_137 rfl ?_
            exact sm_bret hG hT (by decide) dL_limits_138 rfl
          · refine sm_aload_n hG 112 rfl dL_limits_111 rfl 0 rfl ?_
            refine sm_iconst (x := (1 : Int32)) hG 113 rfl dL_limits_112 rfl ?_
            refine sm_callV hG (fun (q : Int32 × mC) => (some (Value.int q.1), q.2)) (0, 0, 0) [.int (1 : Int32)] 116 rfl (ok0 hC) (ce_0 hC _) (ci := 6) rfl (fun r_ hr_ => c0n_X6_favoursOf hC hr_) gL_limits_X6_favoursOf rfl (by decide) (by decide) (n := 1) rfl (Nat.le_of_ble_eq_true rfl) (by decide) (by decide) rfl dL_limits_113 (fun r_113 => ?_)
            refine sm_bipush (x := (-2 : Int32)) hG 118 rfl dL_limits_116 rfl ?_
            refine sm_icmp_ne hG 137 121 rfl dL_limits_118 (by decide) ?_ ?_
            · refine sm_iconst (x := (0 : Int32)) hG 138 rfl dL_limits_137 rfl ?_
              exact sm_bret hG hT (by decide) dL_limits_138 rfl
            · refine sm_aload_n hG 122 rfl dL_limits_121 rfl 0 rfl ?_
              refine sm_iconst (x := (1 : Int32)) hG 123 rfl dL_limits_122 rfl ?_
              refine sm_iconst (x := (0 : Int32)) hG 124 rfl dL_limits_123 rfl ?_
              refine sm_sipush (x := (210 : Int32)) hG 127 rfl dL_limits_124 rfl ?_
              refine sm_iconst (x := (0 : Int32)) hG 128 rfl dL_limits_127 rfl ?_
              refine sm_iconst (x := (0 : Int32)) hG 129 rfl dL_limits_128 rfl ?_
              refine sm_iconst (x := (1 : Int32)) hG 130 rfl dL_limits_129 rfl ?_
              refine sm_callV hG (fun (q : Int32 × mC) => (some (Value.int q.1), q.2)) (0, 0, 0) [.int (1 : Int32), .int (0 : Int32), .int (210 : Int32), .int (0 : Int32), .int (0 : Int32), .int (1 : Int32)] 133 rfl (ok0 hC) (ce_0 hC _) (ci := 6) rfl (fun r_ hr_ => c0n_X6_borrow hC hr_) gL_limits_X6_borrow rfl (by decide) (by decide) (n := 6) rfl (Nat.le_of_ble_eq_true rfl) (by decide) (by decide) rfl dL_limits_130 (fun r_130 => ?_)
              refine sm_iconst (x := (4 : Int32)) hG 134 rfl dL_limits_133 rfl ?_
              refine sm_icmp_eq hG 139 137 rfl dL_limits_134 (by decide) ?_ ?_
              · refine sm_iconst (x := (5 : Int32)) hG 140 rfl dL_limits_139 rfl ?_
                refine sm_istore_n hG 141 rfl dL_limits_140 rfl (jlt hN rfl) [(1, .int (5 : Int32)), (0, .ref (Λ.2.2.2.1 (0, 0, 0)))] rfl ?_
                refine sm_loc [1, 0] [(0, .ref (Λ.2.2.2.1 (0, 0, 0))), (1, .int (5 : Int32))] rfl ?_
                refine lp_ind (fun (X141 : Int32 → mC → Option (Int32 × mC)) => ∀ (x1_141 : Int32) (v_141 : mC), Sm Γ Λ (754, 10927) 141 [(0, .ref (Λ.2.2.2.1 (0, 0, 0))), (1, .int x1_141)] [] v_141 (X141 x1_141 v_141)) (fun _ _ => sm_none) (fun self141 hs141 x1_141 v_141 => ?_) 8192 _ _
                refine sm_iload_n hG 142 rfl dL_limits_141 rfl 1 rfl ?_
                refine sm_bipush (x := (30 : Int32)) hG 144 rfl dL_limits_142 rfl ?_
                refine sm_icmp_ge hG 185 147 rfl dL_limits_144 (by decide) ?_ ?_
                · refine sm_aload_n hG 186 rfl dL_limits_185 rfl 0 rfl ?_
                  refine sm_bipush (x := (7 : Int32)) hG 188 rfl dL_limits_186 rfl ?_
                  refine sm_bipush (x := (90 : Int32)) hG 190 rfl dL_limits_188 rfl ?_
                  refine sm_iconst (x := (0 : Int32)) hG 191 rfl dL_limits_190 rfl ?_
                  refine sm_iconst (x := (0 : Int32)) hG 192 rfl dL_limits_191 rfl ?_
                  refine sm_iconst (x := (0 : Int32)) hG 193 rfl dL_limits_192 rfl ?_
                  refine sm_hcallS hG [.ref (Λ.2.2.2.1 (0, 0, 0)), .int (7 : Int32), .int (90 : Int32), .int (0 : Int32), .int (0 : Int32), .int (0 : Int32)] 196 rfl (fun r_ hr_ => c_L_registered hC hfl hX hr_) gL_limits_L_registered rfl (by decide) (by decide) (n := 6) rfl (Nat.le_of_ble_eq_true rfl) (755, 10933) ⟨rfl, rfl⟩ (by decide) rfl dL_limits_193 (fun r_193 => ?_)
                  refine sm_sipush (x := (-2013 : Int32)) hG 199 rfl dL_limits_196 rfl ?_
                  refine sm_icmp_ne hG 220 202 rfl dL_limits_199 (by decide) ?_ ?_
                  · refine sm_iconst (x := (0 : Int32)) hG 221 rfl dL_limits_220 rfl ?_
                    exact sm_bret hG hT (by decide) dL_limits_221 rfl
                  · refine sm_aload_n hG 203 rfl dL_limits_202 rfl 0 rfl ?_
                    refine sm_iconst (x := (0 : Int32)) hG 204 rfl dL_limits_203 rfl ?_
                    refine sm_iconst (x := (0 : Int32)) hG 205 rfl dL_limits_204 rfl ?_
                    refine sm_sipush (x := (150 : Int32)) hG 208 rfl dL_limits_205 rfl ?_
                    refine sm_bipush (x := (40 : Int32)) hG 210 rfl dL_limits_208 rfl ?_
                    refine sm_iconst (x := (5 : Int32)) hG 211 rfl dL_limits_210 rfl ?_
                    refine sm_hcallS hG [.ref (Λ.2.2.2.1 (0, 0, 0)), .int (0 : Int32), .int (0 : Int32), .int (150 : Int32), .int (40 : Int32), .int (5 : Int32)] 214 rfl (fun r_ hr_ => c_L_borrowed hC hfl hX hr_) gL_limits_L_borrowed rfl (by decide) (by decide) (n := 6) rfl (Nat.le_of_ble_eq_true rfl) (756, 10939) ⟨rfl, rfl⟩ (by decide) rfl dL_limits_211 (fun r_211 => ?_)
                    refine sm_sipush (x := (-2013 : Int32)) hG 217 rfl dL_limits_214 rfl ?_
                    refine sm_icmp_eq hG 222 220 rfl dL_limits_217 (by decide) ?_ ?_
                    · refine sm_iconst (x := (0 : Int32)) hG 223 rfl dL_limits_222 rfl ?_
                      refine sm_istore_n hG 224 rfl dL_limits_223 rfl (jlt hN rfl) [(1, .int (0 : Int32)), (0, .ref (Λ.2.2.2.1 (0, 0, 0)))] rfl ?_
                      refine sm_loc [1, 0] [(0, .ref (Λ.2.2.2.1 (0, 0, 0))), (1, .int (0 : Int32))] rfl ?_
                      refine lp_ind (fun (X224 : Int32 → mC → Option (Int32 × mC)) => ∀ (x1_224 : Int32) (v_224 : mC), Sm Γ Λ (756, 10939) 224 [(0, .ref (Λ.2.2.2.1 (0, 0, 0))), (1, .int x1_224)] [] v_224 (X224 x1_224 v_224)) (fun _ _ => sm_none) (fun self224 hs224 x1_224 v_224 => ?_) 8192 _ _
                      refine sm_iload_n hG 225 rfl dL_limits_224 rfl 1 rfl ?_
                      refine sm_bipush (x := (60 : Int32)) hG 227 rfl dL_limits_225 rfl ?_
                      refine sm_icmp_ge hG 265 230 rfl dL_limits_227 (by decide) ?_ ?_
                      · refine sm_aload_n hG 266 rfl dL_limits_265 rfl 0 rfl ?_
                        refine sm_iconst (x := (4 : Int32)) hG 267 rfl dL_limits_266 rfl ?_
                        refine sm_bipush (x := (6 : Int32)) hG 269 rfl dL_limits_267 rfl ?_
                        refine sm_sipush (x := (9999 : Int32)) hG 272 rfl dL_limits_269 rfl ?_
                        refine sm_sipush (x := (10059 : Int32)) hG 275 rfl dL_limits_272 rfl ?_
                        refine sm_hcallS hG [.ref (Λ.2.2.2.1 (0, 0, 0)), .int (4 : Int32), .int (6 : Int32), .int (9999 : Int32), .int (10059 : Int32)] 278 rfl (fun r_ hr_ => c_L_call hC hfl hX hr_) gL_limits_L_call rfl (by decide) (by decide) (n := 5) rfl (Nat.le_of_ble_eq_true rfl) (760, 10963) ⟨rfl, rfl⟩ (by decide) rfl dL_limits_275 (fun r_275 => ?_)
                        refine sm_sipush (x := (-2013 : Int32)) hG 281 rfl dL_limits_278 rfl ?_
                        refine sm_icmp_eq hG 286 284 rfl dL_limits_281 (by decide) ?_ ?_
                        · refine sm_iconst (x := (0 : Int32)) hG 287 rfl dL_limits_286 rfl ?_
                          refine sm_istore_n hG 288 rfl dL_limits_287 rfl (jlt hN rfl) [(1, .int (0 : Int32)), (0, .ref (Λ.2.2.2.1 (0, 0, 0)))] rfl ?_
                          refine sm_loc [1, 0] [(0, .ref (Λ.2.2.2.1 (0, 0, 0))), (1, .int (0 : Int32))] rfl ?_
                          refine lp_ind (fun (X288 : Int32 → mC → Option (Int32 × mC)) => ∀ (x1_288 : Int32) (v_288 : mC), Sm Γ Λ (760, 10963) 288 [(0, .ref (Λ.2.2.2.1 (0, 0, 0))), (1, .int x1_288)] [] v_288 (X288 x1_288 v_288)) (fun _ _ => sm_none) (fun self288 hs288 x1_288 v_288 => ?_) 8192 _ _
                          refine sm_iload_n hG 289 rfl dL_limits_288 rfl 1 rfl ?_
                          refine sm_bipush (x := (20 : Int32)) hG 291 rfl dL_limits_289 rfl ?_
                          refine sm_icmp_ge hG 316 294 rfl dL_limits_291 (by decide) ?_ ?_
                          · refine sm_aload_n hG 317 rfl dL_limits_316 rfl 0 rfl ?_
                            refine sm_iconst (x := (5 : Int32)) hG 318 rfl dL_limits_317 rfl ?_
                            refine sm_bipush (x := (50 : Int32)) hG 320 rfl dL_limits_318 rfl ?_
                            refine sm_iconst (x := (1 : Int32)) hG 321 rfl dL_limits_320 rfl ?_
                            refine sm_iconst (x := (0 : Int32)) hG 322 rfl dL_limits_321 rfl ?_
                            refine sm_hcallS hG [.ref (Λ.2.2.2.1 (0, 0, 0)), .int (5 : Int32), .int (50 : Int32), .int (1 : Int32), .int (0 : Int32)] 325 rfl (fun r_ hr_ => c_L_call hC hfl hX hr_) gL_limits_L_call rfl (by decide) (by decide) (n := 5) rfl (Nat.le_of_ble_eq_true rfl) (764, 10987) ⟨rfl, rfl⟩ (by decide) rfl dL_limits_322 (fun r_322 => ?_)
                            refine sm_sipush (x := (-2013 : Int32)) hG 328 rfl dL_limits_325 rfl ?_
                            refine sm_icmp_ne hG 342 331 rfl dL_limits_328 (by decide) ?_ ?_
                            · refine sm_iconst (x := (0 : Int32)) hG 343 rfl dL_limits_342 rfl ?_
                              exact sm_bret hG hT (by decide) dL_limits_343 rfl
                            · refine sm_aload_n hG 332 rfl dL_limits_331 rfl 0 rfl ?_
                              refine sm_bipush (x := (29 : Int32)) hG 334 rfl dL_limits_332 rfl ?_
                              refine sm_callV hG (fun (q : Int32 × mC) => (some (Value.int q.1), q.2)) (0, 0, 0) [.int (29 : Int32)] 337 rfl (ok0 hC) (ce_0 hC _) (ci := 6) rfl (fun r_ hr_ => c0n_X6_leave hC hr_) gL_limits_X6_leave rfl (by decide) (by decide) (n := 1) rfl (Nat.le_of_ble_eq_true rfl) (by decide) (by decide) rfl dL_limits_334 (fun r_334 => ?_)
                              refine sm_bipush (x := (29 : Int32)) hG 339 rfl dL_limits_337 rfl ?_
                              refine sm_icmp_eq hG 344 342 rfl dL_limits_339 (by decide) ?_ ?_
                              · refine sm_iconst (x := (0 : Int32)) hG 345 rfl dL_limits_344 rfl ?_
                                refine sm_istore_n hG 346 rfl dL_limits_345 rfl (jlt hN rfl) [(1, .int (0 : Int32)), (0, .ref (Λ.2.2.2.1 (0, 0, 0)))] rfl ?_
                                refine sm_loc [1, 0] [(0, .ref (Λ.2.2.2.1 (0, 0, 0))), (1, .int (0 : Int32))] rfl ?_
                                refine lp_ind (fun (X346 : Int32 → mC → Option (Int32 × mC)) => ∀ (x1_346 : Int32) (v_346 : mC), Sm Γ Λ (764, 10987) 346 [(0, .ref (Λ.2.2.2.1 (0, 0, 0))), (1, .int x1_346)] [] v_346 (X346 x1_346 v_346)) (fun _ _ => sm_none) (fun self346 hs346 x1_346 v_346 => ?_) 8192 _ _
                                refine sm_iload_n hG 347 rfl dL_limits_346 rfl 1 rfl ?_
                                refine sm_bipush (x := (100 : Int32)) hG 349 rfl dL_limits_347 rfl ?_
                                refine sm_icmp_ge hG 369 352 rfl dL_limits_349 (by decide) ?_ ?_
                                · refine sm_aload_n hG 370 rfl dL_limits_369 rfl 0 rfl ?_
                                  refine sm_bipush (x := (98 : Int32)) hG 372 rfl dL_limits_370 rfl ?_
                                  refine sm_callV hG (fun (q : Int32 × mC) => (some (Value.int q.1), q.2)) (0, 0, 0) [.int (98 : Int32)] 375 rfl (ok0 hC) (ce_0 hC _) (ci := 6) rfl (fun r_ hr_ => c0n_X6_passDays hC hr_) gL_limits_X6_passDays rfl (by decide) (by decide) (n := 1) rfl (Nat.le_of_ble_eq_true rfl) (by decide) (by decide) rfl dL_limits_372 (fun r_372 => ?_)
                                  refine sm_bipush (x := (19 : Int32)) hG 377 rfl dL_limits_375 rfl ?_
                                  refine sm_icmp_ne hG 470 380 rfl dL_limits_377 (by decide) ?_ ?_
                                  · refine sm_iconst (x := (0 : Int32)) hG 471 rfl dL_limits_470 rfl ?_
                                    exact sm_bret hG hT (by decide) dL_limits_471 rfl
                                  · refine sm_aload_n hG 381 rfl dL_limits_380 rfl 0 rfl ?_
                                    refine sm_bipush (x := (7 : Int32)) hG 383 rfl dL_limits_381 rfl ?_
                                    refine sm_iconst (x := (2 : Int32)) hG 384 rfl dL_limits_383 rfl ?_
                                    refine sm_iconst (x := (0 : Int32)) hG 385 rfl dL_limits_384 rfl ?_
                                    refine sm_iconst (x := (0 : Int32)) hG 386 rfl dL_limits_385 rfl ?_
                                    refine sm_hcallS hG [.ref (Λ.2.2.2.1 (0, 0, 0)), .int (7 : Int32), .int (2 : Int32), .int (0 : Int32), .int (0 : Int32)] 389 rfl (fun r_ hr_ => c_L_call hC hfl hX hr_) gL_limits_L_call rfl (by decide) (by decide) (n := 5) rfl (Nat.le_of_ble_eq_true rfl) (768, 11011) ⟨rfl, rfl⟩ (by decide) rfl dL_limits_386 (fun r_386 => ?_)
                                    refine sm_sipush (x := (-2013 : Int32)) hG 392 rfl dL_limits_389 rfl ?_
                                    refine sm_icmp_ne hG 470 395 rfl dL_limits_392 (by decide) ?_ ?_
                                    · refine sm_iconst (x := (0 : Int32)) hG 471 rfl dL_limits_470 rfl ?_
                                      exact sm_bret hG hT (by decide) dL_limits_471 rfl
                                    · refine sm_aload_n hG 396 rfl dL_limits_395 rfl 0 rfl ?_
                                      refine sm_iconst (x := (1 : Int32)) hG 397 rfl dL_limits_396 rfl ?_
                                      refine sm_callV hG (fun (q : Int32 × mC) => (some (Value.int q.1), q.2)) (0, 0, 0) [.int (1 : Int32)] 400 rfl (ok0 hC) (ce_0 hC _) (ci := 6) rfl (fun r_ hr_ => c0n_X6_passDays hC hr_) gL_limits_X6_passDays rfl (by decide) (by decide) (n := 1) rfl (Nat.le_of_ble_eq_true rfl) (by decide) (by decide) rfl dL_limits_397 (fun r_397 => ?_)
                                      refine sm_iconst (x := (1 : Int32)) hG 401 rfl dL_limits_400 rfl ?_
                                      refine sm_icmp_ne hG 470 404 rfl dL_limits_401 (by decide) ?_ ?_
                                      · refine sm_iconst (x := (0 : Int32)) hG 471 rfl dL_limits_470 rfl ?_
                                        exact sm_bret hG hT (by decide) dL_limits_471 rfl
                                      · refine sm_aload_n hG 405 rfl dL_limits_404 rfl 0 rfl ?_
                                        refine sm_callV hG (fun (q : Int32) => (some (Value.int q), r_397.2)) (0, 0, 0) [] 408 rfl (ok0 hC) (ce_0 hC _) (ci := 6) rfl (fun r_ hr_ => c_X6_day hC   hr_) gL_limits_X6_day rfl (by decide) (by decide) (n := 0) rfl (Nat.le_of_ble_eq_true rfl) (by decide) (by decide) rfl dL_limits_405 (fun r_405 => ?_)
                                        refine sm_sipush (x := (9999 : Int32)) hG 411 rfl dL_limits_408 rfl ?_
                                        refine sm_icmp_ne hG 470 414 rfl dL_limits_411 (by decide) ?_ ?_
                                        · refine sm_iconst (x := (0 : Int32)) hG 471 rfl dL_limits_470 rfl ?_
                                          exact sm_bret hG hT (by decide) dL_limits_471 rfl
                                        · refine sm_aload_n hG 415 rfl dL_limits_414 rfl 0 rfl ?_
                                          refine sm_bipush (x := (7 : Int32)) hG 417 rfl dL_limits_415 rfl ?_
                                          refine sm_iconst (x := (1 : Int32)) hG 418 rfl dL_limits_417 rfl ?_
                                          refine sm_iconst (x := (0 : Int32)) hG 419 rfl dL_limits_418 rfl ?_
                                          refine sm_iconst (x := (0 : Int32)) hG 420 rfl dL_limits_419 rfl ?_
                                          refine sm_hcallS hG [.ref (Λ.2.2.2.1 (0, 0, 0)), .int (7 : Int32), .int (1 : Int32), .int (0 : Int32), .int (0 : Int32)] 423 rfl (fun r_ hr_ => c_L_call hC hfl hX hr_) gL_limits_L_call rfl (by decide) (by decide) (n := 5) rfl (Nat.le_of_ble_eq_true rfl) (772, 11035) ⟨rfl, rfl⟩ (by decide) rfl dL_limits_420 (fun r_420 => ?_)
                                          refine sm_sipush (x := (-2013 : Int32)) hG 426 rfl dL_limits_423 rfl ?_
                                          refine sm_icmp_ne hG 470 429 rfl dL_limits_426 (by decide) ?_ ?_
                                          · refine sm_iconst (x := (0 : Int32)) hG 471 rfl dL_limits_470 rfl ?_
                                            exact sm_bret hG hT (by decide) dL_limits_471 rfl
                                          · refine sm_aload_n hG 430 rfl dL_limits_429 rfl 0 rfl ?_
                                            refine sm_bipush (x := (52 : Int32)) hG 432 rfl dL_limits_430 rfl ?_
                                            refine sm_iconst (x := (0 : Int32)) hG 433 rfl dL_limits_432 rfl ?_
                                            refine sm_iconst (x := (0 : Int32)) hG 434 rfl dL_limits_433 rfl ?_
                                            refine sm_iconst (x := (0 : Int32)) hG 435 rfl dL_limits_434 rfl ?_
                                            refine sm_callS hG (fun (q : Int32 × mC) => (some (Value.int q.1), q.2)) [.ref (Λ.2.2.2.1 (0, 0, 0)), .int (52 : Int32), .int (0 : Int32), .int (0 : Int32), .int (0 : Int32)] 438 rfl (fun r_ hr_ => c_L_accounts hC   hr_) gL_limits_L_accounts rfl (by decide) (by decide) (n := 5) rfl (Nat.le_of_ble_eq_true rfl) (by decide) (by decide) rfl dL_limits_435 (fun r_435 => ?_)
                                            refine sm_if_eq hG 470 441 rfl dL_limits_438 (by decide) ?_ ?_
                                            · refine sm_iconst (x := (0 : Int32)) hG 471 rfl dL_limits_470 rfl ?_
                                              exact sm_bret hG hT (by decide) dL_limits_471 rfl
                                            · refine sm_aload_n hG 442 rfl dL_limits_441 rfl 0 rfl ?_
                                              refine sm_iconst (x := (5 : Int32)) hG 443 rfl dL_limits_442 rfl ?_
                                              refine sm_callV hG (fun (q : Int32 × mC) => (some (Value.int q.1), q.2)) (0, 0, 0) [.int (5 : Int32)] 446 rfl (ok0 hC) (ce_0 hC _) (ci := 6) rfl (fun r_ hr_ => c0n_X6_ageOf hC hr_) gL_limits_X6_ageOf rfl (by decide) (by decide) (n := 1) rfl (Nat.le_of_ble_eq_true rfl) (by decide) (by decide) rfl dL_limits_443 (fun r_443 => ?_)
                                              refine sm_bipush (x := (34 : Int32)) hG 448 rfl dL_limits_446 rfl ?_
                                              refine sm_icmp_ne hG 470 451 rfl dL_limits_448 (by decide) ?_ ?_
                                              · refine sm_iconst (x := (0 : Int32)) hG 471 rfl dL_limits_470 rfl ?_
                                                exact sm_bret hG hT (by decide) dL_limits_471 rfl
                                              · refine sm_aload_n hG 452 rfl dL_limits_451 rfl 0 rfl ?_
                                                refine sm_iconst (x := (0 : Int32)) hG 453 rfl dL_limits_452 rfl ?_
                                                refine sm_callV hG (fun (q : Int32 × mC) => (some (Value.int q.1), q.2)) (0, 0, 0) [.int (0 : Int32)] 456 rfl (ok0 hC) (ce_0 hC _) (ci := 6) rfl (fun r_ hr_ => c0n_X6_isInChoir hC hr_) gL_limits_X6_isInChoir rfl (by decide) (by decide) (n := 1) rfl (Nat.le_of_ble_eq_true rfl) (by decide) (by decide) rfl dL_limits_453 (fun r_453 => ?_)
                                                refine sm_if_ne hG 470 459 rfl dL_limits_456 (by decide) ?_ ?_
                                                · refine sm_iconst (x := (0 : Int32)) hG 471 rfl dL_limits_470 rfl ?_
                                                  exact sm_bret hG hT (by decide) dL_limits_471 rfl
                                                · refine sm_aload_n hG 460 rfl dL_limits_459 rfl 0 rfl ?_
                                                  refine sm_callS2 hG (fun (q : Int32 × mC) => (some (Value.int q.1), q.2)) [.ref (Λ.2.2.2.1 (0, 0, 0))] 463 rfl (fun r_ hr_ => c_L_refused hC  hfl hX hr_) gL_limits_L_refused rfl (by decide) (by decide) (n := 1) rfl (Nat.le_of_ble_eq_true rfl) (1512, 15475) ⟨rfl, rfl⟩ (by decide) rfl dL_limits_460 (fun r_460 => ?_)
                                                  refine sm_if_eq hG 470 466 rfl dL_limits_463 (by decide) ?_ ?_
                                                  · refine sm_iconst (x := (0 : Int32)) hG 471 rfl dL_limits_470 rfl ?_
                                                    exact sm_bret hG hT (by decide) dL_limits_471 rfl
                                                  · refine sm_iconst (x := (1 : Int32)) hG 467 rfl dL_limits_466 rfl ?_
                                                    refine sm_goto hG 471 dL_limits_467 (by decide) ?_
                                                    exact sm_bret hG hT (by decide) dL_limits_471 rfl
                                · refine sm_aload_n hG 353 rfl dL_limits_352 rfl 0 rfl ?_
                                  refine sm_bipush (x := (99 : Int32)) hG 355 rfl dL_limits_353 rfl ?_
                                  refine sm_callV hG (fun (q : Int32 × mC) => (some (Value.int q.1), q.2)) (0, 0, 0) [.int (99 : Int32)] 358 rfl (ok0 hC) (ce_0 hC _) (ci := 6) rfl (fun r_ hr_ => c0n_X6_passDays hC hr_) gL_limits_X6_passDays rfl (by decide) (by decide) (n := 1) rfl (Nat.le_of_ble_eq_true rfl) (by decide) (by decide) rfl dL_limits_355 (fun r_355 => ?_)
                                  refine sm_if_eq hG 363 361 rfl dL_limits_358 (by decide) ?_ ?_
                                  · refine sm_iinc hG 366 rfl dL_limits_363 (j := 1) rfl rfl (jlt hN rfl) [(1, .int (x1_346 + (1 : Int32))), (0, .ref (Λ.2.2.2.1 (0, 0, 0)))] rfl ?_
                                    refine sm_goto hG 346 dL_limits_366 (by decide) ?_
                                    refine sm_loc [1, 0] [(0, .ref (Λ.2.2.2.1 (0, 0, 0))), (1, .int (x1_346 + (1 : Int32)))] rfl ?_
                                    exact hs346 _ _
                                  · refine sm_iconst (x := (0 : Int32)) hG 362 rfl dL_limits_361 rfl ?_
                                    exact sm_bret hG hT (by decide) dL_limits_362 rfl
                              · refine sm_iconst (x := (0 : Int32)) hG 343 rfl dL_limits_342 rfl ?_
                                exact sm_bret hG hT (by decide) dL_limits_343 rfl
                          · refine sm_aload_n hG 295 rfl dL_limits_294 rfl 0 rfl ?_
                            refine sm_sipush (x := (9980 : Int32)) hG 298 rfl dL_limits_295 rfl ?_
                            refine sm_iload_n hG 299 rfl dL_limits_298 rfl 1 rfl ?_
                            refine sm_iadd hG 300 rfl dL_limits_299 ?_
                            refine sm_iconst (x := (3 : Int32)) hG 301 rfl dL_limits_300 rfl ?_
                            refine sm_callV hG (fun (q : Int32 × mC) => (some (Value.int q.1), q.2)) (0, 0, 0) [.int ((9980 : Int32) + x1_288), .int (3 : Int32)] 304 rfl (ok0 hC) (ce_0 hC _) (ci := 6) rfl (fun r_ hr_ => c0n_X6_announce hC hr_) gL_limits_X6_announce rfl (by decide) (by decide) (n := 2) rfl (Nat.le_of_ble_eq_true rfl) (by decide) (by decide) rfl dL_limits_301 (fun r_301 => ?_)
                            refine sm_iload_n hG 305 rfl dL_limits_304 rfl 1 rfl ?_
                            refine sm_icmp_eq hG 310 308 rfl dL_limits_305 (by decide) ?_ ?_
                            · refine sm_iinc hG 313 rfl dL_limits_310 (j := 1) rfl rfl (jlt hN rfl) [(1, .int (x1_288 + (1 : Int32))), (0, .ref (Λ.2.2.2.1 (0, 0, 0)))] rfl ?_
                              refine sm_goto hG 288 dL_limits_313 (by decide) ?_
                              refine sm_loc [1, 0] [(0, .ref (Λ.2.2.2.1 (0, 0, 0))), (1, .int (x1_288 + (1 : Int32)))] rfl ?_
                              exact hs288 _ _
                            · refine sm_iconst (x := (0 : Int32)) hG 309 rfl dL_limits_308 rfl ?_
                              exact sm_bret hG hT (by decide) dL_limits_309 rfl
                        · refine sm_iconst (x := (0 : Int32)) hG 285 rfl dL_limits_284 rfl ?_
                          exact sm_bret hG hT (by decide) dL_limits_285 rfl
                      · refine sm_aload_n hG 231 rfl dL_limits_230 rfl 0 rfl ?_
                        refine sm_iconst (x := (5 : Int32)) hG 232 rfl dL_limits_231 rfl ?_
                        refine sm_iload_n hG 233 rfl dL_limits_232 rfl 1 rfl ?_
                        refine sm_bipush (x := (25 : Int32)) hG 235 rfl dL_limits_233 rfl ?_
                        refine sm_irem hG 236 rfl dL_limits_235 (by decide) ?_
                        refine sm_nmi (fun y235_1 => ?_)
                        refine sm_iadd hG 237 rfl dL_limits_236 ?_
                        refine sm_bipush (x := (100 : Int32)) hG 239 rfl dL_limits_237 rfl ?_
                        refine sm_iload_n hG 240 rfl dL_limits_239 rfl 1 rfl ?_
                        refine sm_iadd hG 241 rfl dL_limits_240 ?_
                        refine sm_bipush (x := (100 : Int32)) hG 243 rfl dL_limits_241 rfl ?_
                        refine sm_iload_n hG 244 rfl dL_limits_243 rfl 1 rfl ?_
                        refine sm_iadd hG 245 rfl dL_limits_244 ?_
                        refine sm_callV hG (fun (q : Int32 × mC) => (some (Value.int q.1), q.2)) (0, 0, 0) [.int ((5 : Int32) + y235_1), .int ((100 : Int32) + x1_224), .int ((100 : Int32) + x1_224)] 248 rfl (ok0 hC) (ce_0 hC _) (ci := 6) rfl (fun r_ hr_ => c0n_X6_excuse hC hr_) gL_limits_X6_excuse rfl (by decide) (by decide) (n := 3) rfl (Nat.le_of_ble_eq_true rfl) (by decide) (by decide) rfl dL_limits_245 (fun r_245 => ?_)
                        refine sm_iconst (x := (1 : Int32)) hG 249 rfl dL_limits_248 rfl ?_
                        refine sm_iload_n hG 250 rfl dL_limits_249 rfl 1 rfl ?_
                        refine sm_bipush (x := (25 : Int32)) hG 252 rfl dL_limits_250 rfl ?_
                        refine sm_idiv hG 253 rfl dL_limits_252 (by decide) ?_
                        refine sm_iadd hG 254 rfl dL_limits_253 ?_
                        refine sm_icmp_eq hG 259 257 rfl dL_limits_254 (by decide) ?_ ?_
                        · refine sm_iinc hG 262 rfl dL_limits_259 (j := 1) rfl rfl (jlt hN rfl) [(1, .int (x1_224 + (1 : Int32))), (0, .ref (Λ.2.2.2.1 (0, 0, 0)))] rfl ?_
                          refine sm_goto hG 224 dL_limits_262 (by decide) ?_
                          refine sm_loc [1, 0] [(0, .ref (Λ.2.2.2.1 (0, 0, 0))), (1, .int (x1_224 + (1 : Int32)))] rfl ?_
                          exact hs224 _ _
                        · refine sm_iconst (x := (0 : Int32)) hG 258 rfl dL_limits_257 rfl ?_
                          exact sm_bret hG hT (by decide) dL_limits_258 rfl
                    · refine sm_iconst (x := (0 : Int32)) hG 221 rfl dL_limits_220 rfl ?_
                      exact sm_bret hG hT (by decide) dL_limits_221 rfl
                · refine sm_aload_n hG 148 rfl dL_limits_147 rfl 0 rfl ?_
                  refine sm_bipush (x := (7 : Int32)) hG 150 rfl dL_limits_148 rfl ?_
                  refine sm_bipush (x := (100 : Int32)) hG 152 rfl dL_limits_150 rfl ?_
                  refine sm_iload_n hG 153 rfl dL_limits_152 rfl 1 rfl ?_
                  refine sm_iadd hG 154 rfl dL_limits_153 ?_
                  refine sm_iconst (x := (0 : Int32)) hG 155 rfl dL_limits_154 rfl ?_
                  refine sm_bipush (x := (20 : Int32)) hG 157 rfl dL_limits_155 rfl ?_
                  refine sm_bipush (x := (17 : Int32)) hG 159 rfl dL_limits_157 rfl ?_
                  refine sm_callV hG (fun (q : Int32 × mC) => (some (Value.int q.1), q.2)) (0, 0, 0) [.int (7 : Int32), .int ((100 : Int32) + x1_141), .int (0 : Int32), .int (20 : Int32), .int (17 : Int32)] 162 rfl (ok0 hC) (ce_0 hC _) (ci := 6) rfl (fun r_ hr_ => c0n_X6_register hC hr_) gL_limits_X6_register rfl (by decide) (by decide) (n := 5) rfl (Nat.le_of_ble_eq_true rfl) (by decide) (by decide) rfl dL_limits_159 (fun r_159 => ?_)
                  refine sm_iload_n hG 163 rfl dL_limits_162 rfl 1 rfl ?_
                  refine sm_icmp_ne hG 177 166 rfl dL_limits_163 (by decide) ?_ ?_
                  · refine sm_iconst (x := (0 : Int32)) hG 178 rfl dL_limits_177 rfl ?_
                    exact sm_bret hG hT (by decide) dL_limits_178 rfl
                  · refine sm_aload_n hG 167 rfl dL_limits_166 rfl 0 rfl ?_
                    refine sm_iload_n hG 168 rfl dL_limits_167 rfl 1 rfl ?_
                    refine sm_callV hG (fun (q : Int32 × mC) => (some (Value.int q.1), q.2)) (0, 0, 0) [.int x1_141] 171 rfl (ok0 hC) (ce_0 hC _) (ci := 6) rfl (fun r_ hr_ => c0n_X6_breakDayOf hC hr_) gL_limits_X6_breakDayOf rfl (by decide) (by decide) (n := 1) rfl (Nat.le_of_ble_eq_true rfl) (by decide) (by decide) rfl dL_limits_168 (fun r_168 => ?_)
                    refine sm_sipush (x := (3600 : Int32)) hG 174 rfl dL_limits_171 rfl ?_
                    refine sm_icmp_eq hG 179 177 rfl dL_limits_174 (by decide) ?_ ?_
                    · refine sm_iinc hG 182 rfl dL_limits_179 (j := 1) rfl rfl (jlt hN rfl) [(1, .int (x1_141 + (1 : Int32))), (0, .ref (Λ.2.2.2.1 (0, 0, 0)))] rfl ?_
                      refine sm_goto hG 141 dL_limits_182 (by decide) ?_
                      refine sm_loc [1, 0] [(0, .ref (Λ.2.2.2.1 (0, 0, 0))), (1, .int (x1_141 + (1 : Int32)))] rfl ?_
                      exact hs141 _ _
                    · refine sm_iconst (x := (0 : Int32)) hG 178 rfl dL_limits_177 rfl ?_
                      exact sm_bret hG hT (by decide) dL_limits_178 rfl
              · refine sm_iconst (x := (0 : Int32)) hG 138 rfl dL_limits_137 rfl ?_
                exact sm_bret hG hT (by decide) dL_limits_138 rfl
  · refine sm_aload_n hG 16 rfl dL_limits_15 rfl 0 rfl ?_
    refine sm_iconst (x := (1 : Int32)) hG 17 rfl dL_limits_16 rfl ?_
    refine sm_bipush (x := (9 : Int32)) hG 19 rfl dL_limits_17 rfl ?_
    refine sm_bipush (x := (90 : Int32)) hG 21 rfl dL_limits_19 rfl ?_
    refine sm_iload_n hG 22 rfl dL_limits_21 rfl 1 rfl ?_
    refine sm_iadd hG 23 rfl dL_limits_22 ?_
    refine sm_iconst (x := (0 : Int32)) hG 24 rfl dL_limits_23 rfl ?_
    refine sm_bipush (x := (48 : Int32)) hG 26 rfl dL_limits_24 rfl ?_
    refine sm_bipush (x := (90 : Int32)) hG 28 rfl dL_limits_26 rfl ?_
    refine sm_callV hG (fun (q : Int32 × mC) => (some (Value.int q.1), q.2)) (0, 0, 0) [.int (1 : Int32), .int (9 : Int32), .int ((90 : Int32) + x1_10), .int (0 : Int32), .int (48 : Int32), .int (90 : Int32)] 31 rfl (ok0 hC) (ce_0 hC _) (ci := 6) rfl (fun r_ hr_ => c0n_X6_borrow hC hr_) gL_limits_X6_borrow rfl (by decide) (by decide) (n := 6) rfl (Nat.le_of_ble_eq_true rfl) (by decide) (by decide) rfl dL_limits_28 (fun r_28 => ?_)
    refine sm_iload_n hG 32 rfl dL_limits_31 rfl 1 rfl ?_
    refine sm_icmp_ne hG 46 35 rfl dL_limits_32 (by decide) ?_ ?_
    · refine sm_iconst (x := (0 : Int32)) hG 47 rfl dL_limits_46 rfl ?_
      exact sm_bret hG hT (by decide) dL_limits_47 rfl
    · refine sm_aload_n hG 36 rfl dL_limits_35 rfl 0 rfl ?_
      refine sm_iconst (x := (1 : Int32)) hG 37 rfl dL_limits_36 rfl ?_
      refine sm_callV hG (fun (q : Int32 × mC) => (some (Value.int q.1), q.2)) (0, 0, 0) [.int (1 : Int32)] 40 rfl (ok0 hC) (ce_0 hC _) (ci := 6) rfl (fun r_ hr_ => c0n_X6_favoursOf hC hr_) gL_limits_X6_favoursOf rfl (by decide) (by decide) (n := 1) rfl (Nat.le_of_ble_eq_true rfl) (by decide) (by decide) rfl dL_limits_37 (fun r_37 => ?_)
      refine sm_iconst (x := (-1 : Int32)) hG 41 rfl dL_limits_40 rfl ?_
      refine sm_iload_n hG 42 rfl dL_limits_41 rfl 1 rfl ?_
      refine sm_isub hG 43 rfl dL_limits_42 ?_
      refine sm_icmp_eq hG 48 46 rfl dL_limits_43 (by decide) ?_ ?_
      · refine sm_iinc hG 51 rfl dL_limits_48 (j := 1) rfl rfl (jlt hN rfl) [(1, .int (x1_10 + (1 : Int32))), (0, .ref (Λ.2.2.2.1 (0, 0, 0)))] rfl ?_
        refine sm_goto hG 10 dL_limits_51 (by decide) ?_
        refine sm_loc [1, 0] [(0, .ref (Λ.2.2.2.1 (0, 0, 0))), (1, .int (x1_10 + (1 : Int32)))] rfl ?_
        exact hs10 _ _
      · refine sm_iconst (x := (0 : Int32)) hG 47 rfl dL_limits_46 rfl ?_
        exact sm_bret hG hT (by decide) dL_limits_47 rfl
abbrev rmL_texts : Room := { frames := 14, cells := 761, slots := 10969, locals := 314 }
set_option maxRecDepth 100000 in
set_option maxHeartbeats 4000000 in
theorem cb_L_texts {Λ : jL kC} (hC : LC Λ) {l : Launch} (hfl : l.stackTraces = false) (hX : Xnc Λ) {v : mC} {Γ : jG (Int32 × mC)} (hG : jOk Γ Λ cL_texts "ChoirRegisterLaw" wsL_texts rmL_texts) (hT : jRt Γ Λ rmL_texts (some .boolean) (fun (q : Int32 × mC) => (some (Value.int q.1), q.2))) (hN : Γ.2.1 = 2) (hl : Γ.1.2.1 = l) : Sm Γ Λ (753, 10921) 8 [(0, .ref (Λ.2.2.2.1 (0, 0, 0)))] [] v (b_L_texts v) := by
  subst hl
  have fl256 : Cond.constantLong RL 256 (6960744 : Int64) ∈ wsL_texts := by decide +kernel
  have fl262 : Cond.constantLong RL 262 (6961000 : Int64) ∈ wsL_texts := by decide +kernel
  have fl264 : Cond.constantLong RL 264 (6960945 : Int64) ∈ wsL_texts := by decide +kernel
  have fl266 : Cond.constantLong RL 266 (27185 : Int64) ∈ wsL_texts := by decide +kernel
  have fl268 : Cond.constantLong RL 268 (26160 : Int64) ∈ wsL_texts := by decide +kernel
  have fl270 : Cond.constantLong RL 270 (112361447895088 : Int64) ∈ wsL_texts := by decide +kernel
  have fl272 : Cond.constantLong RL 272 (7090736 : Int64) ∈ wsL_texts := by decide +kernel
  have fl274 : Cond.constantLong RL 274 (1782147122 : Int64) ∈ wsL_texts := by decide +kernel
  have fl276 : Cond.constantLong RL 276 (456229663282 : Int64) ∈ wsL_texts := by decide +kernel
  have fl278 : Cond.constantLong RL 278 (7654263636528084269 : Int64) ∈ wsL_texts := by decide +kernel
  have fl280 : Cond.constantLong RL 280 (13369 : Int64) ∈ wsL_texts := by decide +kernel
  have fl282 : Cond.constantLong RL 282 (878850353 : Int64) ∈ wsL_texts := by decide +kernel
  have fl284 : Cond.constantLong RL 284 (1949380656 : Int64) ∈ wsL_texts := by decide +kernel
  have fl286 : Cond.constantLong RL 286 (7877424 : Int64) ∈ wsL_texts := by decide +kernel
  have fl288 : Cond.constantLong RL 288 (8660487453661689906 : Int64) ∈ wsL_texts := by decide +kernel
  have fl290 : Cond.constantLong RL 290 (57 : Int64) ∈ wsL_texts := by decide +kernel
  have fl292 : Cond.constantLong RL 292 (1715022388 : Int64) ∈ wsL_texts := by decide +kernel
  have fl294 : Cond.constantLong RL 294 (1815096884 : Int64) ∈ wsL_texts := by decide +kernel
  have fl296 : Cond.constantLong RL 296 (121153413786928 : Int64) ∈ wsL_texts := by decide +kernel
  have fl298 : Cond.constantLong RL 298 (8012529626371537200 : Int64) ∈ wsL_texts := by decide +kernel
  have fl300 : Cond.constantLong RL 300 (31296766069127473 : Int64) ∈ wsL_texts := by decide +kernel
  have fl302 : Cond.constantLong RL 302 (2016426811 : Int64) ∈ wsL_texts := by decide +kernel
  have fl304 : Cond.constantLong RL 304 (30453419142561079 : Int64) ∈ wsL_texts := by decide +kernel
  have fl306 : Cond.constantLong RL 306 (7651950465939484786 : Int64) ∈ wsL_texts := by decide +kernel
  have fl308 : Cond.constantLong RL 308 (3544382604618903859 : Int64) ∈ wsL_texts := by decide +kernel
  have fl310 : Cond.constantLong RL 310 (4280162578798361452 : Int64) ∈ wsL_texts := by decide +kernel
  have fl312 : Cond.constantLong RL 312 (3471765402146713906 : Int64) ∈ wsL_texts := by decide +kernel
  have fl314 : Cond.constantLong RL 314 (12721556689269040 : Int64) ∈ wsL_texts := by decide +kernel
  have fl316 : Cond.constantLong RL 316 (8660487427875027257 : Int64) ∈ wsL_texts := by decide +kernel
  have fl318 : Cond.constantLong RL 318 (2963769 : Int64) ∈ wsL_texts := by decide +kernel
  have fl320 : Cond.constantLong RL 320 (7652231940916195442 : Int64) ∈ wsL_texts := by decide +kernel
  have fl322 : Cond.constantLong RL 322 (3747128 : Int64) ∈ wsL_texts := by decide +kernel
  have fl324 : Cond.constantLong RL 324 (8011972126581275502 : Int64) ∈ wsL_texts := by decide +kernel
  have fl326 : Cond.constantLong RL 326 (3475144149751509307 : Int64) ∈ wsL_texts := by decide +kernel
  have fl328 : Cond.constantLong RL 328 (30768 : Int64) ∈ wsL_texts := by decide +kernel
  unfold b_L_texts
  refine sm_aload_n hG 9 rfl dL_texts_8 rfl 0 rfl ?_
  refine sl_ldc2 hG (x := (6960744 : Int64)) 12 rfl dL_texts_9 fl256 ?_
  refine sl_lconst hG (0 : Int64) 13 rfl dL_texts_12 rfl ?_
  refine sm_iconst (x := (2 : Int32)) hG 14 rfl dL_texts_13 rfl ?_
  refine sm_callS hG (fun (q : Int32 × mC) => (some (Value.int q.1), q.2)) [.ref (Λ.2.2.2.1 (0, 0, 0)), .long (6960744 : Int64), .long (0 : Int64), .int (2 : Int32)] 17 rfl (fun r_ hr_ => c_L_isError hC   hr_) gL_texts_L_isError rfl (by decide) (by decide) (n := 4) rfl (Nat.le_of_ble_eq_true rfl) (by decide) (by decide) rfl dL_texts_14 (fun r_14 => ?_)
  refine sm_if_eq hG 131 20 rfl dL_texts_17 (by decide) ?_ ?_
  · refine sm_iconst (x := (0 : Int32)) hG 132 rfl dL_texts_131 rfl ?_
    exact sm_bret hG hT (by decide) dL_texts_132 rfl
  · refine sm_aload_n hG 21 rfl dL_texts_20 rfl 0 rfl ?_
    refine sl_ldc2 hG (x := (6961000 : Int64)) 24 rfl dL_texts_21 fl262 ?_
    refine sl_lconst hG (0 : Int64) 25 rfl dL_texts_24 rfl ?_
    refine sm_iconst (x := (3 : Int32)) hG 26 rfl dL_texts_25 rfl ?_
    refine sm_callS hG (fun (q : Int32 × mC) => (some (Value.int q.1), q.2)) [.ref (Λ.2.2.2.1 (0, 0, 0)), .long (6961000 : Int64), .long (0 : Int64), .int (3 : Int32)] 29 rfl (fun r_ hr_ => c_L_isError hC   hr_) gL_texts_L_isError rfl (by decide) (by decide) (n := 4) rfl (Nat.le_of_ble_eq_true rfl) (by decide) (by decide) rfl dL_texts_26 (fun r_26 => ?_)
    refine sm_if_eq hG 131 32 rfl dL_texts_29 (by decide) ?_ ?_
    · refine sm_iconst (x := (0 : Int32)) hG 132 rfl dL_texts_131 rfl ?_
      exact sm_bret hG hT (by decide) dL_texts_132 rfl
    · refine sm_aload_n hG 33 rfl dL_texts_32 rfl 0 rfl ?_
      refine sl_ldc2 hG (x := (6960945 : Int64)) 36 rfl dL_texts_33 fl264 ?_
      refine sl_lconst hG (0 : Int64) 37 rfl dL_texts_36 rfl ?_
      refine sm_iconst (x := (2 : Int32)) hG 38 rfl dL_texts_37 rfl ?_
      refine sm_callS hG (fun (q : Int32 × mC) => (some (Value.int q.1), q.2)) [.ref (Λ.2.2.2.1 (0, 0, 0)), .long (6960945 : Int64), .long (0 : Int64), .int (2 : Int32)] 41 rfl (fun r_ hr_ => c_L_isError hC   hr_) gL_texts_L_isError rfl (by decide) (by decide) (n := 4) rfl (Nat.le_of_ble_eq_true rfl) (by decide) (by decide) rfl dL_texts_38 (fun r_38 => ?_)
      refine sm_if_eq hG 131 44 rfl dL_texts_41 (by decide) ?_ ?_
      · refine sm_iconst (x := (0 : Int32)) hG 132 rfl dL_texts_131 rfl ?_
        exact sm_bret hG hT (by decide) dL_texts_132 rfl
      · refine sm_aload_n hG 45 rfl dL_texts_44 rfl 0 rfl ?_
        refine sl_ldc2 hG (x := (27185 : Int64)) 48 rfl dL_texts_45 fl266 ?_
        refine sl_lconst hG (0 : Int64) 49 rfl dL_texts_48 rfl ?_
        refine sm_iconst (x := (2 : Int32)) hG 50 rfl dL_texts_49 rfl ?_
        refine sm_callS hG (fun (q : Int32 × mC) => (some (Value.int q.1), q.2)) [.ref (Λ.2.2.2.1 (0, 0, 0)), .long (27185 : Int64), .long (0 : Int64), .int (2 : Int32)] 53 rfl (fun r_ hr_ => c_L_isError hC   hr_) gL_texts_L_isError rfl (by decide) (by decide) (n := 4) rfl (Nat.le_of_ble_eq_true rfl) (by decide) (by decide) rfl dL_texts_50 (fun r_50 => ?_)
        refine sm_if_eq hG 131 56 rfl dL_texts_53 (by decide) ?_ ?_
        · refine sm_iconst (x := (0 : Int32)) hG 132 rfl dL_texts_131 rfl ?_
          exact sm_bret hG hT (by decide) dL_texts_132 rfl
        · refine sm_aload_n hG 57 rfl dL_texts_56 rfl 0 rfl ?_
          refine sl_ldc2 hG (x := (26160 : Int64)) 60 rfl dL_texts_57 fl268 ?_
          refine sl_lconst hG (0 : Int64) 61 rfl dL_texts_60 rfl ?_
          refine sm_iconst (x := (1 : Int32)) hG 62 rfl dL_texts_61 rfl ?_
          refine sm_callS hG (fun (q : Int32 × mC) => (some (Value.int q.1), q.2)) [.ref (Λ.2.2.2.1 (0, 0, 0)), .long (26160 : Int64), .long (0 : Int64), .int (1 : Int32)] 65 rfl (fun r_ hr_ => c_L_isError hC   hr_) gL_texts_L_isError rfl (by decide) (by decide) (n := 4) rfl (Nat.le_of_ble_eq_true rfl) (by decide) (by decide) rfl dL_texts_62 (fun r_62 => ?_)
          refine sm_if_eq hG 131 68 rfl dL_texts_65 (by decide) ?_ ?_
          · refine sm_iconst (x := (0 : Int32)) hG 132 rfl dL_texts_131 rfl ?_
            exact sm_bret hG hT (by decide) dL_texts_132 rfl
          · refine sm_aload_n hG 69 rfl dL_texts_68 rfl 0 rfl ?_
            refine sl_ldc2 hG (x := (112361447895088 : Int64)) 72 rfl dL_texts_69 fl270 ?_
            refine sl_lconst hG (0 : Int64) 73 rfl dL_texts_72 rfl ?_
            refine sm_iconst (x := (5 : Int32)) hG 74 rfl dL_texts_73 rfl ?_
            refine sm_callS hG (fun (q : Int32 × mC) => (some (Value.int q.1), q.2)) [.ref (Λ.2.2.2.1 (0, 0, 0)), .long (112361447895088 : Int64), .long (0 : Int64), .int (5 : Int32)] 77 rfl (fun r_ hr_ => c_L_isError hC   hr_) gL_texts_L_isError rfl (by decide) (by decide) (n := 4) rfl (Nat.le_of_ble_eq_true rfl) (by decide) (by decide) rfl dL_texts_74 (fun r_74 => ?_)
            refine sm_if_eq hG 131 80 rfl dL_texts_77 (by decide) ?_ ?_
            · refine sm_iconst (x := (0 : Int32)) hG 132 rfl dL_texts_131 rfl ?_
              exact sm_bret hG hT (by decide) dL_texts_132 rfl
            · refine sm_aload_n hG 81 rfl dL_texts_80 rfl 0 rfl ?_
              refine sl_ldc2 hG (x := (7090736 : Int64)) 84 rfl dL_texts_81 fl272 ?_
              refine sl_lconst hG (0 : Int64) 85 rfl dL_texts_84 rfl ?_
              refine sm_iconst (x := (2 : Int32)) hG 86 rfl dL_texts_85 rfl ?_
              refine sm_callS hG (fun (q : Int32 × mC) => (some (Value.int q.1), q.2)) [.ref (Λ.2.2.2.1 (0, 0, 0)), .long (7090736 : Int64), .long (0 : Int64), .int (2 : Int32)] 89 rfl (fun r_ hr_ => c_L_isError hC   hr_) gL_texts_L_isError rfl (by decide) (by decide) (n := 4) rfl (Nat.le_of_ble_eq_true rfl) (by decide) (by decide) rfl dL_texts_86 (fun r_86 => ?_)
              refine sm_if_eq hG 131 92 rfl dL_texts_89 (by decide) ?_ ?_
              · refine sm_iconst (x := (0 : Int32)) hG 132 rfl dL_texts_131 rfl ?_
                exact sm_bret hG hT (by decide) dL_texts_132 rfl
              · refine sm_aload_n hG 93 rfl dL_texts_92 rfl 0 rfl ?_
                refine sl_ldc2 hG (x := (1782147122 : Int64)) 96 rfl dL_texts_93 fl274 ?_
                refine sl_lconst hG (0 : Int64) 97 rfl dL_texts_96 rfl ?_
                refine sm_iconst (x := (4 : Int32)) hG 98 rfl dL_texts_97 rfl ?_
                refine sm_callS hG (fun (q : Int32 × mC) => (some (Value.int q.1), q.2)) [.ref (Λ.2.2.2.1 (0, 0, 0)), .long (1782147122 : Int64), .long (0 : Int64), .int (4 : Int32)] 101 rfl (fun r_ hr_ => c_L_isError hC   hr_) gL_texts_L_isError rfl (by decide) (by decide) (n := 4) rfl (Nat.le_of_ble_eq_true rfl) (by decide) (by decide) rfl dL_texts_98 (fun r_98 => ?_)
                refine sm_if_eq hG 131 104 rfl dL_texts_101 (by decide) ?_ ?_
                · refine sm_iconst (x := (0 : Int32)) hG 132 rfl dL_texts_131 rfl ?_
                  exact sm_bret hG hT (by decide) dL_texts_132 rfl
                · refine sm_aload_n hG 105 rfl dL_texts_104 rfl 0 rfl ?_
                  refine sl_ldc2 hG (x := (456229663282 : Int64)) 108 rfl dL_texts_105 fl276 ?_
                  refine sl_lconst hG (0 : Int64) 109 rfl dL_texts_108 rfl ?_
                  refine sm_iconst (x := (4 : Int32)) hG 110 rfl dL_texts_109 rfl ?_
                  refine sm_callS hG (fun (q : Int32 × mC) => (some (Value.int q.1), q.2)) [.ref (Λ.2.2.2.1 (0, 0, 0)), .long (456229663282 : Int64), .long (0 : Int64), .int (4 : Int32)] 113 rfl (fun r_ hr_ => c_L_isError hC   hr_) gL_texts_L_isError rfl (by decide) (by decide) (n := 4) rfl (Nat.le_of_ble_eq_true rfl) (by decide) (by decide) rfl dL_texts_110 (fun r_110 => ?_)
                  refine sm_if_eq hG 131 116 rfl dL_texts_113 (by decide) ?_ ?_
                  · refine sm_iconst (x := (0 : Int32)) hG 132 rfl dL_texts_131 rfl ?_
                    exact sm_bret hG hT (by decide) dL_texts_132 rfl
                  · refine sm_aload_n hG 117 rfl dL_texts_116 rfl 0 rfl ?_
                    refine sl_ldc2 hG (x := (7654263636528084269 : Int64)) 120 rfl dL_texts_117 fl278 ?_
                    refine sl_ldc2 hG (x := (13369 : Int64)) 123 rfl dL_texts_120 fl280 ?_
                    refine sm_bipush (x := (9 : Int32)) hG 125 rfl dL_texts_123 rfl ?_
                    refine sm_callS hG (fun (q : Int32 × mC) => (some (Value.int q.1), q.2)) [.ref (Λ.2.2.2.1 (0, 0, 0)), .long (7654263636528084269 : Int64), .long (13369 : Int64), .int (9 : Int32)] 128 rfl (fun r_ hr_ => c_L_isError hC   hr_) gL_texts_L_isError rfl (by decide) (by decide) (n := 4) rfl (Nat.le_of_ble_eq_true rfl) (by decide) (by decide) rfl dL_texts_125 (fun r_125 => ?_)
                    refine sm_if_ne hG 133 131 rfl dL_texts_128 (by decide) ?_ ?_
                    · refine sm_aload_n hG 134 rfl dL_texts_133 rfl 0 rfl ?_
                      refine sl_ldc2 hG (x := (7654263636528084269 : Int64)) 137 rfl dL_texts_134 fl278 ?_
                      refine sl_ldc2 hG (x := (878850353 : Int64)) 140 rfl dL_texts_137 fl282 ?_
                      refine sm_bipush (x := (11 : Int32)) hG 142 rfl dL_texts_140 rfl ?_
                      refine sm_callS hG (fun (q : Int32 × mC) => (some (Value.int q.1), q.2)) [.ref (Λ.2.2.2.1 (0, 0, 0)), .long (7654263636528084269 : Int64), .long (878850353 : Int64), .int (11 : Int32)] 145 rfl (fun r_ hr_ => c_L_isError hC   hr_) gL_texts_L_isError rfl (by decide) (by decide) (n := 4) rfl (Nat.le_of_ble_eq_true rfl) (by decide) (by decide) rfl dL_texts_142 (fun r_142 => ?_)
                      refine sm_if_eq hG 282 148 rfl dL_texts_145 (by decide) ?_ ?_
                      · refine sm_iconst (x := (0 : Int32)) hG 283 rfl dL_texts_282 rfl ?_
                        exact sm_bret hG hT (by decide) dL_texts_283 rfl
                      · refine sm_aload_n hG 149 rfl dL_texts_148 rfl 0 rfl ?_
                        refine sl_ldc2 hG (x := (1949380656 : Int64)) 152 rfl dL_texts_149 fl284 ?_
                        refine sl_lconst hG (0 : Int64) 153 rfl dL_texts_152 rfl ?_
                        refine sm_iconst (x := (3 : Int32)) hG 154 rfl dL_texts_153 rfl ?_
                        refine sm_callS hG (fun (q : Int32 × mC) => (some (Value.int q.1), q.2)) [.ref (Λ.2.2.2.1 (0, 0, 0)), .long (1949380656 : Int64), .long (0 : Int64), .int (3 : Int32)] 157 rfl (fun r_ hr_ => c_L_isError hC   hr_) gL_texts_L_isError rfl (by decide) (by decide) (n := 4) rfl (Nat.le_of_ble_eq_true rfl) (by decide) (by decide) rfl dL_texts_154 (fun r_154 => ?_)
                        refine sm_if_eq hG 282 160 rfl dL_texts_157 (by decide) ?_ ?_
                        · refine sm_iconst (x := (0 : Int32)) hG 283 rfl dL_texts_282 rfl ?_
                          exact sm_bret hG hT (by decide) dL_texts_283 rfl
                        · refine sm_aload_n hG 161 rfl dL_texts_160 rfl 0 rfl ?_
                          refine sl_ldc2 hG (x := (7877424 : Int64)) 164 rfl dL_texts_161 fl286 ?_
                          refine sl_lconst hG (0 : Int64) 165 rfl dL_texts_164 rfl ?_
                          refine sm_iconst (x := (2 : Int32)) hG 166 rfl dL_texts_165 rfl ?_
                          refine sm_callS hG (fun (q : Int32 × mC) => (some (Value.int q.1), q.2)) [.ref (Λ.2.2.2.1 (0, 0, 0)), .long (7877424 : Int64), .long (0 : Int64), .int (2 : Int32)] 169 rfl (fun r_ hr_ => c_L_isError hC   hr_) gL_texts_L_isError rfl (by decide) (by decide) (n := 4) rfl (Nat.le_of_ble_eq_true rfl) (by decide) (by decide) rfl dL_texts_166 (fun r_166 => ?_)
                          refine sm_if_eq hG 282 172 rfl dL_texts_169 (by decide) ?_ ?_
                          · refine sm_iconst (x := (0 : Int32)) hG 283 rfl dL_texts_282 rfl ?_
                            exact sm_bret hG hT (by decide) dL_texts_283 rfl
                          · refine sm_aload_n hG 173 rfl dL_texts_172 rfl 0 rfl ?_
                            refine sl_lconst hG (0 : Int64) 174 rfl dL_texts_173 rfl ?_
                            refine sl_lconst hG (0 : Int64) 175 rfl dL_texts_174 rfl ?_
                            refine sm_iconst (x := (0 : Int32)) hG 176 rfl dL_texts_175 rfl ?_
                            refine sm_callS hG (fun (q : Int32 × mC) => (some (Value.int q.1), q.2)) [.ref (Λ.2.2.2.1 (0, 0, 0)), .long (0 : Int64), .long (0 : Int64), .int (0 : Int32)] 179 rfl (fun r_ hr_ => c_L_isError hC   hr_) gL_texts_L_isError rfl (by decide) (by decide) (n := 4) rfl (Nat.le_of_ble_eq_true rfl) (by decide) (by decide) rfl dL_texts_176 (fun r_176 => ?_)
                            refine sm_if_eq hG 282 182 rfl dL_texts_179 (by decide) ?_ ?_
                            · refine sm_iconst (x := (0 : Int32)) hG 283 rfl dL_texts_282 rfl ?_
                              exact sm_bret hG hT (by decide) dL_texts_283 rfl
                            · refine sm_aload_n hG 183 rfl dL_texts_182 rfl 0 rfl ?_
                              refine sl_ldc2 hG (x := (8660487453661689906 : Int64)) 186 rfl dL_texts_183 fl288 ?_
                              refine sl_ldc2 hG (x := (57 : Int64)) 189 rfl dL_texts_186 fl290 ?_
                              refine sm_iconst (x := (-1 : Int32)) hG 190 rfl dL_texts_189 rfl ?_
                              refine sm_callS hG (fun (q : Int32 × mC) => (some (Value.int q.1), q.2)) [.ref (Λ.2.2.2.1 (0, 0, 0)), .long (8660487453661689906 : Int64), .long (57 : Int64), .int (-1 : Int32)] 193 rfl (fun r_ hr_ => c_L_isError hC   hr_) gL_texts_L_isError rfl (by decide) (by decide) (n := 4) rfl (Nat.le_of_ble_eq_true rfl) (by decide) (by decide) rfl dL_texts_190 (fun r_190 => ?_)
                              refine sm_if_eq hG 282 196 rfl dL_texts_193 (by decide) ?_ ?_
                              · refine sm_iconst (x := (0 : Int32)) hG 283 rfl dL_texts_282 rfl ?_
                                exact sm_bret hG hT (by decide) dL_texts_283 rfl
                              · refine sm_aload_n hG 197 rfl dL_texts_196 rfl 0 rfl ?_
                                refine sl_ldc2 hG (x := (1715022388 : Int64)) 200 rfl dL_texts_197 fl292 ?_
                                refine sl_lconst hG (0 : Int64) 201 rfl dL_texts_200 rfl ?_
                                refine sm_iconst (x := (3 : Int32)) hG 202 rfl dL_texts_201 rfl ?_
                                refine sm_callS hG (fun (q : Int32 × mC) => (some (Value.int q.1), q.2)) [.ref (Λ.2.2.2.1 (0, 0, 0)), .long (1715022388 : Int64), .long (0 : Int64), .int (3 : Int32)] 205 rfl (fun r_ hr_ => c_L_isError hC   hr_) gL_texts_L_isError rfl (by decide) (by decide) (n := 4) rfl (Nat.le_of_ble_eq_true rfl) (by decide) (by decide) rfl dL_texts_202 (fun r_202 => ?_)
                                refine sm_if_eq hG 282 208 rfl dL_texts_205 (by decide) ?_ ?_
                                · refine sm_iconst (x := (0 : Int32)) hG 283 rfl dL_texts_282 rfl ?_
                                  exact sm_bret hG hT (by decide) dL_texts_283 rfl
                                · refine sm_aload_n hG 209 rfl dL_texts_208 rfl 0 rfl ?_
                                  refine sl_ldc2 hG (x := (1815096884 : Int64)) 212 rfl dL_texts_209 fl294 ?_
                                  refine sl_lconst hG (0 : Int64) 213 rfl dL_texts_212 rfl ?_
                                  refine sm_iconst (x := (3 : Int32)) hG 214 rfl dL_texts_213 rfl ?_
                                  refine sm_callS hG (fun (q : Int32 × mC) => (some (Value.int q.1), q.2)) [.ref (Λ.2.2.2.1 (0, 0, 0)), .long (1815096884 : Int64), .long (0 : Int64), .int (3 : Int32)] 217 rfl (fun r_ hr_ => c_L_isError hC   hr_) gL_texts_L_isError rfl (by decide) (by decide) (n := 4) rfl (Nat.le_of_ble_eq_true rfl) (by decide) (by decide) rfl dL_texts_214 (fun r_214 => ?_)
                                  refine sm_if_eq hG 282 220 rfl dL_texts_217 (by decide) ?_ ?_
                                  · refine sm_iconst (x := (0 : Int32)) hG 283 rfl dL_texts_282 rfl ?_
                                    exact sm_bret hG hT (by decide) dL_texts_283 rfl
                                  · refine sm_aload_n hG 221 rfl dL_texts_220 rfl 0 rfl ?_
                                    refine sl_ldc2 hG (x := (121153413786928 : Int64)) 224 rfl dL_texts_221 fl296 ?_
                                    refine sl_lconst hG (0 : Int64) 225 rfl dL_texts_224 rfl ?_
                                    refine sm_iconst (x := (5 : Int32)) hG 226 rfl dL_texts_225 rfl ?_
                                    refine sm_callS hG (fun (q : Int32 × mC) => (some (Value.int q.1), q.2)) [.ref (Λ.2.2.2.1 (0, 0, 0)), .long (121153413786928 : Int64), .long (0 : Int64), .int (5 : Int32)] 229 rfl (fun r_ hr_ => c_L_isError hC   hr_) gL_texts_L_isError rfl (by decide) (by decide) (n := 4) rfl (Nat.le_of_ble_eq_true rfl) (by decide) (by decide) rfl dL_texts_226 (fun r_226 => ?_)
                                    refine sm_if_eq hG 282 232 rfl dL_texts_229 (by decide) ?_ ?_
                                    · refine sm_iconst (x := (0 : Int32)) hG 283 rfl dL_texts_282 rfl ?_
                                      exact sm_bret hG hT (by decide) dL_texts_283 rfl
                                    · refine sm_aload_n hG 233 rfl dL_texts_232 rfl 0 rfl ?_
                                      refine sl_ldc2 hG (x := (8012529626371537200 : Int64)) 236 rfl dL_texts_233 fl298 ?_
                                      refine sl_lconst hG (0 : Int64) 237 rfl dL_texts_236 rfl ?_
                                      refine sm_iconst (x := (-1 : Int32)) hG 238 rfl dL_texts_237 rfl ?_
                                      refine sm_callS hG (fun (q : Int32 × mC) => (some (Value.int q.1), q.2)) [.ref (Λ.2.2.2.1 (0, 0, 0)), .long (8012529626371537200 : Int64), .long (0 : Int64), .int (-1 : Int32)] 241 rfl (fun r_ hr_ => c_L_isError hC   hr_) gL_texts_L_isError rfl (by decide) (by decide) (n := 4) rfl (Nat.le_of_ble_eq_true rfl) (by decide) (by decide) rfl dL_texts_238 (fun r_238 => ?_)
                                      refine sm_if_eq hG 282 244 rfl dL_texts_241 (by decide) ?_ ?_
                                      · refine sm_iconst (x := (0 : Int32)) hG 283 rfl dL_texts_282 rfl ?_
                                        exact sm_bret hG hT (by decide) dL_texts_283 rfl
                                      · refine sm_aload_n hG 245 rfl dL_texts_244 rfl 0 rfl ?_
                                        refine sl_ldc2 hG (x := (31296766069127473 : Int64)) 248 rfl dL_texts_245 fl300 ?_
                                        refine sl_lconst hG (0 : Int64) 249 rfl dL_texts_248 rfl ?_
                                        refine sm_bipush (x := (6 : Int32)) hG 251 rfl dL_texts_249 rfl ?_
                                        refine sm_callS hG (fun (q : Int32 × mC) => (some (Value.int q.1), q.2)) [.ref (Λ.2.2.2.1 (0, 0, 0)), .long (31296766069127473 : Int64), .long (0 : Int64), .int (6 : Int32)] 254 rfl (fun r_ hr_ => c_L_isError hC   hr_) gL_texts_L_isError rfl (by decide) (by decide) (n := 4) rfl (Nat.le_of_ble_eq_true rfl) (by decide) (by decide) rfl dL_texts_251 (fun r_251 => ?_)
                                        refine sm_if_eq hG 282 257 rfl dL_texts_254 (by decide) ?_ ?_
                                        · refine sm_iconst (x := (0 : Int32)) hG 283 rfl dL_texts_282 rfl ?_
                                          exact sm_bret hG hT (by decide) dL_texts_283 rfl
                                        · refine sm_aload_n hG 258 rfl dL_texts_257 rfl 0 rfl ?_
                                          refine sl_ldc2 hG (x := (2016426811 : Int64)) 261 rfl dL_texts_258 fl302 ?_
                                          refine sl_lconst hG (0 : Int64) 262 rfl dL_texts_261 rfl ?_
                                          refine sm_iconst (x := (3 : Int32)) hG 263 rfl dL_texts_262 rfl ?_
                                          refine sm_callS hG (fun (q : Int32 × mC) => (some (Value.int q.1), q.2)) [.ref (Λ.2.2.2.1 (0, 0, 0)), .long (2016426811 : Int64), .long (0 : Int64), .int (3 : Int32)] 266 rfl (fun r_ hr_ => c_L_isError hC   hr_) gL_texts_L_isError rfl (by decide) (by decide) (n := 4) rfl (Nat.le_of_ble_eq_true rfl) (by decide) (by decide) rfl dL_texts_263 (fun r_263 => ?_)
                                          refine sm_if_eq hG 282 269 rfl dL_texts_266 (by decide) ?_ ?_
                                          · refine sm_iconst (x := (0 : Int32)) hG 283 rfl dL_texts_282 rfl ?_
                                            exact sm_bret hG hT (by decide) dL_texts_283 rfl
                                          · refine sm_aload_n hG 270 rfl dL_texts_269 rfl 0 rfl ?_
                                            refine sl_ldc2 hG (x := (30453419142561079 : Int64)) 273 rfl dL_texts_270 fl304 ?_
                                            refine sl_lconst hG (0 : Int64) 274 rfl dL_texts_273 rfl ?_
                                            refine sm_bipush (x := (6 : Int32)) hG 276 rfl dL_texts_274 rfl ?_
                                            refine sm_callS hG (fun (q : Int32 × mC) => (some (Value.int q.1), q.2)) [.ref (Λ.2.2.2.1 (0, 0, 0)), .long (30453419142561079 : Int64), .long (0 : Int64), .int (6 : Int32)] 279 rfl (fun r_ hr_ => c_L_isError hC   hr_) gL_texts_L_isError rfl (by decide) (by decide) (n := 4) rfl (Nat.le_of_ble_eq_true rfl) (by decide) (by decide) rfl dL_texts_276 (fun r_276 => ?_)
                                            refine sm_if_ne hG 284 282 rfl dL_texts_279 (by decide) ?_ ?_
                                            · refine sm_aload_n hG 285 rfl dL_texts_284 rfl 0 rfl ?_
                                              refine sm_callV hG (fun (q : Int32 × mC) => (some (Value.int q.1), q.2)) (0, 0, 0) [] 288 rfl (ok0 hC) (ce_0 hC _) (ci := 6) rfl (fun r_ hr_ => c_X6_clearLetter hC   hr_) gL_texts_X6_clearLetter rfl (by decide) (by decide) (n := 0) rfl (Nat.le_of_ble_eq_true rfl) (by decide) (by decide) rfl dL_texts_285 (fun r_285 => ?_)
                                              refine sm_bipush (x := (7 : Int32)) hG 290 rfl dL_texts_288 rfl ?_
                                              refine sm_icmp_ne hG 640 293 rfl dL_texts_290 (by decide) ?_ ?_
                                              · refine sm_iconst (x := (0 : Int32)) hG 641 rfl dL_texts_640 rfl ?_
                                                exact sm_bret hG hT (by decide) dL_texts_641 rfl
                                              · refine sm_aload_n hG 294 rfl dL_texts_293 rfl 0 rfl ?_
                                                refine sl_ldc2 hG (x := (7651950465939484786 : Int64)) 297 rfl dL_texts_294 fl306 ?_
                                                refine sm_callS hG (fun (q : Int32 × mC) => (some (Value.int q.1), q.2)) [.ref (Λ.2.2.2.1 (0, 0, 0)), .long (7651950465939484786 : Int64)] 300 rfl (fun r_ hr_ => c_L_types hC   hr_) gL_texts_L_types rfl (by decide) (by decide) (n := 2) rfl (Nat.le_of_ble_eq_true rfl) (by decide) (by decide) rfl dL_texts_297 (fun r_297 => ?_)
                                                refine sm_if_eq hG 640 303 rfl dL_texts_300 (by decide) ?_ ?_
                                                · refine sm_iconst (x := (0 : Int32)) hG 641 rfl dL_texts_640 rfl ?_
                                                  exact sm_bret hG hT (by decide) dL_texts_641 rfl
                                                · refine sm_aload_n hG 304 rfl dL_texts_303 rfl 0 rfl ?_
                                                  refine sl_ldc2 hG (x := (3544382604618903859 : Int64)) 307 rfl dL_texts_304 fl308 ?_
                                                  refine sm_callS hG (fun (q : Int32 × mC) => (some (Value.int q.1), q.2)) [.ref (Λ.2.2.2.1 (0, 0, 0)), .long (3544382604618903859 : Int64)] 310 rfl (fun r_ hr_ => c_L_types hC   hr_) gL_texts_L_types rfl (by decide) (by decide) (n := 2) rfl (Nat.le_of_ble_eq_true rfl) (by decide) (by decide) rfl dL_texts_307 (fun r_307 => ?_)
                                                  refine sm_if_eq hG 640 313 rfl dL_texts_310 (by decide) ?_ ?_
                                                  · refine sm_iconst (x := (0 : Int32)) hG 641 rfl dL_texts_640 rfl ?_
                                                    exact sm_bret hG hT (by decide) dL_texts_641 rfl
                                                  · refine sm_aload_n hG 314 rfl dL_texts_313 rfl 0 rfl ?_
                                                    refine sl_ldc2 hG (x := (4280162578798361452 : Int64)) 317 rfl dL_texts_314 fl310 ?_
                                                    refine sm_callS hG (fun (q : Int32 × mC) => (some (Value.int q.1), q.2)) [.ref (Λ.2.2.2.1 (0, 0, 0)), .long (4280162578798361452 : Int64)] 320 rfl (fun r_ hr_ => c_L_types hC   hr_) gL_texts_L_types rfl (by decide) (by decide) (n := 2) rfl (Nat.le_of_ble_eq_true rfl) (by decide) (by decide) rfl dL_texts_317 (fun r_317 => ?_)
                                                    refine sm_if_eq hG 640 323 rfl dL_texts_320 (by decide) ?_ ?_
                                                    · refine sm_iconst (x := (0 : Int32)) hG 641 rfl dL_texts_640 rfl ?_
                                                      exact sm_bret hG hT (by decide) dL_texts_641 rfl
                                                    · refine sm_aload_n hG 324 rfl dL_texts_323 rfl 0 rfl ?_
                                                      refine sl_ldc2 hG (x := (3471765402146713906 : Int64)) 327 rfl dL_texts_324 fl312 ?_
                                                      refine sm_callS hG (fun (q : Int32 × mC) => (some (Value.int q.1), q.2)) [.ref (Λ.2.2.2.1 (0, 0, 0)), .long (3471765402146713906 : Int64)] 330 rfl (fun r_ hr_ => c_L_types hC   hr_) gL_texts_L_types rfl (by decide) (by decide) (n := 2) rfl (Nat.le_of_ble_eq_true rfl) (by decide) (by decide) rfl dL_texts_327 (fun r_327 => ?_)
                                                      refine sm_if_eq hG 640 333 rfl dL_texts_330 (by decide) ?_ ?_
                                                      · refine sm_iconst (x := (0 : Int32)) hG 641 rfl dL_texts_640 rfl ?_
                                                        exact sm_bret hG hT (by decide) dL_texts_641 rfl
                                                      · refine sm_aload_n hG 334 rfl dL_texts_333 rfl 0 rfl ?_
                                                        refine sl_ldc2 hG (x := (12721556689269040 : Int64)) 337 rfl dL_texts_334 fl314 ?_
                                                        refine sm_callS hG (fun (q : Int32 × mC) => (some (Value.int q.1), q.2)) [.ref (Λ.2.2.2.1 (0, 0, 0)), .long (12721556689269040 : Int64)] 340 rfl (fun r_ hr_ => c_L_types hC   hr_) gL_texts_L_types rfl (by decide) (by decide) (n := 2) rfl (Nat.le_of_ble_eq_true rfl) (by decide) (by decide) rfl dL_texts_337 (fun r_337 => ?_)
                                                        refine sm_if_eq hG 640 343 rfl dL_texts_340 (by decide) ?_ ?_
                                                        · refine sm_iconst (x := (0 : Int32)) hG 641 rfl dL_texts_640 rfl ?_
                                                          exact sm_bret hG hT (by decide) dL_texts_641 rfl
                                                        · refine sm_aload_n hG 344 rfl dL_texts_343 rfl 0 rfl ?_
                                                          refine sm_callV hG (fun (q : Int32 × mC) => (some (Value.int q.1), q.2)) (0, 0, 0) [] 347 rfl (ok0 hC) (ce_0 hC _) (ci := 6) rfl (fun r_ hr_ => c_X6_letterError hC   hr_) gL_texts_X6_letterError rfl (by decide) (by decide) (n := 0) rfl (Nat.le_of_ble_eq_true rfl) (by decide) (by decide) rfl dL_texts_344 (fun r_344 => ?_)
                                                          refine sm_iconst (x := (-1 : Int32)) hG 348 rfl dL_texts_347 rfl ?_
                                                          refine sm_icmp_ne hG 640 351 rfl dL_texts_348 (by decide) ?_ ?_
                                                          · refine sm_iconst (x := (0 : Int32)) hG 641 rfl dL_texts_640 rfl ?_
                                                            exact sm_bret hG hT (by decide) dL_texts_641 rfl
                                                          · refine sm_aload_n hG 352 rfl dL_texts_351 rfl 0 rfl ?_
                                                            refine sm_callV hG (fun (q : Int32 × mC) => (some (Value.int q.1), q.2)) (0, 0, 0) [] 355 rfl (ok0 hC) (ce_0 hC _) (ci := 6) rfl (fun r_ hr_ => c0n_X6_impossibleOrder hC hr_) gL_texts_X6_impossibleOrder rfl (by decide) (by decide) (n := 0) rfl (Nat.le_of_ble_eq_true rfl) (by decide) (by decide) rfl dL_texts_352 (fun r_352 => ?_)
                                                            refine sm_iconst (x := (-1 : Int32)) hG 356 rfl dL_texts_355 rfl ?_
                                                            refine sm_icmp_ne hG 640 359 rfl dL_texts_356 (by decide) ?_ ?_
                                                            · refine sm_iconst (x := (0 : Int32)) hG 641 rfl dL_texts_640 rfl ?_
                                                              exact sm_bret hG hT (by decide) dL_texts_641 rfl
                                                            · refine sm_aload_n hG 360 rfl dL_texts_359 rfl 0 rfl ?_
                                                              refine sm_callV hG (fun (q : Int32 × mC) => (some (Value.int q.1), q.2)) (0, 0, 0) [] 363 rfl (ok0 hC) (ce_0 hC _) (ci := 6) rfl (fun r_ hr_ => c0n_X6_carryOut hC hr_) gL_texts_X6_carryOut rfl (by decide) (by decide) (n := 0) rfl (Nat.le_of_ble_eq_true rfl) (by decide) (by decide) rfl dL_texts_360 (fun r_360 => ?_)
                                                              refine sm_iconst (x := (4 : Int32)) hG 364 rfl dL_texts_363 rfl ?_
                                                              refine sm_icmp_ne hG 640 367 rfl dL_texts_364 (by decide) ?_ ?_
                                                              · refine sm_iconst (x := (0 : Int32)) hG 641 rfl dL_texts_640 rfl ?_
                                                                exact sm_bret hG hT (by decide) dL_texts_641 rfl
                                                              · refine sm_aload_n hG 368 rfl dL_texts_367 rfl 0 rfl ?_
                                                                refine sm_callV hG (fun (q : Int32) => (some (Value.int q), r_360.2)) (0, 0, 0) [] 371 rfl (ok0 hC) (ce_0 hC _) (ci := 6) rfl (fun r_ hr_ => c_X6_day hC   hr_) gL_texts_X6_day rfl (by decide) (by decide) (n := 0) rfl (Nat.le_of_ble_eq_true rfl) (by decide) (by decide) rfl dL_texts_368 (fun r_368 => ?_)
                                                                refine sm_bipush (x := (10 : Int32)) hG 373 rfl dL_texts_371 rfl ?_
                                                                refine sm_icmp_ne hG 640 376 rfl dL_texts_373 (by decide) ?_ ?_
                                                                · refine sm_iconst (x := (0 : Int32)) hG 641 rfl dL_texts_640 rfl ?_
                                                                  exact sm_bret hG hT (by decide) dL_texts_641 rfl
                                                                · refine sm_aload_n hG 377 rfl dL_texts_376 rfl 0 rfl ?_
                                                                  refine sm_bipush (x := (50 : Int32)) hG 379 rfl dL_texts_377 rfl ?_
                                                                  refine sm_iconst (x := (2 : Int32)) hG 380 rfl dL_texts_379 rfl ?_
                                                                  refine sm_iconst (x := (0 : Int32)) hG 381 rfl dL_texts_380 rfl ?_
                                                                  refine sm_iconst (x := (2 : Int32)) hG 382 rfl dL_texts_381 rfl ?_
                                                                  refine sm_callS hG (fun (q : Int32 × mC) => (some (Value.int q.1), q.2)) [.ref (Λ.2.2.2.1 (0, 0, 0)), .int (50 : Int32), .int (2 : Int32), .int (0 : Int32), .int (2 : Int32)] 385 rfl (fun r_ hr_ => c_L_accounts hC   hr_) gL_texts_L_accounts rfl (by decide) (by decide) (n := 5) rfl (Nat.le_of_ble_eq_true rfl) (by decide) (by decide) rfl dL_texts_382 (fun r_382 => ?_)
                                                                  refine sm_if_eq hG 640 388 rfl dL_texts_385 (by decide) ?_ ?_
                                                                  · refine sm_iconst (x := (0 : Int32)) hG 641 rfl dL_texts_640 rfl ?_
                                                                    exact sm_bret hG hT (by decide) dL_texts_641 rfl
                                                                  · refine sm_aload_n hG 389 rfl dL_texts_388 rfl 0 rfl ?_
                                                                    refine sm_iconst (x := (0 : Int32)) hG 390 rfl dL_texts_389 rfl ?_
                                                                    refine sm_callV hG (fun (q : Int32 × mC) => (some (Value.int q.1), q.2)) (0, 0, 0) [.int (0 : Int32)] 393 rfl (ok0 hC) (ce_0 hC _) (ci := 6) rfl (fun r_ hr_ => c0n_X6_breakDayOf hC hr_) gL_texts_X6_breakDayOf rfl (by decide) (by decide) (n := 1) rfl (Nat.le_of_ble_eq_true rfl) (by decide) (by decide) rfl dL_texts_390 (fun r_390 => ?_)
                                                                    refine sm_sipush (x := (1080 : Int32)) hG 396 rfl dL_texts_393 rfl ?_
                                                                    refine sm_icmp_ne hG 640 399 rfl dL_texts_396 (by decide) ?_ ?_
                                                                    · refine sm_iconst (x := (0 : Int32)) hG 641 rfl dL_texts_640 rfl ?_
                                                                      exact sm_bret hG hT (by decide) dL_texts_641 rfl
                                                                    · refine sm_aload_n hG 400 rfl dL_texts_399 rfl 0 rfl ?_
                                                                      refine sm_iconst (x := (0 : Int32)) hG 401 rfl dL_texts_400 rfl ?_
                                                                      refine sm_callV hG (fun (q : Int32 × mC) => (some (Value.int q.1), q.2)) (0, 0, 0) [.int (0 : Int32)] 404 rfl (ok0 hC) (ce_0 hC _) (ci := 6) rfl (fun r_ hr_ => c0n_X6_descantIn hC hr_) gL_texts_X6_descantIn rfl (by decide) (by decide) (n := 1) rfl (Nat.le_of_ble_eq_true rfl) (by decide) (by decide) rfl dL_texts_401 (fun r_401 => ?_)
                                                                      refine sm_if_ne hG 640 407 rfl dL_texts_404 (by decide) ?_ ?_
                                                                      · refine sm_iconst (x := (0 : Int32)) hG 641 rfl dL_texts_640 rfl ?_
                                                                        exact sm_bret hG hT (by decide) dL_texts_641 rfl
                                                                      · refine sm_aload_n hG 408 rfl dL_texts_407 rfl 0 rfl ?_
                                                                        refine sm_callV hG (fun (q : Int32 × mC) => (some (Value.int q.1), q.2)) (0, 0, 0) [] 411 rfl (ok0 hC) (ce_0 hC _) (ci := 6) rfl (fun r_ hr_ => c_X6_letterError hC   hr_) gL_texts_X6_letterError rfl (by decide) (by decide) (n := 0) rfl (Nat.le_of_ble_eq_true rfl) (by decide) (by decide) rfl dL_texts_408 (fun r_408 => ?_)
                                                                        refine sm_iconst (x := (-1 : Int32)) hG 412 rfl dL_texts_411 rfl ?_
                                                                        refine sm_icmp_ne hG 640 415 rfl dL_texts_412 (by decide) ?_ ?_
                                                                        · refine sm_iconst (x := (0 : Int32)) hG 641 rfl dL_texts_640 rfl ?_
                                                                          exact sm_bret hG hT (by decide) dL_texts_641 rfl
                                                                        · refine sm_aload_n hG 416 rfl dL_texts_415 rfl 0 rfl ?_
                                                                          refine sm_callV hG (fun (q : Int32 × mC) => (some (Value.int q.1), q.2)) (0, 0, 0) [] 419 rfl (ok0 hC) (ce_0 hC _) (ci := 6) rfl (fun r_ hr_ => c0n_X6_impossibleOrder hC hr_) gL_texts_X6_impossibleOrder rfl (by decide) (by decide) (n := 0) rfl (Nat.le_of_ble_eq_true rfl) (by decide) (by decide) rfl dL_texts_416 (fun r_416 => ?_)
                                                                          refine sm_iconst (x := (1 : Int32)) hG 420 rfl dL_texts_419 rfl ?_
                                                                          refine sm_icmp_ne hG 640 423 rfl dL_texts_420 (by decide) ?_ ?_
                                                                          · refine sm_iconst (x := (0 : Int32)) hG 641 rfl dL_texts_640 rfl ?_
                                                                            exact sm_bret hG hT (by decide) dL_texts_641 rfl
                                                                          · refine sm_aload_n hG 424 rfl dL_texts_423 rfl 0 rfl ?_
                                                                            refine sm_bipush (x := (32 : Int32)) hG 426 rfl dL_texts_424 rfl ?_
                                                                            refine sm_iconst (x := (0 : Int32)) hG 427 rfl dL_texts_426 rfl ?_
                                                                            refine sm_iconst (x := (0 : Int32)) hG 428 rfl dL_texts_427 rfl ?_
                                                                            refine sm_iconst (x := (0 : Int32)) hG 429 rfl dL_texts_428 rfl ?_
                                                                            refine sm_hcallS hG [.ref (Λ.2.2.2.1 (0, 0, 0)), .int (32 : Int32), .int (0 : Int32), .int (0 : Int32), .int (0 : Int32)] 432 rfl (fun r_ hr_ => c_L_call hC hfl hX hr_) gL_texts_L_call rfl (by decide) (by decide) (n := 5) rfl (Nat.le_of_ble_eq_true rfl) (757, 10945) ⟨rfl, rfl⟩ (by decide) rfl dL_texts_429 (fun r_429 => ?_)
                                                                            refine sm_sipush (x := (-2013 : Int32)) hG 435 rfl dL_texts_432 rfl ?_
                                                                            refine sm_icmp_ne hG 640 438 rfl dL_texts_435 (by decide) ?_ ?_
                                                                            · refine sm_iconst (x := (0 : Int32)) hG 641 rfl dL_texts_640 rfl ?_
                                                                              exact sm_bret hG hT (by decide) dL_texts_641 rfl
                                                                            · refine sm_aload_n hG 439 rfl dL_texts_438 rfl 0 rfl ?_
                                                                              refine sm_callV hG (fun (q : Int32) => (some (Value.int q), r_429.2)) (0, 0, 0) [] 442 rfl (ok0 hC) (ce_0 hC _) (ci := 6) rfl (fun r_ hr_ => c_X6_singers hC   hr_) gL_texts_X6_singers rfl (by decide) (by decide) (n := 0) rfl (Nat.le_of_ble_eq_true rfl) (by decide) (by decide) rfl dL_texts_439 (fun r_439 => ?_)
                                                                              refine sm_iconst (x := (1 : Int32)) hG 443 rfl dL_texts_442 rfl ?_
                                                                              refine sm_icmp_ne hG 640 446 rfl dL_texts_443 (by decide) ?_ ?_
                                                                              · refine sm_iconst (x := (0 : Int32)) hG 641 rfl dL_texts_640 rfl ?_
                                                                                exact sm_bret hG hT (by decide) dL_texts_641 rfl
                                                                              · refine sm_aload_n hG 447 rfl dL_texts_446 rfl 0 rfl ?_
                                                                                refine sm_callV hG (fun (q : Int32) => (some (Value.int q), r_429.2)) (0, 0, 0) [] 450 rfl (ok0 hC) (ce_0 hC _) (ci := 6) rfl (fun r_ hr_ => c_X6_recordedStates hC   hr_) gL_texts_X6_recordedStates rfl (by decide) (by decide) (n := 0) rfl (Nat.le_of_ble_eq_true rfl) (by decide) (by decide) rfl dL_texts_447 (fun r_447 => ?_)
                                                                                refine sm_iconst (x := (1 : Int32)) hG 451 rfl dL_texts_450 rfl ?_
                                                                                refine sm_icmp_ne hG 640 454 rfl dL_texts_451 (by decide) ?_ ?_
                                                                                · refine sm_iconst (x := (0 : Int32)) hG 641 rfl dL_texts_640 rfl ?_
                                                                                  exact sm_bret hG hT (by decide) dL_texts_641 rfl
                                                                                · refine sm_aload_n hG 455 rfl dL_texts_454 rfl 0 rfl ?_
                                                                                  refine sm_callV hG (fun (q : Int32 × mC) => (some (Value.int q.1), q.2)) (0, 0, 0) [] 458 rfl (ok0 hC) (ce_0 hC _) (ci := 6) rfl (fun r_ hr_ => c_X6_clearLetter hC   hr_) gL_texts_X6_clearLetter rfl (by decide) (by decide) (n := 0) rfl (Nat.le_of_ble_eq_true rfl) (by decide) (by decide) rfl dL_texts_455 (fun r_455 => ?_)
                                                                                  refine sm_bipush (x := (39 : Int32)) hG 460 rfl dL_texts_458 rfl ?_
                                                                                  refine sm_icmp_ne hG 640 463 rfl dL_texts_460 (by decide) ?_ ?_
                                                                                  · refine sm_iconst (x := (0 : Int32)) hG 641 rfl dL_texts_640 rfl ?_
                                                                                    exact sm_bret hG hT (by decide) dL_texts_641 rfl
                                                                                  · refine sm_aload_n hG 464 rfl dL_texts_463 rfl 0 rfl ?_
                                                                                    refine sl_ldc2 hG (x := (8660487427875027257 : Int64)) 467 rfl dL_texts_464 fl316 ?_
                                                                                    refine sm_callS hG (fun (q : Int32 × mC) => (some (Value.int q.1), q.2)) [.ref (Λ.2.2.2.1 (0, 0, 0)), .long (8660487427875027257 : Int64)] 470 rfl (fun r_ hr_ => c_L_types hC   hr_) gL_texts_L_types rfl (by decide) (by decide) (n := 2) rfl (Nat.le_of_ble_eq_true rfl) (by decide) (by decide) rfl dL_texts_467 (fun r_467 => ?_)
                                                                                    refine sm_if_eq hG 640 473 rfl dL_texts_470 (by decide) ?_ ?_
                                                                                    · refine sm_iconst (x := (0 : Int32)) hG 641 rfl dL_texts_640 rfl ?_
                                                                                      exact sm_bret hG hT (by decide) dL_texts_641 rfl
                                                                                    · refine sm_aload_n hG 474 rfl dL_texts_473 rfl 0 rfl ?_
                                                                                      refine sl_ldc2 hG (x := (2963769 : Int64)) 477 rfl dL_texts_474 fl318 ?_
                                                                                      refine sm_callS hG (fun (q : Int32 × mC) => (some (Value.int q.1), q.2)) [.ref (Λ.2.2.2.1 (0, 0, 0)), .long (2963769 : Int64)] 480 rfl (fun r_ hr_ => c_L_types hC   hr_) gL_texts_L_types rfl (by decide) (by decide) (n := 2) rfl (Nat.le_of_ble_eq_true rfl) (by decide) (by decide) rfl dL_texts_477 (fun r_477 => ?_)
                                                                                      refine sm_if_eq hG 640 483 rfl dL_texts_480 (by decide) ?_ ?_
                                                                                      · refine sm_iconst (x := (0 : Int32)) hG 641 rfl dL_texts_640 rfl ?_
                                                                                        exact sm_bret hG hT (by decide) dL_texts_641 rfl
                                                                                      · refine sm_aload_n hG 484 rfl dL_texts_483 rfl 0 rfl ?_
                                                                                        refine sm_callV hG (fun (q : Int32 × mC) => (some (Value.int q.1), q.2)) (0, 0, 0) [] 487 rfl (ok0 hC) (ce_0 hC _) (ci := 6) rfl (fun r_ hr_ => c0n_X6_impossibleOrder hC hr_) gL_texts_X6_impossibleOrder rfl (by decide) (by decide) (n := 0) rfl (Nat.le_of_ble_eq_true rfl) (by decide) (by decide) rfl dL_texts_484 (fun r_484 => ?_)
                                                                                        refine sm_iconst (x := (1 : Int32)) hG 488 rfl dL_texts_487 rfl ?_
                                                                                        refine sm_icmp_ne hG 640 491 rfl dL_texts_488 (by decide) ?_ ?_
                                                                                        · refine sm_iconst (x := (0 : Int32)) hG 641 rfl dL_texts_640 rfl ?_
                                                                                          exact sm_bret hG hT (by decide) dL_texts_641 rfl
                                                                                        · refine sm_aload_n hG 492 rfl dL_texts_491 rfl 0 rfl ?_
                                                                                          refine sm_callV hG (fun (q : Int32 × mC) => (some (Value.int q.1), q.2)) (0, 0, 0) [] 495 rfl (ok0 hC) (ce_0 hC _) (ci := 6) rfl (fun r_ hr_ => c_X6_clearLetter hC   hr_) gL_texts_X6_clearLetter rfl (by decide) (by decide) (n := 0) rfl (Nat.le_of_ble_eq_true rfl) (by decide) (by decide) rfl dL_texts_492 (fun r_492 => ?_)
                                                                                          refine sm_bipush (x := (11 : Int32)) hG 497 rfl dL_texts_495 rfl ?_
                                                                                          refine sm_icmp_ne hG 640 500 rfl dL_texts_497 (by decide) ?_ ?_
                                                                                          · refine sm_iconst (x := (0 : Int32)) hG 641 rfl dL_texts_640 rfl ?_
                                                                                            exact sm_bret hG hT (by decide) dL_texts_641 rfl
                                                                                          · refine sm_aload_n hG 501 rfl dL_texts_500 rfl 0 rfl ?_
                                                                                            refine sl_ldc2 hG (x := (7652231940916195442 : Int64)) 504 rfl dL_texts_501 fl320 ?_
                                                                                            refine sm_callS hG (fun (q : Int32 × mC) => (some (Value.int q.1), q.2)) [.ref (Λ.2.2.2.1 (0, 0, 0)), .long (7652231940916195442 : Int64)] 507 rfl (fun r_ hr_ => c_L_types hC   hr_) gL_texts_L_types rfl (by decide) (by decide) (n := 2) rfl (Nat.le_of_ble_eq_true rfl) (by decide) (by decide) rfl dL_texts_504 (fun r_504 => ?_)
                                                                                            refine sm_if_eq hG 640 510 rfl dL_texts_507 (by decide) ?_ ?_
                                                                                            · refine sm_iconst (x := (0 : Int32)) hG 641 rfl dL_texts_640 rfl ?_
                                                                                              exact sm_bret hG hT (by decide) dL_texts_641 rfl
                                                                                            · refine sm_aload_n hG 511 rfl dL_texts_510 rfl 0 rfl ?_
                                                                                              refine sl_ldc2 hG (x := (3747128 : Int64)) 514 rfl dL_texts_511 fl322 ?_
                                                                                              refine sm_callS hG (fun (q : Int32 × mC) => (some (Value.int q.1), q.2)) [.ref (Λ.2.2.2.1 (0, 0, 0)), .long (3747128 : Int64)] 517 rfl (fun r_ hr_ => c_L_types hC   hr_) gL_texts_L_types rfl (by decide) (by decide) (n := 2) rfl (Nat.le_of_ble_eq_true rfl) (by decide) (by decide) rfl dL_texts_514 (fun r_514 => ?_)
                                                                                              refine sm_if_eq hG 640 520 rfl dL_texts_517 (by decide) ?_ ?_
                                                                                              · refine sm_iconst (x := (0 : Int32)) hG 641 rfl dL_texts_640 rfl ?_
                                                                                                exact sm_bret hG hT (by decide) dL_texts_641 rfl
                                                                                              · refine sm_aload_n hG 521 rfl dL_texts_520 rfl 0 rfl ?_
                                                                                                refine sm_callV hG (fun (q : Int32 × mC) => (some (Value.int q.1), q.2)) (0, 0, 0) [] 524 rfl (ok0 hC) (ce_0 hC _) (ci := 6) rfl (fun r_ hr_ => c_X6_letterError hC   hr_) gL_texts_X6_letterError rfl (by decide) (by decide) (n := 0) rfl (Nat.le_of_ble_eq_true rfl) (by decide) (by decide) rfl dL_texts_521 (fun r_521 => ?_)
                                                                                                refine sm_iconst (x := (-1 : Int32)) hG 525 rfl dL_texts_524 rfl ?_
                                                                                                refine sm_icmp_ne hG 640 528 rfl dL_texts_525 (by decide) ?_ ?_
                                                                                                · refine sm_iconst (x := (0 : Int32)) hG 641 rfl dL_texts_640 rfl ?_
                                                                                                  exact sm_bret hG hT (by decide) dL_texts_641 rfl
                                                                                                · refine sm_aload_n hG 529 rfl dL_texts_528 rfl 0 rfl ?_
                                                                                                  refine sm_callV hG (fun (q : Int32 × mC) => (some (Value.int q.1), q.2)) (0, 0, 0) [] 532 rfl (ok0 hC) (ce_0 hC _) (ci := 6) rfl (fun r_ hr_ => c0n_X6_impossibleOrder hC hr_) gL_texts_X6_impossibleOrder rfl (by decide) (by decide) (n := 0) rfl (Nat.le_of_ble_eq_true rfl) (by decide) (by decide) rfl dL_texts_529 (fun r_529 => ?_)
                                                                                                  refine sm_if_ne hG 640 535 rfl dL_texts_532 (by decide) ?_ ?_
                                                                                                  · refine sm_iconst (x := (0 : Int32)) hG 641 rfl dL_texts_640 rfl ?_
                                                                                                    exact sm_bret hG hT (by decide) dL_texts_641 rfl
                                                                                                  · refine sm_aload_n hG 536 rfl dL_texts_535 rfl 0 rfl ?_
                                                                                                    refine sm_callV hG (fun (q : Int32 × mC) => (some (Value.int q.1), q.2)) (0, 0, 0) [] 539 rfl (ok0 hC) (ce_0 hC _) (ci := 6) rfl (fun r_ hr_ => c_X6_clearLetter hC   hr_) gL_texts_X6_clearLetter rfl (by decide) (by decide) (n := 0) rfl (Nat.le_of_ble_eq_true rfl) (by decide) (by decide) rfl dL_texts_536 (fun r_536 => ?_)
                                                                                                    refine sm_bipush (x := (11 : Int32)) hG 541 rfl dL_texts_539 rfl ?_
                                                                                                    refine sm_icmp_ne hG 640 544 rfl dL_texts_541 (by decide) ?_ ?_
                                                                                                    · refine sm_iconst (x := (0 : Int32)) hG 641 rfl dL_texts_640 rfl ?_
                                                                                                      exact sm_bret hG hT (by decide) dL_texts_641 rfl
                                                                                                    · refine sm_aload_n hG 545 rfl dL_texts_544 rfl 0 rfl ?_
                                                                                                      refine sl_ldc2 hG (x := (8011972126581275502 : Int64)) 548 rfl dL_texts_545 fl324 ?_
                                                                                                      refine sm_callS hG (fun (q : Int32 × mC) => (some (Value.int q.1), q.2)) [.ref (Λ.2.2.2.1 (0, 0, 0)), .long (8011972126581275502 : Int64)] 551 rfl (fun r_ hr_ => c_L_types hC   hr_) gL_texts_L_types rfl (by decide) (by decide) (n := 2) rfl (Nat.le_of_ble_eq_true rfl) (by decide) (by decide) rfl dL_texts_548 (fun r_548 => ?_)
                                                                                                      refine sm_if_eq hG 640 554 rfl dL_texts_551 (by decide) ?_ ?_
                                                                                                      · refine sm_iconst (x := (0 : Int32)) hG 641 rfl dL_texts_640 rfl ?_
                                                                                                        exact sm_bret hG hT (by decide) dL_texts_641 rfl
                                                                                                      · refine sm_aload_n hG 555 rfl dL_texts_554 rfl 0 rfl ?_
                                                                                                        refine sl_ldc2 hG (x := (3475144149751509307 : Int64)) 558 rfl dL_texts_555 fl326 ?_
                                                                                                        refine sm_callS hG (fun (q : Int32 × mC) => (some (Value.int q.1), q.2)) [.ref (Λ.2.2.2.1 (0, 0, 0)), .long (3475144149751509307 : Int64)] 561 rfl (fun r_ hr_ => c_L_types hC   hr_) gL_texts_L_types rfl (by decide) (by decide) (n := 2) rfl (Nat.le_of_ble_eq_true rfl) (by decide) (by decide) rfl dL_texts_558 (fun r_558 => ?_)
                                                                                                        refine sm_if_eq hG 640 564 rfl dL_texts_561 (by decide) ?_ ?_
                                                                                                        · refine sm_iconst (x := (0 : Int32)) hG 641 rfl dL_texts_640 rfl ?_
                                                                                                          exact sm_bret hG hT (by decide) dL_texts_641 rfl
                                                                                                        · refine sm_aload_n hG 565 rfl dL_texts_564 rfl 0 rfl ?_
                                                                                                          refine sl_ldc2 hG (x := (30768 : Int64)) 568 rfl dL_texts_565 fl328 ?_
                                                                                                          refine sm_callS hG (fun (q : Int32 × mC) => (some (Value.int q.1), q.2)) [.ref (Λ.2.2.2.1 (0, 0, 0)), .long (30768 : Int64)] 571 rfl (fun r_ hr_ => c_L_types hC   hr_) gL_texts_L_types rfl (by decide) (by decide) (n := 2) rfl (Nat.le_of_ble_eq_true rfl) (by decide) (by decide) rfl dL_texts_568 (fun r_568 => ?_)
                                                                                                          refine sm_if_eq hG 640 574 rfl dL_texts_571 (by decide) ?_ ?_
                                                                                                          · refine sm_iconst (x := (0 : Int32)) hG 641 rfl dL_texts_640 rfl ?_
                                                                                                            exact sm_bret hG hT (by decide) dL_texts_641 rfl
                                                                                                          · refine sm_aload_n hG 575 rfl dL_texts_574 rfl 0 rfl ?_
                                                                                                            refine sm_callV hG (fun (q : Int32 × mC) => (some (Value.int q.1), q.2)) (0, 0, 0) [] 578 rfl (ok0 hC) (ce_0 hC _) (ci := 6) rfl (fun r_ hr_ => c0n_X6_carryOut hC hr_) gL_texts_X6_carryOut rfl (by decide) (by decide) (n := 0) rfl (Nat.le_of_ble_eq_true rfl) (by decide) (by decide) rfl dL_texts_575 (fun r_575 => ?_)
                                                                                                            refine sm_iconst (x := (3 : Int32)) hG 579 rfl dL_texts_578 rfl ?_
                                                                                                            refine sm_icmp_ne hG 640 582 rfl dL_texts_579 (by decide) ?_ ?_
                                                                                                            · refine sm_iconst (x := (0 : Int32)) hG 641 rfl dL_texts_640 rfl ?_
                                                                                                              exact sm_bret hG hT (by decide) dL_texts_641 rfl
                                                                                                            · refine sm_aload_n hG 583 rfl dL_texts_582 rfl 0 rfl ?_
                                                                                                              refine sm_iconst (x := (0 : Int32)) hG 584 rfl dL_texts_583 rfl ?_
                                                                                                              refine sm_callV hG (fun (q : Int32 × mC) => (some (Value.int q.1), q.2)) (0, 0, 0) [.int (0 : Int32)] 587 rfl (ok0 hC) (ce_0 hC _) (ci := 6) rfl (fun r_ hr_ => c0n_X6_isInChoir hC hr_) gL_texts_X6_isInChoir rfl (by decide) (by decide) (n := 1) rfl (Nat.le_of_ble_eq_true rfl) (by decide) (by decide) rfl dL_texts_584 (fun r_584 => ?_)
                                                                                                              refine sm_if_ne hG 640 590 rfl dL_texts_587 (by decide) ?_ ?_
                                                                                                              · refine sm_iconst (x := (0 : Int32)) hG 641 rfl dL_texts_640 rfl ?_
                                                                                                                exact sm_bret hG hT (by decide) dL_texts_641 rfl
                                                                                                              · refine sm_aload_n hG 591 rfl dL_texts_590 rfl 0 rfl ?_
                                                                                                                refine sm_iconst (x := (0 : Int32)) hG 592 rfl dL_texts_591 rfl ?_
                                                                                                                refine sm_bipush (x := (71 : Int32)) hG 594 rfl dL_texts_592 rfl ?_
                                                                                                                refine sm_callV hG (fun (q : Int32 × mC) => (some (Value.int q.1), q.2)) (0, 0, 0) [.int (0 : Int32), .int (71 : Int32)] 597 rfl (ok0 hC) (ce_0 hC _) (ci := 6) rfl (fun r_ hr_ => c0n_X6_isExcused hC hr_) gL_texts_X6_isExcused rfl (by decide) (by decide) (n := 2) rfl (Nat.le_of_ble_eq_true rfl) (by decide) (by decide) rfl dL_texts_594 (fun r_594 => ?_)
                                                                                                                refine sm_if_eq hG 640 600 rfl dL_texts_597 (by decide) ?_ ?_
                                                                                                                · refine sm_iconst (x := (0 : Int32)) hG 641 rfl dL_texts_640 rfl ?_
                                                                                                                  exact sm_bret hG hT (by decide) dL_texts_641 rfl
                                                                                                                · refine sm_aload_n hG 601 rfl dL_texts_600 rfl 0 rfl ?_
                                                                                                                  refine sm_iconst (x := (3 : Int32)) hG 602 rfl dL_texts_601 rfl ?_
                                                                                                                  refine sm_callV hG (fun (q : Int32 × mC) => (some (Value.int q.1), q.2)) (0, 0, 0) [.int (3 : Int32)] 605 rfl (ok0 hC) (ce_0 hC _) (ci := 6) rfl (fun r_ hr_ => c0n_X6_favoursOf hC hr_) gL_texts_X6_favoursOf rfl (by decide) (by decide) (n := 1) rfl (Nat.le_of_ble_eq_true rfl) (by decide) (by decide) rfl dL_texts_602 (fun r_602 => ?_)
                                                                                                                  refine sm_iconst (x := (1 : Int32)) hG 606 rfl dL_texts_605 rfl ?_
                                                                                                                  refine sm_icmp_ne hG 640 609 rfl dL_texts_606 (by decide) ?_ ?_
                                                                                                                  · refine sm_iconst (x := (0 : Int32)) hG 641 rfl dL_texts_640 rfl ?_
                                                                                                                    exact sm_bret hG hT (by decide) dL_texts_641 rfl
                                                                                                                  · refine sm_aload_n hG 610 rfl dL_texts_609 rfl 0 rfl ?_
                                                                                                                    refine sm_callV hG (fun (q : Int32 × mC) => (some (Value.int q.1), q.2)) (0, 0, 0) [] 613 rfl (ok0 hC) (ce_0 hC _) (ci := 6) rfl (fun r_ hr_ => c0n_X6_undo hC hr_) gL_texts_X6_undo rfl (by decide) (by decide) (n := 0) rfl (Nat.le_of_ble_eq_true rfl) (by decide) (by decide) rfl dL_texts_610 (fun r_610 => ?_)
                                                                                                                    refine sm_iconst (x := (1 : Int32)) hG 614 rfl dL_texts_613 rfl ?_
                                                                                                                    refine sm_icmp_ne hG 640 617 rfl dL_texts_614 (by decide) ?_ ?_
                                                                                                                    · refine sm_iconst (x := (0 : Int32)) hG 641 rfl dL_texts_640 rfl ?_
                                                                                                                      exact sm_bret hG hT (by decide) dL_texts_641 rfl
                                                                                                                    · refine sm_aload_n hG 618 rfl dL_texts_617 rfl 0 rfl ?_
                                                                                                                      refine sm_callV hG (fun (q : Int32 × mC) => (some (Value.int q.1), q.2)) (0, 0, 0) [] 621 rfl (ok0 hC) (ce_0 hC _) (ci := 6) rfl (fun r_ hr_ => c0n_X6_undo hC hr_) gL_texts_X6_undo rfl (by decide) (by decide) (n := 0) rfl (Nat.le_of_ble_eq_true rfl) (by decide) (by decide) rfl dL_texts_618 (fun r_618 => ?_)
                                                                                                                      refine sm_if_ne hG 640 624 rfl dL_texts_621 (by decide) ?_ ?_
                                                                                                                      · refine sm_iconst (x := (0 : Int32)) hG 641 rfl dL_texts_640 rfl ?_
                                                                                                                        exact sm_bret hG hT (by decide) dL_texts_641 rfl
                                                                                                                      · refine sm_aload_n hG 625 rfl dL_texts_624 rfl 0 rfl ?_
                                                                                                                        refine sm_callV hG (fun (q : Int32) => (some (Value.int q), r_618.2)) (0, 0, 0) [] 628 rfl (ok0 hC) (ce_0 hC _) (ci := 6) rfl (fun r_ hr_ => c_X6_day hC   hr_) gL_texts_X6_day rfl (by decide) (by decide) (n := 0) rfl (Nat.le_of_ble_eq_true rfl) (by decide) (by decide) rfl dL_texts_625 (fun r_625 => ?_)
                                                                                                                        refine sm_if_ne hG 640 631 rfl dL_texts_628 (by decide) ?_ ?_
                                                                                                                        · refine sm_iconst (x := (0 : Int32)) hG 641 rfl dL_texts_640 rfl ?_
                                                                                                                          exact sm_bret hG hT (by decide) dL_texts_641 rfl
                                                                                                                        · refine sm_aload_n hG 632 rfl dL_texts_631 rfl 0 rfl ?_
                                                                                                                          refine sm_callV hG (fun (q : Int32 × mC) => (some (Value.int q.1), q.2)) (0, 0, 0) [] 635 rfl (ok0 hC) (ce_0 hC _) (ci := 6) rfl (fun r_ hr_ => c_X6_clearLetter hC   hr_) gL_texts_X6_clearLetter rfl (by decide) (by decide) (n := 0) rfl (Nat.le_of_ble_eq_true rfl) (by decide) (by decide) rfl dL_texts_632 (fun r_632 => ?_)
                                                                                                                          refine sm_bipush (x := (18 : Int32)) hG 637 rfl dL_texts_635 rfl ?_
                                                                                                                          refine sm_icmp_eq hG 642 640 rfl dL_texts_637 (by decide) ?_ ?_
                                                                                                                          · refine sm_iconst (x := (0 : Int32)) hG 643 rfl dL_texts_642 rfl ?_
                                                                                                                            refine sm_istore_n hG 644 rfl dL_texts_643 rfl (jlt hN rfl) [(1, .int (0 : Int32)), (0, .ref (Λ.2.2.2.1 (0, 0, 0)))] rfl ?_
                                                                                                                            refine sm_loc [1, 0] [(0, .ref (Λ.2.2.2.1 (0, 0, 0))), (1, .int (0 : Int32))] rfl ?_
                                                                                                                            refine lp_ind (fun (X644 : Int32 → mC → Option (Int32 × mC)) => ∀ (x1_644 : Int32) (v_644 : mC), Sm Γ Λ (757, 10945) 644 [(0, .ref (Λ.2.2.2.1 (0, 0, 0))), (1, .int x1_644)] [] v_644 (X644 x1_644 v_644)) (fun _ _ => sm_none) (fun self644 hs644 x1_644 v_644 => ?_) 8192 _ _
                                                                                                                            refine sm_iload_n hG 645 rfl dL_texts_644 rfl 1 rfl ?_
                                                                                                                            refine sm_bipush (x := (80 : Int32)) hG 647 rfl dL_texts_645 rfl ?_
                                                                                                                            refine sm_icmp_ge hG 693 650 rfl dL_texts_647 (by decide) ?_ ?_
                                                                                                                            · refine sm_aload_n hG 694 rfl dL_texts_693 rfl 0 rfl ?_
                                                                                                                              refine sm_bipush (x := (30 : Int32)) hG 696 rfl dL_texts_694 rfl ?_
                                                                                                                              refine sm_bipush (x := (120 : Int32)) hG 698 rfl dL_texts_696 rfl ?_
                                                                                                                              refine sm_iconst (x := (0 : Int32)) hG 699 rfl dL_texts_698 rfl ?_
                                                                                                                              refine sm_iconst (x := (0 : Int32)) hG 700 rfl dL_texts_699 rfl ?_
                                                                                                                              refine sm_hcallS hG [.ref (Λ.2.2.2.1 (0, 0, 0)), .int (30 : Int32), .int (120 : Int32), .int (0 : Int32), .int (0 : Int32)] 703 rfl (fun r_ hr_ => c_L_call hC hfl hX hr_) gL_texts_L_call rfl (by decide) (by decide) (n := 5) rfl (Nat.le_of_ble_eq_true rfl) (761, 10969) ⟨rfl, rfl⟩ (by decide) rfl dL_texts_700 (fun r_700 => ?_)
                                                                                                                              refine sm_sipush (x := (-2013 : Int32)) hG 706 rfl dL_texts_703 rfl ?_
                                                                                                                              refine sm_icmp_ne hG 756 709 rfl dL_texts_706 (by decide) ?_ ?_
                                                                                                                              · refine sm_iconst (x := (0 : Int32)) hG 757 rfl dL_texts_756 rfl ?_
                                                                                                                                exact sm_bret hG hT (by decide) dL_texts_757 rfl
                                                                                                                              · refine sm_aload_n hG 710 rfl dL_texts_709 rfl 0 rfl ?_
                                                                                                                                refine sm_callV hG (fun (q : Int32 × mC) => (some (Value.int q.1), q.2)) (0, 0, 0) [] 713 rfl (ok0 hC) (ce_0 hC _) (ci := 6) rfl (fun r_ hr_ => c_X6_letterError hC   hr_) gL_texts_X6_letterError rfl (by decide) (by decide) (n := 0) rfl (Nat.le_of_ble_eq_true rfl) (by decide) (by decide) rfl dL_texts_710 (fun r_710 => ?_)
                                                                                                                                refine sm_iconst (x := (-1 : Int32)) hG 714 rfl dL_texts_713 rfl ?_
                                                                                                                                refine sm_icmp_ne hG 756 717 rfl dL_texts_714 (by decide) ?_ ?_
                                                                                                                                · refine sm_iconst (x := (0 : Int32)) hG 757 rfl dL_texts_756 rfl ?_
                                                                                                                                  exact sm_bret hG hT (by decide) dL_texts_757 rfl
                                                                                                                                · refine sm_aload_n hG 718 rfl dL_texts_717 rfl 0 rfl ?_
                                                                                                                                  refine sm_callV hG (fun (q : Int32 × mC) => (some (Value.int q.1), q.2)) (0, 0, 0) [] 721 rfl (ok0 hC) (ce_0 hC _) (ci := 6) rfl (fun r_ hr_ => c_X6_clearLetter hC   hr_) gL_texts_X6_clearLetter rfl (by decide) (by decide) (n := 0) rfl (Nat.le_of_ble_eq_true rfl) (by decide) (by decide) rfl dL_texts_718 (fun r_718 => ?_)
                                                                                                                                  refine sm_bipush (x := (80 : Int32)) hG 723 rfl dL_texts_721 rfl ?_
                                                                                                                                  refine sm_icmp_ne hG 756 726 rfl dL_texts_723 (by decide) ?_ ?_
                                                                                                                                  · refine sm_iconst (x := (0 : Int32)) hG 757 rfl dL_texts_756 rfl ?_
                                                                                                                                    exact sm_bret hG hT (by decide) dL_texts_757 rfl
                                                                                                                                  · refine sm_aload_n hG 727 rfl dL_texts_726 rfl 0 rfl ?_
                                                                                                                                    refine sm_sipush (x := (960 : Int32)) hG 730 rfl dL_texts_727 rfl ?_
                                                                                                                                    refine sm_callV hG (fun (q : Int32 × mC) => (some (Value.int q.1), q.2)) (0, 0, 0) [.int (960 : Int32)] 733 rfl (ok0 hC) (ce_0 hC _) (ci := 6) rfl (fun r_ hr_ => c0n_X6_type hC hr_) gL_texts_X6_type rfl (by decide) (by decide) (n := 1) rfl (Nat.le_of_ble_eq_true rfl) (by decide) (by decide) rfl dL_texts_730 (fun r_730 => ?_)
                                                                                                                                    refine sm_iconst (x := (1 : Int32)) hG 734 rfl dL_texts_733 rfl ?_
                                                                                                                                    refine sm_icmp_ne hG 756 737 rfl dL_texts_734 (by decide) ?_ ?_
                                                                                                                                    · refine sm_iconst (x := (0 : Int32)) hG 757 rfl dL_texts_756 rfl ?_
                                                                                                                                      exact sm_bret hG hT (by decide) dL_texts_757 rfl
                                                                                                                                    · refine sm_aload_n hG 738 rfl dL_texts_737 rfl 0 rfl ?_
                                                                                                                                      refine sm_callV hG (fun (q : Int32 × mC) => (some (Value.int q.1), q.2)) (0, 0, 0) [] 741 rfl (ok0 hC) (ce_0 hC _) (ci := 6) rfl (fun r_ hr_ => c_X6_letterError hC   hr_) gL_texts_X6_letterError rfl (by decide) (by decide) (n := 0) rfl (Nat.le_of_ble_eq_true rfl) (by decide) (by decide) rfl dL_texts_738 (fun r_738 => ?_)
                                                                                                                                      refine sm_if_ne hG 756 744 rfl dL_texts_741 (by decide) ?_ ?_
                                                                                                                                      · refine sm_iconst (x := (0 : Int32)) hG 757 rfl dL_texts_756 rfl ?_
                                                                                                                                        exact sm_bret hG hT (by decide) dL_texts_757 rfl
                                                                                                                                      · refine sm_aload_n hG 745 rfl dL_texts_744 rfl 0 rfl ?_
                                                                                                                                        refine sm_callV hG (fun (q : Int32 × mC) => (some (Value.int q.1), q.2)) (0, 0, 0) [] 748 rfl (ok0 hC) (ce_0 hC _) (ci := 6) rfl (fun r_ hr_ => c_X6_clearLetter hC   hr_) gL_texts_X6_clearLetter rfl (by decide) (by decide) (n := 0) rfl (Nat.le_of_ble_eq_true rfl) (by decide) (by decide) rfl dL_texts_745 (fun r_745 => ?_)
                                                                                                                                        refine sm_iconst (x := (1 : Int32)) hG 749 rfl dL_texts_748 rfl ?_
                                                                                                                                        refine sm_icmp_ne hG 756 752 rfl dL_texts_749 (by decide) ?_ ?_
                                                                                                                                        · refine sm_iconst (x := (0 : Int32)) hG 757 rfl dL_texts_756 rfl ?_
                                                                                                                                          exact sm_bret hG hT (by decide) dL_texts_757 rfl
                                                                                                                                        · refine sm_iconst (x := (1 : Int32)) hG 753 rfl dL_texts_752 rfl ?_
                                                                                                                                          refine sm_goto hG 757 dL_texts_753 (by decide) ?_
                                                                                                                                          exact sm_bret hG hT (by decide) dL_texts_757 rfl
                                                                                                                            · refine sm_jn (fun (X676 : Int32 → Option (Int32 × mC)) => ∀ (s0_676 : Int32), Sm Γ Λ (757, 10945) 676 [(0, .ref (Λ.2.2.2.1 (0, 0, 0))), (1, .int x1_644)] [.int s0_676, .ref (Λ.2.2.2.1 (0, 0, 0))] v_644 (X676 s0_676)) (fun s0_676 => ?_) (fun j676 hj676 => ?_)
                                                                                                                              · refine sm_callV hG (fun (q : Int32 × mC) => (some (Value.int q.1), q.2)) (0, 0, 0) [.int s0_676] 679 rfl (ok0 hC) (ce_0 hC _) (ci := 6) rfl (fun r_ hr_ => c0n_X6_type hC hr_) gL_texts_X6_type rfl (by decide) (by decide) (n := 1) rfl (Nat.le_of_ble_eq_true rfl) (by decide) (by decide) rfl dL_texts_676 (fun r_676 => ?_)
                                                                                                                                refine sm_iload_n hG 680 rfl dL_texts_679 rfl 1 rfl ?_
                                                                                                                                refine sm_iconst (x := (1 : Int32)) hG 681 rfl dL_texts_680 rfl ?_
                                                                                                                                refine sm_iadd hG 682 rfl dL_texts_681 ?_
                                                                                                                                refine sm_icmp_eq hG 687 685 rfl dL_texts_682 (by decide) ?_ ?_
                                                                                                                                · refine sm_iinc hG 690 rfl dL_texts_687 (j := 1) rfl rfl (jlt hN rfl) [(1, .int (x1_644 + (1 : Int32))), (0, .ref (Λ.2.2.2.1 (0, 0, 0)))] rfl ?_
                                                                                                                                  refine sm_goto hG 644 dL_texts_690 (by decide) ?_
                                                                                                                                  refine sm_loc [1, 0] [(0, .ref (Λ.2.2.2.1 (0, 0, 0))), (1, .int (x1_644 + (1 : Int32)))] rfl ?_
                                                                                                                                  exact hs644 _ _
                                                                                                                                · refine sm_iconst (x := (0 : Int32)) hG 686 rfl dL_texts_685 rfl ?_
                                                                                                                                  exact sm_bret hG hT (by decide) dL_texts_686 rfl
                                                                                                                              · refine sm_aload_n hG 651 rfl dL_texts_650 rfl 0 rfl ?_
                                                                                                                                refine sm_iload_n hG 652 rfl dL_texts_651 rfl 1 rfl ?_
                                                                                                                                refine sm_iconst (x := (3 : Int32)) hG 653 rfl dL_texts_652 rfl ?_
                                                                                                                                refine sm_irem hG 654 rfl dL_texts_653 (by decide) ?_
                                                                                                                                refine sm_nmi (fun y653_1 => ?_)
                                                                                                                                refine sm_if_ne hG 662 657 rfl dL_texts_654 (by decide) ?_ ?_
                                                                                                                                · refine sm_iload_n hG 663 rfl dL_texts_662 rfl 1 rfl ?_
                                                                                                                                  refine sm_iconst (x := (3 : Int32)) hG 664 rfl dL_texts_663 rfl ?_
                                                                                                                                  refine sm_irem hG 665 rfl dL_texts_664 (by decide) ?_
                                                                                                                                  refine sm_nmi (fun y664_2 => ?_)
                                                                                                                                  refine sm_iconst (x := (1 : Int32)) hG 666 rfl dL_texts_665 rfl ?_
                                                                                                                                  refine sm_icmp_ne hG 674 669 rfl dL_texts_666 (by decide) ?_ ?_
                                                                                                                                  · refine sm_bipush (x := (59 : Int32)) hG 676 rfl dL_texts_674 rfl ?_
                                                                                                                                    exact hj676 _
                                                                                                                                  · refine sm_bipush (x := (49 : Int32)) hG 671 rfl dL_texts_669 rfl ?_
                                                                                                                                    refine sm_goto hG 676 dL_texts_671 (by decide) ?_
                                                                                                                                    exact hj676 _
                                                                                                                                · refine sm_bipush (x := (116 : Int32)) hG 659 rfl dL_texts_657 rfl ?_
                                                                                                                                  refine sm_goto hG 676 dL_texts_659 (by decide) ?_
                                                                                                                                  exact hj676 _
                                                                                                                          · refine sm_iconst (x := (0 : Int32)) hG 641 rfl dL_texts_640 rfl ?_
                                                                                                                            exact sm_bret hG hT (by decide) dL_texts_641 rfl
                                            · refine sm_iconst (x := (0 : Int32)) hG 283 rfl dL_texts_282 rfl ?_
                                              exact sm_bret hG hT (by decide) dL_texts_283 rfl
                    · refine sm_iconst (x := (0 : Int32)) hG 132 rfl dL_texts_131 rfl ?_
                      exact sm_bret hG hT (by decide) dL_texts_132 rfl
