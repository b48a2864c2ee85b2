/-! printed by wip/p53/jgen.py out of the bytecode: the law -/
abbrev rmL_seen : Room := { frames := 6, cells := 0, slots := 0, locals := 143 }
set_option maxRecDepth 100000 in
set_option maxHeartbeats 4000000 in
theorem c_L_seen {Λ : jL kC} (hC : LC Λ)   {l : Launch} {v : mC} {r : (Int64 × mC)} (hr_ : f_L_seen v = some r) : Ct l yL_seen wsL_seen rmL_seen Λ [.ref (Λ.2.2.2.1 (0, 0, 0))] v (some (.long r.1)) r.2 := by
  refine ct_of (cc := cL_seen) (maxL := 5) (ret := (some .long)) (fun (q : Int64 × mC) => (some (Value.long q.1), q.2)) hC.1 hr_ (by decide) rfl (Nat.le_of_ble_eq_true rfl) (fun Γ hG hT hN hl => ?_)
  subst hl
  have fl151 : Cond.constantLong RL 151 (923 : Int64) ∈ wsL_seen := by decide +kernel
  have fl153 : Cond.constantLong RL 153 (31 : Int64) ∈ wsL_seen := by decide +kernel
  show Sm Γ Λ (0, 0) 0 [(0, .ref (Λ.2.2.2.1 (0, 0, 0)))] [] v _
  unfold f_L_seen
  refine sl_ldc2 hG (x := (923 : Int64)) 3 rfl dL_seen_0 fl151 ?_
  refine sl_lstore_n hG 4 rfl dL_seen_3 rfl (jlt hN rfl) [(1, .long (923 : Int64)), (0, .ref (Λ.2.2.2.1 (0, 0, 0)))] rfl ?_
  refine sl_ldc2 hG (x := (31 : Int64)) 7 rfl dL_seen_4 fl153 ?_
  refine sl_ldc2 hG (x := (31 : Int64)) 10 rfl dL_seen_7 fl153 ?_
  refine sl_ldc2 hG (x := (31 : Int64)) 13 rfl dL_seen_10 fl153 ?_
  refine sl_ldc2 hG (x := (31 : Int64)) 16 rfl dL_seen_13 fl153 ?_
  refine sl_ldc2 hG (x := (31 : Int64)) 19 rfl dL_seen_16 fl153 ?_
  refine sl_lload_n hG 20 rfl dL_seen_19 rfl 0 rfl ?_
  refine sl_lmul hG 21 rfl dL_seen_20 ?_
  refine sm_aload_n hG 22 rfl dL_seen_21 rfl 1 rfl ?_
  refine sm_callV16 hG (fun (q : Int32) => (some (Value.int q), v)) (0, 0, 0) [] 25 rfl (ok0 hC) (ce_0 hC _) (ci := 6) rfl (fun r_ hr_ => c_X6_day hC   hr_) gL_seen_X6_day rfl (by decide) (by decide) (n := 0) rfl (Nat.le_of_ble_eq_true rfl) (by decide) (by decide) rfl dL_seen_22 (fun r_22 => ?_)
  refine sl_i2l hG 26 rfl dL_seen_25 ?_
  refine sl_ladd hG 27 rfl dL_seen_26 ?_
  refine sl_nml (fun y26_1 => ?_)
  refine sl_lmul hG 28 rfl dL_seen_27 ?_
  refine sm_aload_n hG 29 rfl dL_seen_28 rfl 1 rfl ?_
  refine sm_callV hG (fun (q : Int32) => (some (Value.int q), v)) (0, 0, 0) [] 32 rfl (ok0 hC) (ce_0 hC _) (ci := 6) rfl (fun r_ hr_ => c_X6_singers hC   hr_) gL_seen_X6_singers rfl (by decide) (by decide) (n := 0) rfl (Nat.le_of_ble_eq_true rfl) (by decide) (by decide) rfl dL_seen_29 (fun r_29 => ?_)
  refine sl_i2l hG 33 rfl dL_seen_32 ?_
  refine sl_ladd hG 34 rfl dL_seen_33 ?_
  refine sl_lmul hG 35 rfl dL_seen_34 ?_
  refine sl_nml (fun y34_2 => ?_)
  refine sm_aload_n hG 36 rfl dL_seen_35 rfl 1 rfl ?_
  refine sm_callV hG (fun (q : Int32) => (some (Value.int q), v)) (0, 0, 0) [] 39 rfl (ok0 hC) (ce_0 hC _) (ci := 6) rfl (fun r_ hr_ => c_X6_feasts hC   hr_) gL_seen_X6_feasts rfl (by decide) (by decide) (n := 0) rfl (Nat.le_of_ble_eq_true rfl) (by decide) (by decide) rfl dL_seen_36 (fun r_36 => ?_)
  refine sl_i2l hG 40 rfl dL_seen_39 ?_
  refine sl_ladd hG 41 rfl dL_seen_40 ?_
  refine sl_lmul hG 42 rfl dL_seen_41 ?_
  refine sm_aload_n hG 43 rfl dL_seen_42 rfl 1 rfl ?_
  refine sm_callV hG (fun (q : Int32) => (some (Value.int q), v)) (0, 0, 0) [] 46 rfl (ok0 hC) (ce_0 hC _) (ci := 6) rfl (fun r_ hr_ => c_X6_purse hC   hr_) gL_seen_X6_purse rfl (by decide) (by decide) (n := 0) rfl (Nat.le_of_ble_eq_true rfl) (by decide) (by decide) rfl dL_seen_43 (fun r_43 => ?_)
  refine sl_i2l hG 47 rfl dL_seen_46 ?_
  refine sl_ladd hG 48 rfl dL_seen_47 ?_
  refine sl_nml (fun y47_3 => ?_)
  refine sl_lmul hG 49 rfl dL_seen_48 ?_
  refine sm_aload_n hG 50 rfl dL_seen_49 rfl 1 rfl ?_
  refine sm_callV hG (fun (q : Int32) => (some (Value.int q), v)) (0, 0, 0) [] 53 rfl (ok0 hC) (ce_0 hC _) (ci := 6) rfl (fun r_ hr_ => c_X6_collected hC   hr_) gL_seen_X6_collected rfl (by decide) (by decide) (n := 0) rfl (Nat.le_of_ble_eq_true rfl) (by decide) (by decide) rfl dL_seen_50 (fun r_50 => ?_)
  refine sl_i2l hG 54 rfl dL_seen_53 ?_
  refine sl_ladd hG 55 rfl dL_seen_54 ?_
  refine sl_lstore_n hG 56 rfl dL_seen_55 rfl (jlt hN rfl) [(1, .long (((31 : Int64) * y47_3) + r_50.toInt64)), (0, .ref (Λ.2.2.2.1 (0, 0, 0)))] rfl ?_
  refine sl_ldc2 hG (x := (31 : Int64)) 59 rfl dL_seen_56 fl153 ?_
  refine sl_ldc2 hG (x := (31 : Int64)) 62 rfl dL_seen_59 fl153 ?_
  refine sl_lload_n hG 63 rfl dL_seen_62 rfl 0 rfl ?_
  refine sl_lmul hG 64 rfl dL_seen_63 ?_
  refine sl_nml (fun y63_4 => ?_)
  refine sm_aload_n hG 65 rfl dL_seen_64 rfl 1 rfl ?_
  refine sm_callV hG (fun (q : Int32) => (some (Value.int q), v)) (0, 0, 0) [] 68 rfl (ok0 hC) (ce_0 hC _) (ci := 6) rfl (fun r_ hr_ => c_X6_fees hC   hr_) gL_seen_X6_fees rfl (by decide) (by decide) (n := 0) rfl (Nat.le_of_ble_eq_true rfl) (by decide) (by decide) rfl dL_seen_65 (fun r_65 => ?_)
  refine sl_i2l hG 69 rfl dL_seen_68 ?_
  refine sl_ladd hG 70 rfl dL_seen_69 ?_
  refine sl_lmul hG 71 rfl dL_seen_70 ?_
  refine sm_aload_n hG 72 rfl dL_seen_71 rfl 1 rfl ?_
  refine sm_callV hG (fun (q : Int32) => (some (Value.int q), v)) (0, 0, 0) [] 75 rfl (ok0 hC) (ce_0 hC _) (ci := 6) rfl (fun r_ hr_ => c_X6_fines hC   hr_) gL_seen_X6_fines rfl (by decide) (by decide) (n := 0) rfl (Nat.le_of_ble_eq_true rfl) (by decide) (by decide) rfl dL_seen_72 (fun r_72 => ?_)
  refine sl_i2l hG 76 rfl dL_seen_75 ?_
  refine sl_ladd hG 77 rfl dL_seen_76 ?_
  refine sl_nml (fun y76_5 => ?_)
  refine sl_lstore_n hG 78 rfl dL_seen_77 rfl (jlt hN rfl) [(1, .long y76_5), (0, .ref (Λ.2.2.2.1 (0, 0, 0)))] rfl ?_
  refine sm_iconst (x := (0 : Int32)) hG 79 rfl dL_seen_78 rfl ?_
  refine sm_istore_n hG 80 rfl dL_seen_79 rfl (jlt hN rfl) [(3, .int (0 : Int32)), (1, .long y76_5), (0, .ref (Λ.2.2.2.1 (0, 0, 0)))] rfl ?_
  refine sm_loc [2, 1, 0] [(0, .ref (Λ.2.2.2.1 (0, 0, 0))), (1, .long y76_5), (3, .int (0 : Int32))] rfl ?_
  refine lp_ind (fun (X80 : Int64 → Int32 → mC → Option (Int64 × mC)) => ∀ (x1_80 : Int64) (x3_80 : Int32) (v_80 : mC), Sm Γ Λ (0, 0) 80 [(0, .ref (Λ.2.2.2.1 (0, 0, 0))), (1, .long x1_80), (3, .int x3_80)] [] v_80 (X80 x1_80 x3_80 v_80)) (fun _ _ _ => sm_none) (fun self80 hs80 x1_80 x3_80 v_80 => ?_) 8192 _ _ _
  refine sm_iload_n hG 81 rfl dL_seen_80 rfl 2 rfl ?_
  refine sm_aload_n hG 82 rfl dL_seen_81 rfl 0 rfl ?_
  refine sm_callV hG (fun (q : Int32) => (some (Value.int q), v_80)) (0, 0, 0) [] 85 rfl (ok0 hC) (ce_0 hC _) (ci := 6) rfl (fun r_ hr_ => c_X6_singers hC   hr_) gL_seen_X6_singers rfl (by decide) (by decide) (n := 0) rfl (Nat.le_of_ble_eq_true rfl) (by decide) (by decide) rfl dL_seen_82 (fun r_82 => ?_)
  refine sm_icmp_ge hG 183 88 rfl dL_seen_85 (by decide) ?_ ?_
  · refine sm_iconst (x := (0 : Int32)) hG 184 rfl dL_seen_183 rfl ?_
    refine sm_istore_n hG 185 rfl dL_seen_184 rfl (jlt hN rfl) [(3, .int (0 : Int32)), (0, .ref (Λ.2.2.2.1 (0, 0, 0))), (1, .long x1_80)] rfl ?_
    refine sm_loc [1, 2, 0] [(0, .ref (Λ.2.2.2.1 (0, 0, 0))), (1, .long x1_80), (3, .int (0 : Int32))] rfl ?_
    refine lp_ind (fun (X185 : Int64 → Int32 → mC → Option (Int64 × mC)) => ∀ (x1_185 : Int64) (x3_185 : Int32) (v_185 : mC), Sm Γ Λ (0, 0) 185 [(0, .ref (Λ.2.2.2.1 (0, 0, 0))), (1, .long x1_185), (3, .int x3_185)] [] v_185 (X185 x1_185 x3_185 v_185)) (fun _ _ _ => sm_none) (fun self185 hs185 x1_185 x3_185 v_185 => ?_) 8192 _ _ _
    refine sm_iload_n hG 186 rfl dL_seen_185 rfl 2 rfl ?_
    refine sm_aload_n hG 187 rfl dL_seen_186 rfl 0 rfl ?_
    refine sm_callV hG (fun (q : Int32) => (some (Value.int q), v_185)) (0, 0, 0) [] 190 rfl (ok0 hC) (ce_0 hC _) (ci := 6) rfl (fun r_ hr_ => c_X6_feasts hC   hr_) gL_seen_X6_feasts rfl (by decide) (by decide) (n := 0) rfl (Nat.le_of_ble_eq_true rfl) (by decide) (by decide) rfl dL_seen_187 (fun r_187 => ?_)
    refine sm_icmp_ge hG 277 193 rfl dL_seen_190 (by decide) ?_ ?_
    · refine sm_iconst (x := (0 : Int32)) hG 278 rfl dL_seen_277 rfl ?_
      refine sm_istore_n hG 279 rfl dL_seen_278 rfl (jlt hN rfl) [(3, .int (0 : Int32)), (0, .ref (Λ.2.2.2.1 (0, 0, 0))), (1, .long x1_185)] rfl ?_
      refine sm_loc [1, 2, 0] [(0, .ref (Λ.2.2.2.1 (0, 0, 0))), (1, .long x1_185), (3, .int (0 : Int32))] rfl ?_
      refine lp_ind (fun (X279 : Int64 → Int32 → mC → Option (Int64 × mC)) => ∀ (x1_279 : Int64) (x3_279 : Int32) (v_279 : mC), Sm Γ Λ (0, 0) 279 [(0, .ref (Λ.2.2.2.1 (0, 0, 0))), (1, .long x1_279), (3, .int x3_279)] [] v_279 (X279 x1_279 x3_279 v_279)) (fun _ _ _ => sm_none) (fun self279 hs279 x1_279 x3_279 v_279 => ?_) 8192 _ _ _
      refine sm_iload_n hG 280 rfl dL_seen_279 rfl 2 rfl ?_
      refine sm_iconst (x := (5 : Int32)) hG 281 rfl dL_seen_280 rfl ?_
      refine sm_icmp_ge hG 303 284 rfl dL_seen_281 (by decide) ?_ ?_
      · refine sl_lload_n hG 304 rfl dL_seen_303 rfl 1 rfl ?_
        exact sl_lret hG hT (by decide) dL_seen_304 rfl
      · refine sl_ldc2 hG (x := (31 : Int64)) 287 rfl dL_seen_284 fl153 ?_
        refine sl_lload_n hG 288 rfl dL_seen_287 rfl 1 rfl ?_
        refine sl_lmul hG 289 rfl dL_seen_288 ?_
        refine sm_aload_n hG 290 rfl dL_seen_289 rfl 0 rfl ?_
        refine sm_iload_n hG 291 rfl dL_seen_290 rfl 2 rfl ?_
        refine sm_callV hG (fun (q : Int32 × mC) => (some (Value.int q.1), q.2)) (0, 0, 0) [.int x3_279] 294 rfl (ok0 hC) (ce_0 hC _) (ci := 6) rfl (fun r_ hr_ => c0n_X6_favoursOf hC hr_) gL_seen_X6_favoursOf rfl (by decide) (by decide) (n := 1) rfl (Nat.le_of_ble_eq_true rfl) (by decide) (by decide) rfl dL_seen_291 (fun r_291 => ?_)
        refine sl_i2l hG 295 rfl dL_seen_294 ?_
        refine sl_ladd hG 296 rfl dL_seen_295 ?_
        refine sl_lstore_n hG 297 rfl dL_seen_296 rfl (jlt hN rfl) [(1, .long (((31 : Int64) * x1_279) + r_291.1.toInt64)), (0, .ref (Λ.2.2.2.1 (0, 0, 0))), (3, .int x3_279)] rfl ?_
        refine sm_iinc hG 300 rfl dL_seen_297 (j := 2) rfl rfl (jlt hN rfl) [(3, .int (x3_279 + (1 : Int32))), (1, .long (((31 : Int64) * x1_279) + r_291.1.toInt64)), (0, .ref (Λ.2.2.2.1 (0, 0, 0)))] rfl ?_
        refine sm_goto hG 279 dL_seen_300 (by decide) ?_
        refine sm_loc [2, 1, 0] [(0, .ref (Λ.2.2.2.1 (0, 0, 0))), (1, .long (((31 : Int64) * x1_279) + r_291.1.toInt64)), (3, .int (x3_279 + (1 : Int32)))] rfl ?_
        exact hs279 _ _ _
    · refine sl_ldc2 hG (x := (31 : Int64)) 196 rfl dL_seen_193 fl153 ?_
      refine sl_ldc2 hG (x := (31 : Int64)) 199 rfl dL_seen_196 fl153 ?_
      refine sl_ldc2 hG (x := (31 : Int64)) 202 rfl dL_seen_199 fl153 ?_
      refine sl_lload_n hG 203 rfl dL_seen_202 rfl 1 rfl ?_
      refine sl_lmul hG 204 rfl dL_seen_203 ?_
      refine sm_aload_n hG 205 rfl dL_seen_204 rfl 0 rfl ?_
      refine sm_iload_n hG 206 rfl dL_seen_205 rfl 2 rfl ?_
      refine sm_callV hG (fun (q : Int32 × mC) => (some (Value.int q.1), q.2)) (0, 0, 0) [.int x3_185] 209 rfl (ok0 hC) (ce_0 hC _) (ci := 6) rfl (fun r_ hr_ => c0n_X6_dayOf hC hr_) gL_seen_X6_dayOf rfl (by decide) (by decide) (n := 1) rfl (Nat.le_of_ble_eq_true rfl) (by decide) (by decide) rfl dL_seen_206 (fun r_206 => ?_)
      refine sl_i2l hG 210 rfl dL_seen_209 ?_
      refine sl_ladd hG 211 rfl dL_seen_210 ?_
      refine sl_lmul hG 212 rfl dL_seen_211 ?_
      refine sl_nml (fun y211_6 => ?_)
      refine sm_aload_n hG 213 rfl dL_seen_212 rfl 0 rfl ?_
      refine sm_iload_n hG 214 rfl dL_seen_213 rfl 2 rfl ?_
      refine sm_callV hG (fun (q : Int32 × mC) => (some (Value.int q.1), q.2)) (0, 0, 0) [.int x3_185] 217 rfl (ok0 hC) (ce_0 hC _) (ci := 6) rfl (fun r_ hr_ => c0n_X6_shortfall hC hr_) gL_seen_X6_shortfall rfl (by decide) (by decide) (n := 1) rfl (Nat.le_of_ble_eq_true rfl) (by decide) (by decide) rfl dL_seen_214 (fun r_214 => ?_)
      refine sl_i2l hG 218 rfl dL_seen_217 ?_
      refine sl_ladd hG 219 rfl dL_seen_218 ?_
      refine sl_lmul hG 220 rfl dL_seen_219 ?_
      refine sm_aload_n hG 221 rfl dL_seen_220 rfl 0 rfl ?_
      refine sm_iload_n hG 222 rfl dL_seen_221 rfl 2 rfl ?_
      refine sm_callV hG (fun (q : Int32 × mC) => (some (Value.int q.1), q.2)) (0, 0, 0) [.int x3_185] 225 rfl (ok0 hC) (ce_0 hC _) (ci := 6) rfl (fun r_ hr_ => c0n_X6_descantIn hC hr_) gL_seen_X6_descantIn rfl (by decide) (by decide) (n := 1) rfl (Nat.le_of_ble_eq_true rfl) (by decide) (by decide) rfl dL_seen_222 (fun r_222 => ?_)
      refine sl_i2l hG 226 rfl dL_seen_225 ?_
      refine sl_ladd hG 227 rfl dL_seen_226 ?_
      refine sl_nml (fun y226_7 => ?_)
      refine sl_lstore_n hG 228 rfl dL_seen_227 rfl (jlt hN rfl) [(1, .long y226_7), (0, .ref (Λ.2.2.2.1 (0, 0, 0))), (3, .int x3_185)] rfl ?_
      refine sm_iconst (x := (0 : Int32)) hG 229 rfl dL_seen_228 rfl ?_
      refine sm_istore hG 231 rfl dL_seen_229 (jlt hN rfl) [(4, .int (0 : Int32)), (1, .long y226_7), (0, .ref (Λ.2.2.2.1 (0, 0, 0))), (3, .int x3_185)] rfl ?_
      refine sm_loc [2, 1, 3, 0] [(0, .ref (Λ.2.2.2.1 (0, 0, 0))), (1, .long y226_7), (3, .int x3_185), (4, .int (0 : Int32))] rfl ?_
      refine lp_ind (fun (X231 : Int64 → Int32 → mC → Option (Int64 × mC)) => ∀ (x1_231 : Int64) (x4_231 : Int32) (v_231 : mC), Sm Γ Λ (0, 0) 231 [(0, .ref (Λ.2.2.2.1 (0, 0, 0))), (1, .long x1_231), (3, .int x3_185), (4, .int x4_231)] [] v_231 (X231 x1_231 x4_231 v_231)) (fun _ _ _ => sm_none) (fun self231 hs231 x1_231 x4_231 v_231 => ?_) 8192 _ _ _
      refine sm_iload hG 233 rfl dL_seen_231 3 rfl ?_
      refine sm_iconst (x := (4 : Int32)) hG 234 rfl dL_seen_233 rfl ?_
      refine sm_icmp_ge hG 271 237 rfl dL_seen_234 (by decide) ?_ ?_
      · refine sm_iinc hG 274 rfl dL_seen_271 (j := 2) rfl rfl (jlt hN rfl) [(3, .int (x3_185 + (1 : Int32))), (0, .ref (Λ.2.2.2.1 (0, 0, 0))), (1, .long x1_231), (4, .int x4_231)] rfl ?_
        refine sm_goto hG 185 dL_seen_274 (by decide) ?_
        refine sm_loc [1, 2, 0] [(0, .ref (Λ.2.2.2.1 (0, 0, 0))), (1, .long x1_231), (3, .int (x3_185 + (1 : Int32)))] rfl ?_
        exact hs185 _ _ _
      · refine sl_ldc2 hG (x := (31 : Int64)) 240 rfl dL_seen_237 fl153 ?_
        refine sl_ldc2 hG (x := (31 : Int64)) 243 rfl dL_seen_240 fl153 ?_
        refine sl_lload_n hG 244 rfl dL_seen_243 rfl 1 rfl ?_
        refine sl_lmul hG 245 rfl dL_seen_244 ?_
        refine sm_aload_n hG 246 rfl dL_seen_245 rfl 0 rfl ?_
        refine sm_iload_n hG 247 rfl dL_seen_246 rfl 2 rfl ?_
        refine sm_iload hG 249 rfl dL_seen_247 3 rfl ?_
        refine sm_callV hG (fun (q : Int32 × mC) => (some (Value.int q.1), q.2)) (0, 0, 0) [.int x3_185, .int x4_231] 252 rfl (ok0 hC) (ce_0 hC _) (ci := 6) rfl (fun r_ hr_ => c0n_X6_placesIn hC hr_) gL_seen_X6_placesIn rfl (by decide) (by decide) (n := 2) rfl (Nat.le_of_ble_eq_true rfl) (by decide) (by decide) rfl dL_seen_249 (fun r_249 => ?_)
        refine sl_i2l hG 253 rfl dL_seen_252 ?_
        refine sl_ladd hG 254 rfl dL_seen_253 ?_
        refine sl_lmul hG 255 rfl dL_seen_254 ?_
        refine sl_nml (fun y254_8 => ?_)
        refine sm_aload_n hG 256 rfl dL_seen_255 rfl 0 rfl ?_
        refine sm_iload_n hG 257 rfl dL_seen_256 rfl 2 rfl ?_
        refine sm_iload hG 259 rfl dL_seen_257 3 rfl ?_
        refine sm_callV hG (fun (q : Int32 × mC) => (some (Value.int q.1), q.2)) (0, 0, 0) [.int x3_185, .int x4_231] 262 rfl (ok0 hC) (ce_0 hC _) (ci := 6) rfl (fun r_ hr_ => c0n_X6_singersIn hC hr_) gL_seen_X6_singersIn rfl (by decide) (by decide) (n := 2) rfl (Nat.le_of_ble_eq_true rfl) (by decide) (by decide) rfl dL_seen_259 (fun r_259 => ?_)
        refine sl_i2l hG 263 rfl dL_seen_262 ?_
        refine sl_ladd hG 264 rfl dL_seen_263 ?_
        refine sl_lstore_n hG 265 rfl dL_seen_264 rfl (jlt hN rfl) [(1, .long (y254_8 + r_259.1.toInt64)), (0, .ref (Λ.2.2.2.1 (0, 0, 0))), (3, .int x3_185), (4, .int x4_231)] rfl ?_
        refine sm_iinc hG 268 rfl dL_seen_265 (j := 3) rfl rfl (jlt hN rfl) [(4, .int (x4_231 + (1 : Int32))), (1, .long (y254_8 + r_259.1.toInt64)), (0, .ref (Λ.2.2.2.1 (0, 0, 0))), (3, .int x3_185)] rfl ?_
        refine sm_goto hG 231 dL_seen_268 (by decide) ?_
        refine sm_loc [2, 1, 3, 0] [(0, .ref (Λ.2.2.2.1 (0, 0, 0))), (1, .long (y254_8 + r_259.1.toInt64)), (3, .int x3_185), (4, .int (x4_231 + (1 : Int32)))] rfl ?_
        exact hs231 _ _ _
  · refine sm_jn (fun (X128 : Int32 → Int64 → mC → Option (Int64 × mC)) => ∀ (s0_128 : Int32) (s1_128 : Int64) (v_128 : mC), Sm Γ Λ (0, 0) 128 [(0, .ref (Λ.2.2.2.1 (0, 0, 0))), (3, .int x3_80)] [.int s0_128, .long s1_128] v_128 (X128 s0_128 s1_128 v_128)) (fun s0_128 s1_128 v_128 => ?_) (fun j128 hj128 => ?_)
    · refine sl_i2l hG 129 rfl dL_seen_128 ?_
      refine sl_ladd hG 130 rfl dL_seen_129 ?_
      refine sl_lstore_n hG 131 rfl dL_seen_130 rfl (jlt hN rfl) [(1, .long (s1_128 + s0_128.toInt64)), (0, .ref (Λ.2.2.2.1 (0, 0, 0))), (3, .int x3_80)] rfl ?_
      refine sl_ldc2 hG (x := (31 : Int64)) 134 rfl dL_seen_131 fl153 ?_
      refine sl_ldc2 hG (x := (31 : Int64)) 137 rfl dL_seen_134 fl153 ?_
      refine sl_ldc2 hG (x := (31 : Int64)) 140 rfl dL_seen_137 fl153 ?_
      refine sl_ldc2 hG (x := (31 : Int64)) 143 rfl dL_seen_140 fl153 ?_
      refine sl_lload_n hG 144 rfl dL_seen_143 rfl 0 rfl ?_
      refine sl_lmul hG 145 rfl dL_seen_144 ?_
      refine sm_aload_n hG 146 rfl dL_seen_145 rfl 1 rfl ?_
      refine sm_iload_n hG 147 rfl dL_seen_146 rfl 2 rfl ?_
      refine sm_callV hG (fun (q : Int32 × mC) => (some (Value.int q.1), q.2)) (0, 0, 0) [.int x3_80] 150 rfl (ok0 hC) (ce_0 hC _) (ci := 6) rfl (fun r_ hr_ => c0n_X6_choirOf hC hr_) gL_seen_X6_choirOf rfl (by decide) (by decide) (n := 1) rfl (Nat.le_of_ble_eq_true rfl) (by decide) (by decide) rfl dL_seen_147 (fun r_147 => ?_)
      refine sl_i2l hG 151 rfl dL_seen_150 ?_
      refine sl_ladd hG 152 rfl dL_seen_151 ?_
      refine sl_nml (fun y151_10 => ?_)
      refine sl_lmul hG 153 rfl dL_seen_152 ?_
      refine sm_aload_n hG 154 rfl dL_seen_153 rfl 1 rfl ?_
      refine sm_iload_n hG 155 rfl dL_seen_154 rfl 2 rfl ?_
      refine sm_callV hG (fun (q : Int32 × mC) => (some (Value.int q.1), q.2)) (0, 0, 0) [.int x3_80] 158 rfl (ok0 hC) (ce_0 hC _) (ci := 6) rfl (fun r_ hr_ => c0n_X6_awayUntil hC hr_) gL_seen_X6_awayUntil rfl (by decide) (by decide) (n := 1) rfl (Nat.le_of_ble_eq_true rfl) (by decide) (by decide) rfl dL_seen_155 (fun r_155 => ?_)
      refine sl_i2l hG 159 rfl dL_seen_158 ?_
      refine sl_ladd hG 160 rfl dL_seen_159 ?_
      refine sl_lmul hG 161 rfl dL_seen_160 ?_
      refine sl_nml (fun y160_11 => ?_)
      refine sm_aload_n hG 162 rfl dL_seen_161 rfl 1 rfl ?_
      refine sm_iload_n hG 163 rfl dL_seen_162 rfl 2 rfl ?_
      refine sm_callV hG (fun (q : Int32 × mC) => (some (Value.int q.1), q.2)) (0, 0, 0) [.int x3_80] 166 rfl (ok0 hC) (ce_0 hC _) (ci := 6) rfl (fun r_ hr_ => c0n_X6_feastsOf hC hr_) gL_seen_X6_feastsOf rfl (by decide) (by decide) (n := 1) rfl (Nat.le_of_ble_eq_true rfl) (by decide) (by decide) rfl dL_seen_163 (fun r_163 => ?_)
      refine sl_i2l hG 167 rfl dL_seen_166 ?_
      refine sl_ladd hG 168 rfl dL_seen_167 ?_
      refine sl_lmul hG 169 rfl dL_seen_168 ?_
      refine sm_aload_n hG 170 rfl dL_seen_169 rfl 1 rfl ?_
      refine sm_iload_n hG 171 rfl dL_seen_170 rfl 2 rfl ?_
      refine sm_callV hG (fun (q : Int32 × mC) => (some (Value.int q.1), q.2)) (0, 0, 0) [.int x3_80] 174 rfl (ok0 hC) (ce_0 hC _) (ci := 6) rfl (fun r_ hr_ => c0n_X6_descantsOf hC hr_) gL_seen_X6_descantsOf rfl (by decide) (by decide) (n := 1) rfl (Nat.le_of_ble_eq_true rfl) (by decide) (by decide) rfl dL_seen_171 (fun r_171 => ?_)
      refine sl_i2l hG 175 rfl dL_seen_174 ?_
      refine sl_ladd hG 176 rfl dL_seen_175 ?_
      refine sl_nml (fun y175_12 => ?_)
      refine sl_lstore_n hG 177 rfl dL_seen_176 rfl (jlt hN rfl) [(1, .long y175_12), (0, .ref (Λ.2.2.2.1 (0, 0, 0))), (3, .int x3_80)] rfl ?_
      refine sm_iinc hG 180 rfl dL_seen_177 (j := 2) rfl rfl (jlt hN rfl) [(3, .int (x3_80 + (1 : Int32))), (1, .long y175_12), (0, .ref (Λ.2.2.2.1 (0, 0, 0)))] rfl ?_
      refine sm_goto hG 80 dL_seen_180 (by decide) ?_
      refine sm_loc [2, 1, 0] [(0, .ref (Λ.2.2.2.1 (0, 0, 0))), (1, .long y175_12), (3, .int (x3_80 + (1 : Int32)))] rfl ?_
      exact hs80 _ _ _
    · refine sl_ldc2 hG (x := (31 : Int64)) 91 rfl dL_seen_88 fl153 ?_
      refine sl_ldc2 hG (x := (31 : Int64)) 94 rfl dL_seen_91 fl153 ?_
      refine sl_ldc2 hG (x := (31 : Int64)) 97 rfl dL_seen_94 fl153 ?_
      refine sl_lload_n hG 98 rfl dL_seen_97 rfl 1 rfl ?_
      refine sl_lmul hG 99 rfl dL_seen_98 ?_
      refine sm_aload_n hG 100 rfl dL_seen_99 rfl 0 rfl ?_
      refine sm_iload_n hG 101 rfl dL_seen_100 rfl 2 rfl ?_
      refine sm_callV hG (fun (q : Int32 × mC) => (some (Value.int q.1), q.2)) (0, 0, 0) [.int x3_80] 104 rfl (ok0 hC) (ce_0 hC _) (ci := 6) rfl (fun r_ hr_ => c0n_X6_lowestNoteOf hC hr_) gL_seen_X6_lowestNoteOf rfl (by decide) (by decide) (n := 1) rfl (Nat.le_of_ble_eq_true rfl) (by decide) (by decide) rfl dL_seen_101 (fun r_101 => ?_)
      refine sl_i2l hG 105 rfl dL_seen_104 ?_
      refine sl_ladd hG 106 rfl dL_seen_105 ?_
      refine sl_lmul hG 107 rfl dL_seen_106 ?_
      refine sl_nml (fun y106_9 => ?_)
      refine sm_aload_n hG 108 rfl dL_seen_107 rfl 0 rfl ?_
      refine sm_iload_n hG 109 rfl dL_seen_108 rfl 2 rfl ?_
      refine sm_callV hG (fun (q : Int32 × mC) => (some (Value.int q.1), q.2)) (0, 0, 0) [.int x3_80] 112 rfl (ok0 hC) (ce_0 hC _) (ci := 6) rfl (fun r_ hr_ => c0n_X6_breakDayOf hC hr_) gL_seen_X6_breakDayOf rfl (by decide) (by decide) (n := 1) rfl (Nat.le_of_ble_eq_true rfl) (by decide) (by decide) rfl dL_seen_109 (fun r_109 => ?_)
      refine sl_i2l hG 113 rfl dL_seen_112 ?_
      refine sl_ladd hG 114 rfl dL_seen_113 ?_
      refine sl_lmul hG 115 rfl dL_seen_114 ?_
      refine sm_aload_n hG 116 rfl dL_seen_115 rfl 0 rfl ?_
      refine sm_iload_n hG 117 rfl dL_seen_116 rfl 2 rfl ?_
      refine sm_callV hG (fun (q : Int32 × mC) => (some (Value.int q.1), q.2)) (0, 0, 0) [.int x3_80] 120 rfl (ok0 hC) (ce_0 hC _) (ci := 6) rfl (fun r_ hr_ => c0n_X6_isInChoir hC hr_) gL_seen_X6_isInChoir rfl (by decide) (by decide) (n := 1) rfl (Nat.le_of_ble_eq_true rfl) (by decide) (by decide) rfl dL_seen_117 (fun r_117 => ?_)
      refine sm_if_eq hG 127 123 rfl dL_seen_120 (by decide) ?_ ?_
      · refine sm_iconst (x := (0 : Int32)) hG 128 rfl dL_seen_127 rfl ?_
        refine sm_loc [0, 2] [(0, .ref (Λ.2.2.2.1 (0, 0, 0))), (3, .int x3_80)] rfl ?_
        exact hj128 _ _ _
      · refine sm_iconst (x := (1 : Int32)) hG 124 rfl dL_seen_123 rfl ?_
        refine sm_goto hG 128 dL_seen_124 (by decide) ?_
        refine sm_loc [0, 2] [(0, .ref (Λ.2.2.2.1 (0, 0, 0))), (3, .int x3_80)] rfl ?_
        exact hj128 _ _ _
abbrev rmL_far : Room := { frames := 0, cells := 0, slots := 0, locals := 0 }
set_option maxRecDepth 100000 in
set_option maxHeartbeats 4000000 in
theorem c_L_far {Λ : jL kC} (hC : LC Λ) {x0 : Int32} {x1 : Int32} {x2 : Int32}  {l : Launch} {v : mC} {r : Int32} (hr_ : f_L_far x0 x1 x2 v = some r) : Ct l yL_far wsL_far rmL_far Λ [.int x0, .int x1, .int x2] v (some (.int r)) v := by
  refine ct_of (cc := cL_far) (maxL := 3) (ret := (some .int)) (fun (q : Int32) => (some (Value.int q), v)) hC.1 hr_ (by decide) rfl (Nat.le_of_ble_eq_true rfl) (fun Γ hG hT hN hl => ?_)
  subst hl
  have fk176 : Cond.constant RL 176 (-2147483648 : Int32) ∈ wsL_far := by decide +kernel
  have fk7 : Cond.constant RL 7 (2147483647 : Int32) ∈ wsL_far := by decide +kernel
  show Sm Γ Λ (0, 0) 0 [(0, .int x0), (1, .int x1), (2, .int x2)] [] v _
  unfold f_L_far
  refine sm_iload_n hG 1 rfl dL_far_0 rfl 0 rfl ?_
  refine sm_if_ne hG 10 4 rfl dL_far_1 (by decide) ?_ ?_
  · refine sm_iload_n hG 11 rfl dL_far_10 rfl 0 rfl ?_
    refine sm_iconst (x := (1 : Int32)) hG 12 rfl dL_far_11 rfl ?_
    refine sm_icmp_ne hG 21 15 rfl dL_far_12 (by decide) ?_ ?_
    · refine sm_iload_n hG 22 rfl dL_far_21 rfl 0 rfl ?_
      refine sm_iconst (x := (2 : Int32)) hG 23 rfl dL_far_22 rfl ?_
      refine sm_icmp_ne hG 31 26 rfl dL_far_23 (by decide) ?_ ?_
      · refine sm_ldc (x := (2147483647 : Int32)) hG 33 rfl dL_far_31 fk7 ?_
        exact sm_iret hG hT (by decide) dL_far_33 rfl
      · refine sm_ldc (x := (-2147483648 : Int32)) hG 28 rfl dL_far_26 fk176 ?_
        refine sm_goto hG 33 dL_far_28 (by decide) ?_
        exact sm_iret hG hT (by decide) dL_far_33 rfl
    · refine sm_iload_n hG 16 rfl dL_far_15 rfl 2 rfl ?_
      refine sm_iconst (x := (1 : Int32)) hG 17 rfl dL_far_16 rfl ?_
      refine sm_iadd hG 18 rfl dL_far_17 ?_
      refine sm_goto hG 33 dL_far_18 (by decide) ?_
      exact sm_iret hG hT (by decide) dL_far_33 rfl
  · refine sm_iload_n hG 5 rfl dL_far_4 rfl 1 rfl ?_
    refine sm_iconst (x := (1 : Int32)) hG 6 rfl dL_far_5 rfl ?_
    refine sm_isub hG 7 rfl dL_far_6 ?_
    refine sm_goto hG 33 dL_far_7 (by decide) ?_
    exact sm_iret hG hT (by decide) dL_far_33 rfl
abbrev rmL_refusesOne : Room := { frames := 14, cells := 185, slots := 1110, locals := 314 }
set_option maxRecDepth 100000 in
set_option maxHeartbeats 4000000 in
theorem c_L_refusesOne {Λ : jL kC} (hC : LC Λ) {x1 : Int32}  {l : Launch} (hfl : l.stackTraces = false) (hX : Xnc Λ) {v : mC} {r : (Int32 × mC)} (hr_ : f_L_refusesOne x1 v = some r) : Ct l yL_refusesOne wsL_refusesOne rmL_refusesOne Λ [.ref (Λ.2.2.2.1 (0, 0, 0)), .int x1] v (some (.int r.1)) r.2 := by
  refine ct_of (cc := cL_refusesOne) (maxL := 6) (ret := (some .boolean)) (fun (q : Int32 × mC) => (some (Value.int q.1), q.2)) hC.1 hr_ (by decide) rfl (Nat.le_of_ble_eq_true rfl) (fun Γ hG hT hN hl => ?_)
  subst hl
  show Sm Γ Λ (0, 0) 0 [(0, .ref (Λ.2.2.2.1 (0, 0, 0))), (1, .int x1)] [] v _
  unfold f_L_refusesOne
  refine sm_iload_n hG 1 rfl dL_refusesOne_0 rfl 1 rfl ?_
  refine sm_iconst (x := (0 : Int32)) hG 2 rfl dL_refusesOne_1 rfl ?_
  refine sm_aload_n hG 3 rfl dL_refusesOne_2 rfl 0 rfl ?_
  refine sm_callV hG (fun (q : Int32) => (some (Value.int q), v)) (0, 0, 0) [] 6 rfl (ok0 hC) (ce_0 hC _) (ci := 6) rfl (fun r_ hr_ => c_X6_singers hC   hr_) gL_refusesOne_X6_singers rfl (by decide) (by decide) (n := 0) rfl (Nat.le_of_ble_eq_true rfl) (by decide) (by decide) rfl dL_refusesOne_3 (fun r_3 => ?_)
  refine sm_iconst (x := (1 : Int32)) hG 7 rfl dL_refusesOne_6 rfl ?_
  refine sm_isub hG 8 rfl dL_refusesOne_7 ?_
  refine sm_callS hG (fun (q : Int32) => (some (Value.int q), v)) [.int x1, .int (0 : Int32), .int (r_3 - (1 : Int32))] 11 rfl (fun r_ hr_ => c_L_far hC   hr_) gL_refusesOne_L_far rfl (by decide) (by decide) (n := 3) rfl (Nat.le_of_ble_eq_true rfl) (by decide) (by decide) rfl dL_refusesOne_8 (fun r_8 => ?_)
  refine sm_istore_n hG 12 rfl dL_refusesOne_11 rfl (jlt hN rfl) [(2, .int r_8), (0, .ref (Λ.2.2.2.1 (0, 0, 0))), (1, .int x1)] rfl ?_
  refine sm_iload_n hG 13 rfl dL_refusesOne_12 rfl 2 rfl ?_
  refine sm_iconst (x := (0 : Int32)) hG 14 rfl dL_refusesOne_13 rfl ?_
  refine sm_aload_n hG 15 rfl dL_refusesOne_14 rfl 1 rfl ?_
  refine sm_callV hG (fun (q : Int32) => (some (Value.int q), v)) (0, 0, 0) [] 18 rfl (ok0 hC) (ce_0 hC _) (ci := 6) rfl (fun r_ hr_ => c_X6_feasts hC   hr_) gL_refusesOne_X6_feasts rfl (by decide) (by decide) (n := 0) rfl (Nat.le_of_ble_eq_true rfl) (by decide) (by decide) rfl dL_refusesOne_15 (fun r_15 => ?_)
  refine sm_iconst (x := (1 : Int32)) hG 19 rfl dL_refusesOne_18 rfl ?_
  refine sm_isub hG 20 rfl dL_refusesOne_19 ?_
  refine sm_callS hG (fun (q : Int32) => (some (Value.int q), v)) [.int x1, .int (0 : Int32), .int (r_15 - (1 : Int32))] 23 rfl (fun r_ hr_ => c_L_far hC   hr_) gL_refusesOne_L_far rfl (by decide) (by decide) (n := 3) rfl (Nat.le_of_ble_eq_true rfl) (by decide) (by decide) rfl dL_refusesOne_20 (fun r_20 => ?_)
  refine sm_istore_n hG 24 rfl dL_refusesOne_23 rfl (jlt hN rfl) [(3, .int r_20), (2, .int r_8), (0, .ref (Λ.2.2.2.1 (0, 0, 0))), (1, .int x1)] rfl ?_
  refine sm_iload_n hG 25 rfl dL_refusesOne_24 rfl 3 rfl ?_
  refine sm_iconst (x := (0 : Int32)) hG 26 rfl dL_refusesOne_25 rfl ?_
  refine sm_iconst (x := (4 : Int32)) hG 27 rfl dL_refusesOne_26 rfl ?_
  refine sm_callS hG (fun (q : Int32) => (some (Value.int q), v)) [.int x1, .int (0 : Int32), .int (4 : Int32)] 30 rfl (fun r_ hr_ => c_L_far hC   hr_) gL_refusesOne_L_far rfl (by decide) (by decide) (n := 3) rfl (Nat.le_of_ble_eq_true rfl) (by decide) (by decide) rfl dL_refusesOne_27 (fun r_27 => ?_)
  refine sm_istore hG 32 rfl dL_refusesOne_30 (jlt hN rfl) [(4, .int r_27), (3, .int r_20), (2, .int r_8), (0, .ref (Λ.2.2.2.1 (0, 0, 0))), (1, .int x1)] rfl ?_
  refine sm_aload_n hG 33 rfl dL_refusesOne_32 rfl 3 rfl ?_
  refine sm_iload_n hG 34 rfl dL_refusesOne_33 rfl 4 rfl ?_
  refine sm_bipush (x := (7 : Int32)) hG 36 rfl dL_refusesOne_34 rfl ?_
  refine sm_bipush (x := (70 : Int32)) hG 38 rfl dL_refusesOne_36 rfl ?_
  refine sm_callS hG (fun (q : Int32) => (some (Value.int q), v)) [.int x1, .int (7 : Int32), .int (70 : Int32)] 41 rfl (fun r_ hr_ => c_L_far hC   hr_) gL_refusesOne_L_far rfl (by decide) (by decide) (n := 3) rfl (Nat.le_of_ble_eq_true rfl) (by decide) (by decide) rfl dL_refusesOne_38 (fun r_38 => ?_)
  refine sm_sipush (x := (150 : Int32)) hG 44 rfl dL_refusesOne_41 rfl ?_
  refine sm_iconst (x := (0 : Int32)) hG 45 rfl dL_refusesOne_44 rfl ?_
  refine sm_bipush (x := (48 : Int32)) hG 47 rfl dL_refusesOne_45 rfl ?_
  refine sm_iconst (x := (0 : Int32)) hG 48 rfl dL_refusesOne_47 rfl ?_
  refine sm_hcallS hG [.ref (Λ.2.2.2.1 (0, 0, 0)), .int r_38, .int (150 : Int32), .int (0 : Int32), .int (48 : Int32), .int (0 : Int32)] 51 rfl (fun r_ hr_ => c_L_registered hC hfl hX hr_) gL_refusesOne_L_registered rfl (by decide) (by decide) (n := 6) rfl (Nat.le_of_ble_eq_true rfl) (1, 6) ⟨rfl, rfl⟩ (by decide) rfl dL_refusesOne_48 (fun r_48 => ?_)
  refine sm_sipush (x := (-2012 : Int32)) hG 54 rfl dL_refusesOne_51 rfl ?_
  refine sm_icmp_ne hG 280 57 rfl dL_refusesOne_54 (by decide) ?_ ?_
  · refine sm_iconst (x := (0 : Int32)) hG 281 rfl dL_refusesOne_280 rfl ?_
    exact sm_bret hG hT (by decide) dL_refusesOne_281 rfl
  · refine sm_aload_n hG 58 rfl dL_refusesOne_57 rfl 3 rfl ?_
    refine sm_bipush (x := (70 : Int32)) hG 60 rfl dL_refusesOne_58 rfl ?_
    refine sm_iload_n hG 61 rfl dL_refusesOne_60 rfl 4 rfl ?_
    refine sm_bipush (x := (90 : Int32)) hG 63 rfl dL_refusesOne_61 rfl ?_
    refine sm_sipush (x := (210 : Int32)) hG 66 rfl dL_refusesOne_63 rfl ?_
    refine sm_callS hG (fun (q : Int32) => (some (Value.int q), r_48.2)) [.int x1, .int (90 : Int32), .int (210 : Int32)] 69 rfl (fun r_ hr_ => c_L_far hC   hr_) gL_refusesOne_L_far rfl (by decide) (by decide) (n := 3) rfl (Nat.le_of_ble_eq_true rfl) (by decide) (by decide) rfl dL_refusesOne_66 (fun r_66 => ?_)
    refine sm_iconst (x := (0 : Int32)) hG 70 rfl dL_refusesOne_69 rfl ?_
    refine sm_bipush (x := (48 : Int32)) hG 72 rfl dL_refusesOne_70 rfl ?_
    refine sm_iconst (x := (0 : Int32)) hG 73 rfl dL_refusesOne_72 rfl ?_
    refine sm_hcallS hG [.ref (Λ.2.2.2.1 (0, 0, 0)), .int (70 : Int32), .int r_66, .int (0 : Int32), .int (48 : Int32), .int (0 : Int32)] 76 rfl (fun r_ hr_ => c_L_registered hC hfl hX hr_) gL_refusesOne_L_registered rfl (by decide) (by decide) (n := 6) rfl (Nat.le_of_ble_eq_true rfl) (2, 12) ⟨rfl, rfl⟩ (by decide) rfl dL_refusesOne_73 (fun r_73 => ?_)
    refine sm_sipush (x := (-2012 : Int32)) hG 79 rfl dL_refusesOne_76 rfl ?_
    refine sm_icmp_ne hG 280 82 rfl dL_refusesOne_79 (by decide) ?_ ?_
    · refine sm_iconst (x := (0 : Int32)) hG 281 rfl dL_refusesOne_280 rfl ?_
      exact sm_bret hG hT (by decide) dL_refusesOne_281 rfl
    · refine sm_aload_n hG 83 rfl dL_refusesOne_82 rfl 3 rfl ?_
      refine sm_bipush (x := (7 : Int32)) hG 85 rfl dL_refusesOne_83 rfl ?_
      refine sm_bipush (x := (90 : Int32)) hG 87 rfl dL_refusesOne_85 rfl ?_
      refine sm_iload_n hG 88 rfl dL_refusesOne_87 rfl 4 rfl ?_
      refine sm_iconst (x := (0 : Int32)) hG 89 rfl dL_refusesOne_88 rfl ?_
      refine sm_bipush (x := (48 : Int32)) hG 91 rfl dL_refusesOne_89 rfl ?_
      refine sm_callS hG (fun (q : Int32) => (some (Value.int q), r_73.2)) [.int x1, .int (0 : Int32), .int (48 : Int32)] 94 rfl (fun r_ hr_ => c_L_far hC   hr_) gL_refusesOne_L_far rfl (by decide) (by decide) (n := 3) rfl (Nat.le_of_ble_eq_true rfl) (by decide) (by decide) rfl dL_refusesOne_91 (fun r_91 => ?_)
      refine sm_bipush (x := (48 : Int32)) hG 96 rfl dL_refusesOne_94 rfl ?_
      refine sm_bipush (x := (12 : Int32)) hG 98 rfl dL_refusesOne_96 rfl ?_
      refine sm_hcallS hG [.ref (Λ.2.2.2.1 (0, 0, 0)), .int (7 : Int32), .int (90 : Int32), .int r_91, .int (48 : Int32), .int (12 : Int32)] 101 rfl (fun r_ hr_ => c_L_registered hC hfl hX hr_) gL_refusesOne_L_registered rfl (by decide) (by decide) (n := 6) rfl (Nat.le_of_ble_eq_true rfl) (3, 18) ⟨rfl, rfl⟩ (by decide) rfl dL_refusesOne_98 (fun r_98 => ?_)
      refine sm_sipush (x := (-2012 : Int32)) hG 104 rfl dL_refusesOne_101 rfl ?_
      refine sm_icmp_ne hG 280 107 rfl dL_refusesOne_104 (by decide) ?_ ?_
      · refine sm_iconst (x := (0 : Int32)) hG 281 rfl dL_refusesOne_280 rfl ?_
        exact sm_bret hG hT (by decide) dL_refusesOne_281 rfl
      · refine sm_aload_n hG 108 rfl dL_refusesOne_107 rfl 3 rfl ?_
        refine sm_bipush (x := (7 : Int32)) hG 110 rfl dL_refusesOne_108 rfl ?_
        refine sm_sipush (x := (210 : Int32)) hG 113 rfl dL_refusesOne_110 rfl ?_
        refine sm_bipush (x := (20 : Int32)) hG 115 rfl dL_refusesOne_113 rfl ?_
        refine sm_iload_n hG 116 rfl dL_refusesOne_115 rfl 4 rfl ?_
        refine sm_bipush (x := (20 : Int32)) hG 118 rfl dL_refusesOne_116 rfl ?_
        refine sm_bipush (x := (48 : Int32)) hG 120 rfl dL_refusesOne_118 rfl ?_
        refine sm_callS hG (fun (q : Int32) => (some (Value.int q), r_98.2)) [.int x1, .int (20 : Int32), .int (48 : Int32)] 123 rfl (fun r_ hr_ => c_L_far hC   hr_) gL_refusesOne_L_far rfl (by decide) (by decide) (n := 3) rfl (Nat.le_of_ble_eq_true rfl) (by decide) (by decide) rfl dL_refusesOne_120 (fun r_120 => ?_)
        refine sm_bipush (x := (17 : Int32)) hG 125 rfl dL_refusesOne_123 rfl ?_
        refine sm_hcallS hG [.ref (Λ.2.2.2.1 (0, 0, 0)), .int (7 : Int32), .int (210 : Int32), .int (20 : Int32), .int r_120, .int (17 : Int32)] 128 rfl (fun r_ hr_ => c_L_registered hC hfl hX hr_) gL_refusesOne_L_registered rfl (by decide) (by decide) (n := 6) rfl (Nat.le_of_ble_eq_true rfl) (4, 24) ⟨rfl, rfl⟩ (by decide) rfl dL_refusesOne_125 (fun r_125 => ?_)
        refine sm_sipush (x := (-2012 : Int32)) hG 131 rfl dL_refusesOne_128 rfl ?_
        refine sm_icmp_ne hG 280 134 rfl dL_refusesOne_131 (by decide) ?_ ?_
        · refine sm_iconst (x := (0 : Int32)) hG 281 rfl dL_refusesOne_280 rfl ?_
          exact sm_bret hG hT (by decide) dL_refusesOne_281 rfl
        · refine sm_jn (fun (X158 : Int32 → Int32 → Int32 → Int32 → Int32 → Option (Int32 × mC)) => ∀ (s0_158 : Int32) (s1_158 : Int32) (s2_158 : Int32) (s3_158 : Int32) (s4_158 : Int32), Sm Γ Λ (4, 24) 158 [(0, .ref (Λ.2.2.2.1 (0, 0, 0))), (1, .int x1), (2, .int r_8), (3, .int r_20), (4, .int r_27)] [.int s0_158, .int s1_158, .int s2_158, .int s3_158, .int s4_158, .ref (Λ.2.2.2.1 (0, 0, 0))] r_125.2 (X158 s0_158 s1_158 s2_158 s3_158 s4_158)) (fun s0_158 s1_158 s2_158 s3_158 s4_158 => ?_) (fun j158 hj158 => ?_)
          · refine sm_hcallS hG [.ref (Λ.2.2.2.1 (0, 0, 0)), .int s4_158, .int s3_158, .int s2_158, .int s1_158, .int s0_158] 161 rfl (fun r_ hr_ => c_L_registered hC hfl hX hr_) gL_refusesOne_L_registered rfl (by decide) (by decide) (n := 6) rfl (Nat.le_of_ble_eq_true rfl) (5, 30) ⟨rfl, rfl⟩ (by decide) rfl dL_refusesOne_158 (fun r_158 => ?_)
            refine sm_sipush (x := (-2012 : Int32)) hG 164 rfl dL_refusesOne_161 rfl ?_
            refine sm_icmp_ne hG 280 167 rfl dL_refusesOne_164 (by decide) ?_ ?_
            · refine sm_iconst (x := (0 : Int32)) hG 281 rfl dL_refusesOne_280 rfl ?_
              exact sm_bret hG hT (by decide) dL_refusesOne_281 rfl
            · refine sm_aload_n hG 168 rfl dL_refusesOne_167 rfl 0 rfl ?_
              refine sm_iload hG 170 rfl dL_refusesOne_168 4 rfl ?_
              refine sm_bipush (x := (99 : Int32)) hG 172 rfl dL_refusesOne_170 rfl ?_
              refine sm_iconst (x := (0 : Int32)) hG 173 rfl dL_refusesOne_172 rfl ?_
              refine sm_iconst (x := (0 : Int32)) hG 174 rfl dL_refusesOne_173 rfl ?_
              refine sm_iconst (x := (0 : Int32)) hG 175 rfl dL_refusesOne_174 rfl ?_
              refine sm_hcallS hG [.ref (Λ.2.2.2.1 (0, 0, 0)), .int r_27, .int (99 : Int32), .int (0 : Int32), .int (0 : Int32), .int (0 : Int32)] 178 rfl (fun r_ hr_ => c_L_borrowed hC hfl hX hr_) gL_refusesOne_L_borrowed rfl (by decide) (by decide) (n := 6) rfl (Nat.le_of_ble_eq_true rfl) (6, 36) ⟨rfl, rfl⟩ (by decide) rfl dL_refusesOne_175 (fun r_175 => ?_)
              refine sm_sipush (x := (-2011 : Int32)) hG 181 rfl dL_refusesOne_178 rfl ?_
              refine sm_icmp_ne hG 280 184 rfl dL_refusesOne_181 (by decide) ?_ ?_
              · refine sm_iconst (x := (0 : Int32)) hG 281 rfl dL_refusesOne_280 rfl ?_
                exact sm_bret hG hT (by decide) dL_refusesOne_281 rfl
              · refine sm_aload_n hG 185 rfl dL_refusesOne_184 rfl 0 rfl ?_
                refine sm_iconst (x := (4 : Int32)) hG 186 rfl dL_refusesOne_185 rfl ?_
                refine sm_iload_n hG 187 rfl dL_refusesOne_186 rfl 1 rfl ?_
                refine sm_iconst (x := (0 : Int32)) hG 188 rfl dL_refusesOne_187 rfl ?_
                refine sm_bipush (x := (9 : Int32)) hG 190 rfl dL_refusesOne_188 rfl ?_
                refine sm_callS hG (fun (q : Int32) => (some (Value.int q), r_175.2)) [.int x1, .int (0 : Int32), .int (9 : Int32)] 193 rfl (fun r_ hr_ => c_L_far hC   hr_) gL_refusesOne_L_far rfl (by decide) (by decide) (n := 3) rfl (Nat.le_of_ble_eq_true rfl) (by decide) (by decide) rfl dL_refusesOne_190 (fun r_190 => ?_)
                refine sm_sipush (x := (150 : Int32)) hG 196 rfl dL_refusesOne_193 rfl ?_
                refine sm_bipush (x := (40 : Int32)) hG 198 rfl dL_refusesOne_196 rfl ?_
                refine sm_iconst (x := (5 : Int32)) hG 199 rfl dL_refusesOne_198 rfl ?_
                refine sm_hcallS hG [.ref (Λ.2.2.2.1 (0, 0, 0)), .int (4 : Int32), .int r_190, .int (150 : Int32), .int (40 : Int32), .int (5 : Int32)] 202 rfl (fun r_ hr_ => c_L_borrowed hC hfl hX hr_) gL_refusesOne_L_borrowed rfl (by decide) (by decide) (n := 6) rfl (Nat.le_of_ble_eq_true rfl) (7, 42) ⟨rfl, rfl⟩ (by decide) rfl dL_refusesOne_199 (fun r_199 => ?_)
                refine sm_sipush (x := (-2012 : Int32)) hG 205 rfl dL_refusesOne_202 rfl ?_
                refine sm_icmp_ne hG 280 208 rfl dL_refusesOne_205 (by decide) ?_ ?_
                · refine sm_iconst (x := (0 : Int32)) hG 281 rfl dL_refusesOne_280 rfl ?_
                  exact sm_bret hG hT (by decide) dL_refusesOne_281 rfl
                · refine sm_aload_n hG 209 rfl dL_refusesOne_208 rfl 0 rfl ?_
                  refine sm_iconst (x := (4 : Int32)) hG 210 rfl dL_refusesOne_209 rfl ?_
                  refine sm_iconst (x := (0 : Int32)) hG 211 rfl dL_refusesOne_210 rfl ?_
                  refine sm_iload_n hG 212 rfl dL_refusesOne_211 rfl 1 rfl ?_
                  refine sm_bipush (x := (90 : Int32)) hG 214 rfl dL_refusesOne_212 rfl ?_
                  refine sm_sipush (x := (210 : Int32)) hG 217 rfl dL_refusesOne_214 rfl ?_
                  refine sm_callS hG (fun (q : Int32) => (some (Value.int q), r_199.2)) [.int x1, .int (90 : Int32), .int (210 : Int32)] 220 rfl (fun r_ hr_ => c_L_far hC   hr_) gL_refusesOne_L_far rfl (by decide) (by decide) (n := 3) rfl (Nat.le_of_ble_eq_true rfl) (by decide) (by decide) rfl dL_refusesOne_217 (fun r_217 => ?_)
                  refine sm_bipush (x := (40 : Int32)) hG 222 rfl dL_refusesOne_220 rfl ?_
                  refine sm_iconst (x := (5 : Int32)) hG 223 rfl dL_refusesOne_222 rfl ?_
                  refine sm_hcallS hG [.ref (Λ.2.2.2.1 (0, 0, 0)), .int (4 : Int32), .int (0 : Int32), .int r_217, .int (40 : Int32), .int (5 : Int32)] 226 rfl (fun r_ hr_ => c_L_borrowed hC hfl hX hr_) gL_refusesOne_L_borrowed rfl (by decide) (by decide) (n := 6) rfl (Nat.le_of_ble_eq_true rfl) (8, 48) ⟨rfl, rfl⟩ (by decide) rfl dL_refusesOne_223 (fun r_223 => ?_)
                  refine sm_sipush (x := (-2012 : Int32)) hG 229 rfl dL_refusesOne_226 rfl ?_
                  refine sm_icmp_ne hG 280 232 rfl dL_refusesOne_229 (by decide) ?_ ?_
                  · refine sm_iconst (x := (0 : Int32)) hG 281 rfl dL_refusesOne_280 rfl ?_
                    exact sm_bret hG hT (by decide) dL_refusesOne_281 rfl
                  · refine sm_aload_n hG 233 rfl dL_refusesOne_232 rfl 0 rfl ?_
                    refine sm_iconst (x := (4 : Int32)) hG 234 rfl dL_refusesOne_233 rfl ?_
                    refine sm_iconst (x := (0 : Int32)) hG 235 rfl dL_refusesOne_234 rfl ?_
                    refine sm_sipush (x := (150 : Int32)) hG 238 rfl dL_refusesOne_235 rfl ?_
                    refine sm_iload_n hG 239 rfl dL_refusesOne_238 rfl 1 rfl ?_
                    refine sm_bipush (x := (20 : Int32)) hG 241 rfl dL_refusesOne_239 rfl ?_
                    refine sm_bipush (x := (48 : Int32)) hG 243 rfl dL_refusesOne_241 rfl ?_
                    refine sm_callS hG (fun (q : Int32) => (some (Value.int q), r_223.2)) [.int x1, .int (20 : Int32), .int (48 : Int32)] 246 rfl (fun r_ hr_ => c_L_far hC   hr_) gL_refusesOne_L_far rfl (by decide) (by decide) (n := 3) rfl (Nat.le_of_ble_eq_true rfl) (by decide) (by decide) rfl dL_refusesOne_243 (fun r_243 => ?_)
                    refine sm_iconst (x := (5 : Int32)) hG 247 rfl dL_refusesOne_246 rfl ?_
                    refine sm_hcallS hG [.ref (Λ.2.2.2.1 (0, 0, 0)), .int (4 : Int32), .int (0 : Int32), .int (150 : Int32), .int r_243, .int (5 : Int32)] 250 rfl (fun r_ hr_ => c_L_borrowed hC hfl hX hr_) gL_refusesOne_L_borrowed rfl (by decide) (by decide) (n := 6) rfl (Nat.le_of_ble_eq_true rfl) (9, 54) ⟨rfl, rfl⟩ (by decide) rfl dL_refusesOne_247 (fun r_247 => ?_)
                    refine sm_sipush (x := (-2012 : Int32)) hG 253 rfl dL_refusesOne_250 rfl ?_
                    refine sm_icmp_ne hG 280 256 rfl dL_refusesOne_253 (by decide) ?_ ?_
                    · refine sm_iconst (x := (0 : Int32)) hG 281 rfl dL_refusesOne_280 rfl ?_
                      exact sm_bret hG hT (by decide) dL_refusesOne_281 rfl
                    · refine sm_aload_n hG 257 rfl dL_refusesOne_256 rfl 0 rfl ?_
                      refine sm_iconst (x := (4 : Int32)) hG 258 rfl dL_refusesOne_257 rfl ?_
                      refine sm_iconst (x := (0 : Int32)) hG 259 rfl dL_refusesOne_258 rfl ?_
                      refine sm_sipush (x := (150 : Int32)) hG 262 rfl dL_refusesOne_259 rfl ?_
                      refine sm_bipush (x := (40 : Int32)) hG 264 rfl dL_refusesOne_262 rfl ?_
                      refine sm_iload_n hG 265 rfl dL_refusesOne_264 rfl 1 rfl ?_
                      refine sm_iconst (x := (1 : Int32)) hG 266 rfl dL_refusesOne_265 rfl ?_
                      refine sm_bipush (x := (90 : Int32)) hG 268 rfl dL_refusesOne_266 rfl ?_
                      refine sm_callS hG (fun (q : Int32) => (some (Value.int q), r_247.2)) [.int x1, .int (1 : Int32), .int (90 : Int32)] 271 rfl (fun r_ hr_ => c_L_far hC   hr_) gL_refusesOne_L_far rfl (by decide) (by decide) (n := 3) rfl (Nat.le_of_ble_eq_true rfl) (by decide) (by decide) rfl dL_refusesOne_268 (fun r_268 => ?_)
                      refine sm_hcallS hG [.ref (Λ.2.2.2.1 (0, 0, 0)), .int (4 : Int32), .int (0 : Int32), .int (150 : Int32), .int (40 : Int32), .int r_268] 274 rfl (fun r_ hr_ => c_L_borrowed hC hfl hX hr_) gL_refusesOne_L_borrowed rfl (by decide) (by decide) (n := 6) rfl (Nat.le_of_ble_eq_true rfl) (10, 60) ⟨rfl, rfl⟩ (by decide) rfl dL_refusesOne_271 (fun r_271 => ?_)
                      refine sm_sipush (x := (-2012 : Int32)) hG 277 rfl dL_refusesOne_274 rfl ?_
                      refine sm_icmp_eq hG 282 280 rfl dL_refusesOne_277 (by decide) ?_ ?_
                      · refine sm_aload_n hG 283 rfl dL_refusesOne_282 rfl 0 rfl ?_
                        refine sm_iconst (x := (1 : Int32)) hG 284 rfl dL_refusesOne_283 rfl ?_
                        refine sm_iload_n hG 285 rfl dL_refusesOne_284 rfl 2 rfl ?_
                        refine sm_iconst (x := (0 : Int32)) hG 286 rfl dL_refusesOne_285 rfl ?_
                        refine sm_iconst (x := (0 : Int32)) hG 287 rfl dL_refusesOne_286 rfl ?_
                        refine sm_hcallS hG [.ref (Λ.2.2.2.1 (0, 0, 0)), .int (1 : Int32), .int r_8, .int (0 : Int32), .int (0 : Int32)] 290 rfl (fun r_ hr_ => c_L_call hC hfl hX hr_) gL_refusesOne_L_call rfl (by decide) (by decide) (n := 5) rfl (Nat.le_of_ble_eq_true rfl) (14, 84) ⟨rfl, rfl⟩ (by decide) rfl dL_refusesOne_287 (fun r_287 => ?_)
                        refine sm_sipush (x := (-2011 : Int32)) hG 293 rfl dL_refusesOne_290 rfl ?_
                        refine sm_icmp_ne hG 454 296 rfl dL_refusesOne_293 (by decide) ?_ ?_
                        · refine sm_iconst (x := (0 : Int32)) hG 455 rfl dL_refusesOne_454 rfl ?_
                          exact sm_bret hG hT (by decide) dL_refusesOne_455 rfl
                        · refine sm_aload_n hG 297 rfl dL_refusesOne_296 rfl 0 rfl ?_
                          refine sm_iconst (x := (3 : Int32)) hG 298 rfl dL_refusesOne_297 rfl ?_
                          refine sm_iload_n hG 299 rfl dL_refusesOne_298 rfl 2 rfl ?_
                          refine sm_iconst (x := (0 : Int32)) hG 300 rfl dL_refusesOne_299 rfl ?_
                          refine sm_iconst (x := (0 : Int32)) hG 301 rfl dL_refusesOne_300 rfl ?_
                          refine sm_hcallS hG [.ref (Λ.2.2.2.1 (0, 0, 0)), .int (3 : Int32), .int r_8, .int (0 : Int32), .int (0 : Int32)] 304 rfl (fun r_ hr_ => c_L_call hC hfl hX hr_) gL_refusesOne_L_call rfl (by decide) (by decide) (n := 5) rfl (Nat.le_of_ble_eq_true rfl) (18, 108) ⟨rfl, rfl⟩ (by decide) rfl dL_refusesOne_301 (fun r_301 => ?_)
                          refine sm_sipush (x := (-2011 : Int32)) hG 307 rfl dL_refusesOne_304 rfl ?_
                          refine sm_icmp_ne hG 454 310 rfl dL_refusesOne_307 (by decide) ?_ ?_
                          · refine sm_iconst (x := (0 : Int32)) hG 455 rfl dL_refusesOne_454 rfl ?_
                            exact sm_bret hG hT (by decide) dL_refusesOne_455 rfl
                          · refine sm_aload_n hG 311 rfl dL_refusesOne_310 rfl 0 rfl ?_
                            refine sm_iconst (x := (4 : Int32)) hG 312 rfl dL_refusesOne_311 rfl ?_
                            refine sm_iload_n hG 313 rfl dL_refusesOne_312 rfl 2 rfl ?_
                            refine sm_iconst (x := (0 : Int32)) hG 314 rfl dL_refusesOne_313 rfl ?_
                            refine sm_iconst (x := (0 : Int32)) hG 315 rfl dL_refusesOne_314 rfl ?_
                            refine sm_hcallS hG [.ref (Λ.2.2.2.1 (0, 0, 0)), .int (4 : Int32), .int r_8, .int (0 : Int32), .int (0 : Int32)] 318 rfl (fun r_ hr_ => c_L_call hC hfl hX hr_) gL_refusesOne_L_call rfl (by decide) (by decide) (n := 5) rfl (Nat.le_of_ble_eq_true rfl) (22, 132) ⟨rfl, rfl⟩ (by decide) rfl dL_refusesOne_315 (fun r_315 => ?_)
                            refine sm_sipush (x := (-2011 : Int32)) hG 321 rfl dL_refusesOne_318 rfl ?_
                            refine sm_icmp_ne hG 454 324 rfl dL_refusesOne_321 (by decide) ?_ ?_
                            · refine sm_iconst (x := (0 : Int32)) hG 455 rfl dL_refusesOne_454 rfl ?_
                              exact sm_bret hG hT (by decide) dL_refusesOne_455 rfl
                            · refine sm_aload_n hG 325 rfl dL_refusesOne_324 rfl 0 rfl ?_
                              refine sm_iconst (x := (5 : Int32)) hG 326 rfl dL_refusesOne_325 rfl ?_
                              refine sm_iload_n hG 327 rfl dL_refusesOne_326 rfl 1 rfl ?_
                              refine sm_aload_n hG 328 rfl dL_refusesOne_327 rfl 0 rfl ?_
                              refine sm_callV hG (fun (q : Int32) => (some (Value.int q), r_315.2)) (0, 0, 0) [] 331 rfl (ok0 hC) (ce_0 hC _) (ci := 6) rfl (fun r_ hr_ => c_X6_day hC   hr_) gL_refusesOne_X6_day rfl (by decide) (by decide) (n := 0) rfl (Nat.le_of_ble_eq_true rfl) (by decide) (by decide) rfl dL_refusesOne_328 (fun r_328 => ?_)
                              refine sm_iconst (x := (1 : Int32)) hG 332 rfl dL_refusesOne_331 rfl ?_
                              refine sm_iadd hG 333 rfl dL_refusesOne_332 ?_
                              refine sm_sipush (x := (9999 : Int32)) hG 336 rfl dL_refusesOne_333 rfl ?_
                              refine sm_callS hG (fun (q : Int32) => (some (Value.int q), r_315.2)) [.int x1, .int (r_328 + (1 : Int32)), .int (9999 : Int32)] 339 rfl (fun r_ hr_ => c_L_far hC   hr_) gL_refusesOne_L_far rfl (by decide) (by decide) (n := 3) rfl (Nat.le_of_ble_eq_true rfl) (by decide) (by decide) rfl dL_refusesOne_336 (fun r_336 => ?_)
                              refine sm_iconst (x := (1 : Int32)) hG 340 rfl dL_refusesOne_339 rfl ?_
                              refine sm_iconst (x := (0 : Int32)) hG 341 rfl dL_refusesOne_340 rfl ?_
                              refine sm_hcallS hG [.ref (Λ.2.2.2.1 (0, 0, 0)), .int (5 : Int32), .int r_336, .int (1 : Int32), .int (0 : Int32)] 344 rfl (fun r_ hr_ => c_L_call hC hfl hX hr_) gL_refusesOne_L_call rfl (by decide) (by decide) (n := 5) rfl (Nat.le_of_ble_eq_true rfl) (26, 156) ⟨rfl, rfl⟩ (by decide) rfl dL_refusesOne_341 (fun r_341 => ?_)
                              refine sm_sipush (x := (-2012 : Int32)) hG 347 rfl dL_refusesOne_344 rfl ?_
                              refine sm_icmp_ne hG 454 350 rfl dL_refusesOne_347 (by decide) ?_ ?_
                              · refine sm_iconst (x := (0 : Int32)) hG 455 rfl dL_refusesOne_454 rfl ?_
                                exact sm_bret hG hT (by decide) dL_refusesOne_455 rfl
                              · refine sm_aload_n hG 351 rfl dL_refusesOne_350 rfl 0 rfl ?_
                                refine sm_iconst (x := (5 : Int32)) hG 352 rfl dL_refusesOne_351 rfl ?_
                                refine sm_sipush (x := (9999 : Int32)) hG 355 rfl dL_refusesOne_352 rfl ?_
                                refine sm_iload_n hG 356 rfl dL_refusesOne_355 rfl 1 rfl ?_
                                refine sm_iconst (x := (1 : Int32)) hG 357 rfl dL_refusesOne_356 rfl ?_
                                refine sm_iconst (x := (3 : Int32)) hG 358 rfl dL_refusesOne_357 rfl ?_
                                refine sm_callS hG (fun (q : Int32) => (some (Value.int q), r_341.2)) [.int x1, .int (1 : Int32), .int (3 : Int32)] 361 rfl (fun r_ hr_ => c_L_far hC   hr_) gL_refusesOne_L_far rfl (by decide) (by decide) (n := 3) rfl (Nat.le_of_ble_eq_true rfl) (by decide) (by decide) rfl dL_refusesOne_358 (fun r_358 => ?_)
                                refine sm_iconst (x := (0 : Int32)) hG 362 rfl dL_refusesOne_361 rfl ?_
                                refine sm_hcallS hG [.ref (Λ.2.2.2.1 (0, 0, 0)), .int (5 : Int32), .int (9999 : Int32), .int r_358, .int (0 : Int32)] 365 rfl (fun r_ hr_ => c_L_call hC hfl hX hr_) gL_refusesOne_L_call rfl (by decide) (by decide) (n := 5) rfl (Nat.le_of_ble_eq_true rfl) (30, 180) ⟨rfl, rfl⟩ (by decide) rfl dL_refusesOne_362 (fun r_362 => ?_)
                                refine sm_sipush (x := (-2012 : Int32)) hG 368 rfl dL_refusesOne_365 rfl ?_
                                refine sm_icmp_ne hG 454 371 rfl dL_refusesOne_368 (by decide) ?_ ?_
                                · refine sm_iconst (x := (0 : Int32)) hG 455 rfl dL_refusesOne_454 rfl ?_
                                  exact sm_bret hG hT (by decide) dL_refusesOne_455 rfl
                                · refine sm_aload_n hG 372 rfl dL_refusesOne_371 rfl 0 rfl ?_
                                  refine sm_bipush (x := (6 : Int32)) hG 374 rfl dL_refusesOne_372 rfl ?_
                                  refine sm_iload_n hG 375 rfl dL_refusesOne_374 rfl 3 rfl ?_
                                  refine sm_iconst (x := (0 : Int32)) hG 376 rfl dL_refusesOne_375 rfl ?_
                                  refine sm_bipush (x := (7 : Int32)) hG 378 rfl dL_refusesOne_376 rfl ?_
                                  refine sm_hcallS hG [.ref (Λ.2.2.2.1 (0, 0, 0)), .int (6 : Int32), .int r_20, .int (0 : Int32), .int (7 : Int32)] 381 rfl (fun r_ hr_ => c_L_call hC hfl hX hr_) gL_refusesOne_L_call rfl (by decide) (by decide) (n := 5) rfl (Nat.le_of_ble_eq_true rfl) (34, 204) ⟨rfl, rfl⟩ (by decide) rfl dL_refusesOne_378 (fun r_378 => ?_)
                                  refine sm_sipush (x := (-2011 : Int32)) hG 384 rfl dL_refusesOne_381 rfl ?_
                                  refine sm_icmp_ne hG 454 387 rfl dL_refusesOne_384 (by decide) ?_ ?_
                                  · refine sm_iconst (x := (0 : Int32)) hG 455 rfl dL_refusesOne_454 rfl ?_
                                    exact sm_bret hG hT (by decide) dL_refusesOne_455 rfl
                                  · refine sm_aload_n hG 388 rfl dL_refusesOne_387 rfl 0 rfl ?_
                                    refine sm_bipush (x := (7 : Int32)) hG 390 rfl dL_refusesOne_388 rfl ?_
                                    refine sm_iload_n hG 391 rfl dL_refusesOne_390 rfl 1 rfl ?_
                                    refine sm_iconst (x := (1 : Int32)) hG 392 rfl dL_refusesOne_391 rfl ?_
                                    refine sm_bipush (x := (99 : Int32)) hG 394 rfl dL_refusesOne_392 rfl ?_
                                    refine sm_callS hG (fun (q : Int32) => (some (Value.int q), r_378.2)) [.int x1, .int (1 : Int32), .int (99 : Int32)] 397 rfl (fun r_ hr_ => c_L_far hC   hr_) gL_refusesOne_L_far rfl (by decide) (by decide) (n := 3) rfl (Nat.le_of_ble_eq_true rfl) (by decide) (by decide) rfl dL_refusesOne_394 (fun r_394 => ?_)
                                    refine sm_iconst (x := (0 : Int32)) hG 398 rfl dL_refusesOne_397 rfl ?_
                                    refine sm_iconst (x := (0 : Int32)) hG 399 rfl dL_refusesOne_398 rfl ?_
                                    refine sm_hcallS hG [.ref (Λ.2.2.2.1 (0, 0, 0)), .int (7 : Int32), .int r_394, .int (0 : Int32), .int (0 : Int32)] 402 rfl (fun r_ hr_ => c_L_call hC hfl hX hr_) gL_refusesOne_L_call rfl (by decide) (by decide) (n := 5) rfl (Nat.le_of_ble_eq_true rfl) (38, 228) ⟨rfl, rfl⟩ (by decide) rfl dL_refusesOne_399 (fun r_399 => ?_)
                                    refine sm_sipush (x := (-2012 : Int32)) hG 405 rfl dL_refusesOne_402 rfl ?_
                                    refine sm_icmp_ne hG 454 408 rfl dL_refusesOne_405 (by decide) ?_ ?_
                                    · refine sm_iconst (x := (0 : Int32)) hG 455 rfl dL_refusesOne_454 rfl ?_
                                      exact sm_bret hG hT (by decide) dL_refusesOne_455 rfl
                                    · refine sm_aload_n hG 409 rfl dL_refusesOne_408 rfl 0 rfl ?_
                                      refine sm_bipush (x := (31 : Int32)) hG 411 rfl dL_refusesOne_409 rfl ?_
                                      refine sm_iconst (x := (0 : Int32)) hG 412 rfl dL_refusesOne_411 rfl ?_
                                      refine sm_iconst (x := (0 : Int32)) hG 413 rfl dL_refusesOne_412 rfl ?_
                                      refine sm_iconst (x := (0 : Int32)) hG 414 rfl dL_refusesOne_413 rfl ?_
                                      refine sm_hcallS hG [.ref (Λ.2.2.2.1 (0, 0, 0)), .int (31 : Int32), .int (0 : Int32), .int (0 : Int32), .int (0 : Int32)] 417 rfl (fun r_ hr_ => c_L_call hC hfl hX hr_) gL_refusesOne_L_call rfl (by decide) (by decide) (n := 5) rfl (Nat.le_of_ble_eq_true rfl) (42, 252) ⟨rfl, rfl⟩ (by decide) rfl dL_refusesOne_414 (fun r_414 => ?_)
                                      refine sm_sipush (x := (-2013 : Int32)) hG 420 rfl dL_refusesOne_417 rfl ?_
                                      refine sm_icmp_ne hG 454 423 rfl dL_refusesOne_420 (by decide) ?_ ?_
                                      · refine sm_iconst (x := (0 : Int32)) hG 455 rfl dL_refusesOne_454 rfl ?_
                                        exact sm_bret hG hT (by decide) dL_refusesOne_455 rfl
                                      · refine sm_aload_n hG 424 rfl dL_refusesOne_423 rfl 0 rfl ?_
                                        refine sm_bipush (x := (32 : Int32)) hG 426 rfl dL_refusesOne_424 rfl ?_
                                        refine sm_iconst (x := (0 : Int32)) hG 427 rfl dL_refusesOne_426 rfl ?_
                                        refine sm_iconst (x := (0 : Int32)) hG 428 rfl dL_refusesOne_427 rfl ?_
                                        refine sm_iconst (x := (0 : Int32)) hG 429 rfl dL_refusesOne_428 rfl ?_
                                        refine sm_hcallS hG [.ref (Λ.2.2.2.1 (0, 0, 0)), .int (32 : Int32), .int (0 : Int32), .int (0 : Int32), .int (0 : Int32)] 432 rfl (fun r_ hr_ => c_L_call hC hfl hX hr_) gL_refusesOne_L_call rfl (by decide) (by decide) (n := 5) rfl (Nat.le_of_ble_eq_true rfl) (46, 276) ⟨rfl, rfl⟩ (by decide) rfl dL_refusesOne_429 (fun r_429 => ?_)
                                        refine sm_sipush (x := (-2013 : Int32)) hG 435 rfl dL_refusesOne_432 rfl ?_
                                        refine sm_icmp_ne hG 454 438 rfl dL_refusesOne_435 (by decide) ?_ ?_
                                        · refine sm_iconst (x := (0 : Int32)) hG 455 rfl dL_refusesOne_454 rfl ?_
                                          exact sm_bret hG hT (by decide) dL_refusesOne_455 rfl
                                        · refine sm_aload_n hG 439 rfl dL_refusesOne_438 rfl 0 rfl ?_
                                          refine sm_bipush (x := (18 : Int32)) hG 441 rfl dL_refusesOne_439 rfl ?_
                                          refine sm_iload hG 443 rfl dL_refusesOne_441 4 rfl ?_
                                          refine sm_iconst (x := (0 : Int32)) hG 444 rfl dL_refusesOne_443 rfl ?_
                                          refine sm_iconst (x := (0 : Int32)) hG 445 rfl dL_refusesOne_444 rfl ?_
                                          refine sm_hcallS hG [.ref (Λ.2.2.2.1 (0, 0, 0)), .int (18 : Int32), .int r_27, .int (0 : Int32), .int (0 : Int32)] 448 rfl (fun r_ hr_ => c_L_call hC hfl hX hr_) gL_refusesOne_L_call rfl (by decide) (by decide) (n := 5) rfl (Nat.le_of_ble_eq_true rfl) (50, 300) ⟨rfl, rfl⟩ (by decide) rfl dL_refusesOne_445 (fun r_445 => ?_)
                                          refine sm_sipush (x := (-2011 : Int32)) hG 451 rfl dL_refusesOne_448 rfl ?_
                                          refine sm_icmp_eq hG 456 454 rfl dL_refusesOne_451 (by decide) ?_ ?_
                                          · refine sm_bipush (x := (8 : Int32)) hG 458 rfl dL_refusesOne_456 rfl ?_
                                            refine sm_istore hG 460 rfl dL_refusesOne_458 (jlt hN rfl) [(5, .int (8 : Int32)), (0, .ref (Λ.2.2.2.1 (0, 0, 0))), (1, .int x1), (2, .int r_8), (3, .int r_20), (4, .int r_27)] rfl ?_
                                            refine sm_iload hG 462 rfl dL_refusesOne_460 0 rfl ?_
                                            refine sm_bipush (x := (18 : Int32)) hG 464 rfl dL_refusesOne_462 rfl ?_
                                            refine sm_icmp_geN hG 490 467 rfl dL_refusesOne_464 (by decide) (by decide) ?_
                                            refine sm_aload_n hG 468 rfl dL_refusesOne_467 rfl 1 rfl ?_
                                            refine sm_iload hG 470 rfl dL_refusesOne_468 0 rfl ?_
                                            refine sm_iload_n hG 471 rfl dL_refusesOne_470 rfl 3 rfl ?_
                                            refine sm_iconst (x := (-1 : Int32)) hG 472 rfl dL_refusesOne_471 rfl ?_
                                            refine sm_iconst (x := (0 : Int32)) hG 473 rfl dL_refusesOne_472 rfl ?_
                                            refine sm_hcallS hG [.ref (Λ.2.2.2.1 (0, 0, 0)), .int (8 : Int32), .int r_8, .int (-1 : Int32), .int (0 : Int32)] 476 rfl (fun r_ hr_ => c_L_call hC hfl hX hr_) gL_refusesOne_L_call rfl (by decide) (by decide) (n := 5) rfl (Nat.le_of_ble_eq_true rfl) (54, 324) ⟨rfl, rfl⟩ (by decide) rfl dL_refusesOne_473 (fun r_473 => ?_)
                                            refine sm_sipush (x := (-2011 : Int32)) hG 479 rfl dL_refusesOne_476 rfl ?_
                                            refine sm_icmp_eq hG 484 482 rfl dL_refusesOne_479 (by decide) ?_ ?_
                                            · refine sm_iinc hG 487 rfl dL_refusesOne_484 (j := 0) rfl rfl (jlt hN rfl) [(5, .int (9 : Int32)), (0, .ref (Λ.2.2.2.1 (0, 0, 0))), (1, .int x1), (2, .int r_8), (3, .int r_20), (4, .int r_27)] rfl ?_
                                              refine sm_goto hG 460 dL_refusesOne_487 (by decide) ?_
                                              refine sm_iload hG 462 rfl dL_refusesOne_460 0 rfl ?_
                                              refine sm_bipush (x := (18 : Int32)) hG 464 rfl dL_refusesOne_462 rfl ?_
                                              refine sm_icmp_geN hG 490 467 rfl dL_refusesOne_464 (by decide) (by decide) ?_
                                              refine sm_aload_n hG 468 rfl dL_refusesOne_467 rfl 1 rfl ?_
                                              refine sm_iload hG 470 rfl dL_refusesOne_468 0 rfl ?_
                                              refine sm_iload_n hG 471 rfl dL_refusesOne_470 rfl 3 rfl ?_
                                              refine sm_iconst (x := (-1 : Int32)) hG 472 rfl dL_refusesOne_471 rfl ?_
                                              refine sm_iconst (x := (0 : Int32)) hG 473 rfl dL_refusesOne_472 rfl ?_
                                              refine sm_hcallS hG [.ref (Λ.2.2.2.1 (0, 0, 0)), .int (9 : Int32), .int r_8, .int (-1 : Int32), .int (0 : Int32)] 476 rfl (fun r_ hr_ => c_L_call hC hfl hX hr_) gL_refusesOne_L_call rfl (by decide) (by decide) (n := 5) rfl (Nat.le_of_ble_eq_true rfl) (58, 348) ⟨rfl, rfl⟩ (by decide) rfl dL_refusesOne_473 (fun r_473_0 => ?_)
                                              refine sm_sipush (x := (-2011 : Int32)) hG 479 rfl dL_refusesOne_476 rfl ?_
                                              refine sm_icmp_eq hG 484 482 rfl dL_refusesOne_479 (by decide) ?_ ?_
                                              · refine sm_iinc hG 487 rfl dL_refusesOne_484 (j := 0) rfl rfl (jlt hN rfl) [(5, .int (10 : Int32)), (0, .ref (Λ.2.2.2.1 (0, 0, 0))), (1, .int x1), (2, .int r_8), (3, .int r_20), (4, .int r_27)] rfl ?_
                                                refine sm_goto hG 460 dL_refusesOne_487 (by decide) ?_
                                                refine sm_iload hG 462 rfl dL_refusesOne_460 0 rfl ?_
                                                refine sm_bipush (x := (18 : Int32)) hG 464 rfl dL_refusesOne_462 rfl ?_
                                                refine sm_icmp_geN hG 490 467 rfl dL_refusesOne_464 (by decide) (by decide) ?_
                                                refine sm_aload_n hG 468 rfl dL_refusesOne_467 rfl 1 rfl ?_
                                                refine sm_iload hG 470 rfl dL_refusesOne_468 0 rfl ?_
                                                refine sm_iload_n hG 471 rfl dL_refusesOne_470 rfl 3 rfl ?_
                                                refine sm_iconst (x := (-1 : Int32)) hG 472 rfl dL_refusesOne_471 rfl ?_
                                                refine sm_iconst (x := (0 : Int32)) hG 473 rfl dL_refusesOne_472 rfl ?_
                                                refine sm_hcallS hG [.ref (Λ.2.2.2.1 (0, 0, 0)), .int (10 : Int32), .int r_8, .int (-1 : Int32), .int (0 : Int32)] 476 rfl (fun r_ hr_ => c_L_call hC hfl hX hr_) gL_refusesOne_L_call rfl (by decide) (by decide) (n := 5) rfl (Nat.le_of_ble_eq_true rfl) (62, 372) ⟨rfl, rfl⟩ (by decide) rfl dL_refusesOne_473 (fun r_473_1 => ?_)
                                                refine sm_sipush (x := (-2011 : Int32)) hG 479 rfl dL_refusesOne_476 rfl ?_
                                                refine sm_icmp_eq hG 484 482 rfl dL_refusesOne_479 (by decide) ?_ ?_
                                                · refine sm_iinc hG 487 rfl dL_refusesOne_484 (j := 0) rfl rfl (jlt hN rfl) [(5, .int (11 : Int32)), (0, .ref (Λ.2.2.2.1 (0, 0, 0))), (1, .int x1), (2, .int r_8), (3, .int r_20), (4, .int r_27)] rfl ?_
                                                  refine sm_goto hG 460 dL_refusesOne_487 (by decide) ?_
                                                  refine sm_iload hG 462 rfl dL_refusesOne_460 0 rfl ?_
                                                  refine sm_bipush (x := (18 : Int32)) hG 464 rfl dL_refusesOne_462 rfl ?_
                                                  refine sm_icmp_geN hG 490 467 rfl dL_refusesOne_464 (by decide) (by decide) ?_
                                                  refine sm_aload_n hG 468 rfl dL_refusesOne_467 rfl 1 rfl ?_
                                                  refine sm_iload hG 470 rfl dL_refusesOne_468 0 rfl ?_
                                                  refine sm_iload_n hG 471 rfl dL_refusesOne_470 rfl 3 rfl ?_
                                                  refine sm_iconst (x := (-1 : Int32)) hG 472 rfl dL_refusesOne_471 rfl ?_
                                                  refine sm_iconst (x := (0 : Int32)) hG 473 rfl dL_refusesOne_472 rfl ?_
                                                  refine sm_hcallS hG [.ref (Λ.2.2.2.1 (0, 0, 0)), .int (11 : Int32), .int r_8, .int (-1 : Int32), .int (0 : Int32)] 476 rfl (fun r_ hr_ => c_L_call hC hfl hX hr_) gL_refusesOne_L_call rfl (by decide) (by decide) (n := 5) rfl (Nat.le_of_ble_eq_true rfl) (66, 396) ⟨rfl, rfl⟩ (by decide) rfl dL_refusesOne_473 (fun r_473_2 => ?_)
                                                  refine sm_sipush (x := (-2011 : Int32)) hG 479 rfl dL_refusesOne_476 rfl ?_
                                                  refine sm_icmp_eq hG 484 482 rfl dL_refusesOne_479 (by decide) ?_ ?_
                                                  · refine sm_iinc hG 487 rfl dL_refusesOne_484 (j := 0) rfl rfl (jlt hN rfl) [(5, .int (12 : Int32)), (0, .ref (Λ.2.2.2.1 (0, 0, 0))), (1, .int x1), (2, .int r_8), (3, .int r_20), (4, .int r_27)] rfl ?_
                                                    refine sm_goto hG 460 dL_refusesOne_487 (by decide) ?_
                                                    refine sm_iload hG 462 rfl dL_refusesOne_460 0 rfl ?_
                                                    refine sm_bipush (x := (18 : Int32)) hG 464 rfl dL_refusesOne_462 rfl ?_
                                                    refine sm_icmp_geN hG 490 467 rfl dL_refusesOne_464 (by decide) (by decide) ?_
                                                    refine sm_aload_n hG 468 rfl dL_refusesOne_467 rfl 1 rfl ?_
                                                    refine sm_iload hG 470 rfl dL_refusesOne_468 0 rfl ?_
                                                    refine sm_iload_n hG 471 rfl dL_refusesOne_470 rfl 3 rfl ?_
                                                    refine sm_iconst (x := (-1 : Int32)) hG 472 rfl dL_refusesOne_471 rfl ?_
                                                    refine sm_iconst (x := (0 : Int32)) hG 473 rfl dL_refusesOne_472 rfl ?_
                                                    refine sm_hcallS hG [.ref (Λ.2.2.2.1 (0, 0, 0)), .int (12 : Int32), .int r_8, .int (-1 : Int32), .int (0 : Int32)] 476 rfl (fun r_ hr_ => c_L_call hC hfl hX hr_) gL_refusesOne_L_call rfl (by decide) (by decide) (n := 5) rfl (Nat.le_of_ble_eq_true rfl) (70, 420) ⟨rfl, rfl⟩ (by decide) rfl dL_refusesOne_473 (fun r_473_3 => ?_)
                                                    refine sm_sipush (x := (-2011 : Int32)) hG 479 rfl dL_refusesOne_476 rfl ?_
                                                    refine sm_icmp_eq hG 484 482 rfl dL_refusesOne_479 (by decide) ?_ ?_
                                                    · refine sm_iinc hG 487 rfl dL_refusesOne_484 (j := 0) rfl rfl (jlt hN rfl) [(5, .int (13 : Int32)), (0, .ref (Λ.2.2.2.1 (0, 0, 0))), (1, .int x1), (2, .int r_8), (3, .int r_20), (4, .int r_27)] rfl ?_
                                                      refine sm_goto hG 460 dL_refusesOne_487 (by decide) ?_
                                                      refine sm_iload hG 462 rfl dL_refusesOne_460 0 rfl ?_
                                                      refine sm_bipush (x := (18 : Int32)) hG 464 rfl dL_refusesOne_462 rfl ?_
                                                      refine sm_icmp_geN hG 490 467 rfl dL_refusesOne_464 (by decide) (by decide) ?_
                                                      refine sm_aload_n hG 468 rfl dL_refusesOne_467 rfl 1 rfl ?_
                                                      refine sm_iload hG 470 rfl dL_refusesOne_468 0 rfl ?_
                                                      refine sm_iload_n hG 471 rfl dL_refusesOne_470 rfl 3 rfl ?_
                                                      refine sm_iconst (x := (-1 : Int32)) hG 472 rfl dL_refusesOne_471 rfl ?_
                                                      refine sm_iconst (x := (0 : Int32)) hG 473 rfl dL_refusesOne_472 rfl ?_
                                                      refine sm_hcallS hG [.ref (Λ.2.2.2.1 (0, 0, 0)), .int (13 : Int32), .int r_8, .int (-1 : Int32), .int (0 : Int32)] 476 rfl (fun r_ hr_ => c_L_call hC hfl hX hr_) gL_refusesOne_L_call rfl (by decide) (by decide) (n := 5) rfl (Nat.le_of_ble_eq_true rfl) (74, 444) ⟨rfl, rfl⟩ (by decide) rfl dL_refusesOne_473 (fun r_473_4 => ?_)
                                                      refine sm_sipush (x := (-2011 : Int32)) hG 479 rfl dL_refusesOne_476 rfl ?_
                                                      refine sm_icmp_eq hG 484 482 rfl dL_refusesOne_479 (by decide) ?_ ?_
                                                      · refine sm_iinc hG 487 rfl dL_refusesOne_484 (j := 0) rfl rfl (jlt hN rfl) [(5, .int (14 : Int32)), (0, .ref (Λ.2.2.2.1 (0, 0, 0))), (1, .int x1), (2, .int r_8), (3, .int r_20), (4, .int r_27)] rfl ?_
                                                        refine sm_goto hG 460 dL_refusesOne_487 (by decide) ?_
                                                        refine sm_iload hG 462 rfl dL_refusesOne_460 0 rfl ?_
                                                        refine sm_bipush (x := (18 : Int32)) hG 464 rfl dL_refusesOne_462 rfl ?_
                                                        refine sm_icmp_geN hG 490 467 rfl dL_refusesOne_464 (by decide) (by decide) ?_
                                                        refine sm_aload_n hG 468 rfl dL_refusesOne_467 rfl 1 rfl ?_
                                                        refine sm_iload hG 470 rfl dL_refusesOne_468 0 rfl ?_
                                                        refine sm_iload_n hG 471 rfl dL_refusesOne_470 rfl 3 rfl ?_
                                                        refine sm_iconst (x := (-1 : Int32)) hG 472 rfl dL_refusesOne_471 rfl ?_
                                                        refine sm_iconst (x := (0 : Int32)) hG 473 rfl dL_refusesOne_472 rfl ?_
                                                        refine sm_hcallS hG [.ref (Λ.2.2.2.1 (0, 0, 0)), .int (14 : Int32), .int r_8, .int (-1 : Int32), .int (0 : Int32)] 476 rfl (fun r_ hr_ => c_L_call hC hfl hX hr_) gL_refusesOne_L_call rfl (by decide) (by decide) (n := 5) rfl (Nat.le_of_ble_eq_true rfl) (78, 468) ⟨rfl, rfl⟩ (by decide) rfl dL_refusesOne_473 (fun r_473_5 => ?_)
                                                        refine sm_sipush (x := (-2011 : Int32)) hG 479 rfl dL_refusesOne_476 rfl ?_
                                                        refine sm_icmp_eq hG 484 482 rfl dL_refusesOne_479 (by decide) ?_ ?_
                                                        · refine sm_iinc hG 487 rfl dL_refusesOne_484 (j := 0) rfl rfl (jlt hN rfl) [(5, .int (15 : Int32)), (0, .ref (Λ.2.2.2.1 (0, 0, 0))), (1, .int x1), (2, .int r_8), (3, .int r_20), (4, .int r_27)] rfl ?_
                                                          refine sm_goto hG 460 dL_refusesOne_487 (by decide) ?_
                                                          refine sm_iload hG 462 rfl dL_refusesOne_460 0 rfl ?_
                                                          refine sm_bipush (x := (18 : Int32)) hG 464 rfl dL_refusesOne_462 rfl ?_
                                                          refine sm_icmp_geN hG 490 467 rfl dL_refusesOne_464 (by decide) (by decide) ?_
                                                          refine sm_aload_n hG 468 rfl dL_refusesOne_467 rfl 1 rfl ?_
                                                          refine sm_iload hG 470 rfl dL_refusesOne_468 0 rfl ?_
                                                          refine sm_iload_n hG 471 rfl dL_refusesOne_470 rfl 3 rfl ?_
                                                          refine sm_iconst (x := (-1 : Int32)) hG 472 rfl dL_refusesOne_471 rfl ?_
                                                          refine sm_iconst (x := (0 : Int32)) hG 473 rfl dL_refusesOne_472 rfl ?_
                                                          refine sm_hcallS hG [.ref (Λ.2.2.2.1 (0, 0, 0)), .int (15 : Int32), .int r_8, .int (-1 : Int32), .int (0 : Int32)] 476 rfl (fun r_ hr_ => c_L_call hC hfl hX hr_) gL_refusesOne_L_call rfl (by decide) (by decide) (n := 5) rfl (Nat.le_of_ble_eq_true rfl) (82, 492) ⟨rfl, rfl⟩ (by decide) rfl dL_refusesOne_473 (fun r_473_6 => ?_)
                                                          refine sm_sipush (x := (-2011 : Int32)) hG 479 rfl dL_refusesOne_476 rfl ?_
                                                          refine sm_icmp_eq hG 484 482 rfl dL_refusesOne_479 (by decide) ?_ ?_
                                                          · refine sm_iinc hG 487 rfl dL_refusesOne_484 (j := 0) rfl rfl (jlt hN rfl) [(5, .int (16 : Int32)), (0, .ref (Λ.2.2.2.1 (0, 0, 0))), (1, .int x1), (2, .int r_8), (3, .int r_20), (4, .int r_27)] rfl ?_
                                                            refine sm_goto hG 460 dL_refusesOne_487 (by decide) ?_
                                                            refine sm_iload hG 462 rfl dL_refusesOne_460 0 rfl ?_
                                                            refine sm_bipush (x := (18 : Int32)) hG 464 rfl dL_refusesOne_462 rfl ?_
                                                            refine sm_icmp_geN hG 490 467 rfl dL_refusesOne_464 (by decide) (by decide) ?_
                                                            refine sm_aload_n hG 468 rfl dL_refusesOne_467 rfl 1 rfl ?_
                                                            refine sm_iload hG 470 rfl dL_refusesOne_468 0 rfl ?_
                                                            refine sm_iload_n hG 471 rfl dL_refusesOne_470 rfl 3 rfl ?_
                                                            refine sm_iconst (x := (-1 : Int32)) hG 472 rfl dL_refusesOne_471 rfl ?_
                                                            refine sm_iconst (x := (0 : Int32)) hG 473 rfl dL_refusesOne_472 rfl ?_
                                                            refine sm_hcallS hG [.ref (Λ.2.2.2.1 (0, 0, 0)), .int (16 : Int32), .int r_8, .int (-1 : Int32), .int (0 : Int32)] 476 rfl (fun r_ hr_ => c_L_call hC hfl hX hr_) gL_refusesOne_L_call rfl (by decide) (by decide) (n := 5) rfl (Nat.le_of_ble_eq_true rfl) (86, 516) ⟨rfl, rfl⟩ (by decide) rfl dL_refusesOne_473 (fun r_473_7 => ?_)
                                                            refine sm_sipush (x := (-2011 : Int32)) hG 479 rfl dL_refusesOne_476 rfl ?_
                                                            refine sm_icmp_eq hG 484 482 rfl dL_refusesOne_479 (by decide) ?_ ?_
                                                            · refine sm_iinc hG 487 rfl dL_refusesOne_484 (j := 0) rfl rfl (jlt hN rfl) [(5, .int (17 : Int32)), (0, .ref (Λ.2.2.2.1 (0, 0, 0))), (1, .int x1), (2, .int r_8), (3, .int r_20), (4, .int r_27)] rfl ?_
                                                              refine sm_goto hG 460 dL_refusesOne_487 (by decide) ?_
                                                              refine sm_iload hG 462 rfl dL_refusesOne_460 0 rfl ?_
                                                              refine sm_bipush (x := (18 : Int32)) hG 464 rfl dL_refusesOne_462 rfl ?_
                                                              refine sm_icmp_geN hG 490 467 rfl dL_refusesOne_464 (by decide) (by decide) ?_
                                                              refine sm_aload_n hG 468 rfl dL_refusesOne_467 rfl 1 rfl ?_
                                                              refine sm_iload hG 470 rfl dL_refusesOne_468 0 rfl ?_
                                                              refine sm_iload_n hG 471 rfl dL_refusesOne_470 rfl 3 rfl ?_
                                                              refine sm_iconst (x := (-1 : Int32)) hG 472 rfl dL_refusesOne_471 rfl ?_
                                                              refine sm_iconst (x := (0 : Int32)) hG 473 rfl dL_refusesOne_472 rfl ?_
                                                              refine sm_hcallS hG [.ref (Λ.2.2.2.1 (0, 0, 0)), .int (17 : Int32), .int r_8, .int (-1 : Int32), .int (0 : Int32)] 476 rfl (fun r_ hr_ => c_L_call hC hfl hX hr_) gL_refusesOne_L_call rfl (by decide) (by decide) (n := 5) rfl (Nat.le_of_ble_eq_true rfl) (90, 540) ⟨rfl, rfl⟩ (by decide) rfl dL_refusesOne_473 (fun r_473_8 => ?_)
                                                              refine sm_sipush (x := (-2011 : Int32)) hG 479 rfl dL_refusesOne_476 rfl ?_
                                                              refine sm_icmp_eq hG 484 482 rfl dL_refusesOne_479 (by decide) ?_ ?_
                                                              · refine sm_iinc hG 487 rfl dL_refusesOne_484 (j := 0) rfl rfl (jlt hN rfl) [(5, .int (18 : Int32)), (0, .ref (Λ.2.2.2.1 (0, 0, 0))), (1, .int x1), (2, .int r_8), (3, .int r_20), (4, .int r_27)] rfl ?_
                                                                refine sm_goto hG 460 dL_refusesOne_487 (by decide) ?_
                                                                refine sm_iload hG 462 rfl dL_refusesOne_460 0 rfl ?_
                                                                refine sm_bipush (x := (18 : Int32)) hG 464 rfl dL_refusesOne_462 rfl ?_
                                                                refine sm_icmp_geY hG 490 467 rfl dL_refusesOne_464 (by decide) (by decide) ?_
                                                                refine sm_bipush (x := (19 : Int32)) hG 492 rfl dL_refusesOne_490 rfl ?_
                                                                refine sm_istore hG 494 rfl dL_refusesOne_492 (jlt hN rfl) [(5, .int (19 : Int32)), (0, .ref (Λ.2.2.2.1 (0, 0, 0))), (1, .int x1), (2, .int r_8), (3, .int r_20), (4, .int r_27)] rfl ?_
                                                                refine sm_iload hG 496 rfl dL_refusesOne_494 0 rfl ?_
                                                                refine sm_bipush (x := (30 : Int32)) hG 498 rfl dL_refusesOne_496 rfl ?_
                                                                refine sm_icmp_geN hG 524 501 rfl dL_refusesOne_498 (by decide) (by decide) ?_
                                                                refine sm_aload_n hG 502 rfl dL_refusesOne_501 rfl 1 rfl ?_
                                                                refine sm_iload hG 504 rfl dL_refusesOne_502 0 rfl ?_
                                                                refine sm_iload_n hG 505 rfl dL_refusesOne_504 rfl 4 rfl ?_
                                                                refine sm_iconst (x := (0 : Int32)) hG 506 rfl dL_refusesOne_505 rfl ?_
                                                                refine sm_iconst (x := (0 : Int32)) hG 507 rfl dL_refusesOne_506 rfl ?_
                                                                refine sm_hcallS hG [.ref (Λ.2.2.2.1 (0, 0, 0)), .int (19 : Int32), .int r_20, .int (0 : Int32), .int (0 : Int32)] 510 rfl (fun r_ hr_ => c_L_call hC hfl hX hr_) gL_refusesOne_L_call rfl (by decide) (by decide) (n := 5) rfl (Nat.le_of_ble_eq_true rfl) (94, 564) ⟨rfl, rfl⟩ (by decide) rfl dL_refusesOne_507 (fun r_507 => ?_)
                                                                refine sm_sipush (x := (-2011 : Int32)) hG 513 rfl dL_refusesOne_510 rfl ?_
                                                                refine sm_icmp_eq hG 518 516 rfl dL_refusesOne_513 (by decide) ?_ ?_
                                                                · refine sm_iinc hG 521 rfl dL_refusesOne_518 (j := 0) rfl rfl (jlt hN rfl) [(5, .int (20 : Int32)), (0, .ref (Λ.2.2.2.1 (0, 0, 0))), (1, .int x1), (2, .int r_8), (3, .int r_20), (4, .int r_27)] rfl ?_
                                                                  refine sm_goto hG 494 dL_refusesOne_521 (by decide) ?_
                                                                  refine sm_iload hG 496 rfl dL_refusesOne_494 0 rfl ?_
                                                                  refine sm_bipush (x := (30 : Int32)) hG 498 rfl dL_refusesOne_496 rfl ?_
                                                                  refine sm_icmp_geN hG 524 501 rfl dL_refusesOne_498 (by decide) (by decide) ?_
                                                                  refine sm_aload_n hG 502 rfl dL_refusesOne_501 rfl 1 rfl ?_
                                                                  refine sm_iload hG 504 rfl dL_refusesOne_502 0 rfl ?_
                                                                  refine sm_iload_n hG 505 rfl dL_refusesOne_504 rfl 4 rfl ?_
                                                                  refine sm_iconst (x := (0 : Int32)) hG 506 rfl dL_refusesOne_505 rfl ?_
                                                                  refine sm_iconst (x := (0 : Int32)) hG 507 rfl dL_refusesOne_506 rfl ?_
                                                                  refine sm_hcallS hG [.ref (Λ.2.2.2.1 (0, 0, 0)), .int (20 : Int32), .int r_20, .int (0 : Int32), .int (0 : Int32)] 510 rfl (fun r_ hr_ => c_L_call hC hfl hX hr_) gL_refusesOne_L_call rfl (by decide) (by decide) (n := 5) rfl (Nat.le_of_ble_eq_true rfl) (98, 588) ⟨rfl, rfl⟩ (by decide) rfl dL_refusesOne_507 (fun r_507_9 => ?_)
                                                                  refine sm_sipush (x := (-2011 : Int32)) hG 513 rfl dL_refusesOne_510 rfl ?_
                                                                  refine sm_icmp_eq hG 518 516 rfl dL_refusesOne_513 (by decide) ?_ ?_
                                                                  · refine sm_iinc hG 521 rfl dL_refusesOne_518 (j := 0) rfl rfl (jlt hN rfl) [(5, .int (21 : Int32)), (0, .ref (Λ.2.2.2.1 (0, 0, 0))), (1, .int x1), (2, .int r_8), (3, .int r_20), (4, .int r_27)] rfl ?_
                                                                    refine sm_goto hG 494 dL_refusesOne_521 (by decide) ?_
                                                                    refine sm_iload hG 496 rfl dL_refusesOne_494 0 rfl ?_
                                                                    refine sm_bipush (x := (30 : Int32)) hG 498 rfl dL_refusesOne_496 rfl ?_
                                                                    refine sm_icmp_geN hG 524 501 rfl dL_refusesOne_498 (by decide) (by decide) ?_
                                                                    refine sm_aload_n hG 502 rfl dL_refusesOne_501 rfl 1 rfl ?_
                                                                    refine sm_iload hG 504 rfl dL_refusesOne_502 0 rfl ?_
                                                                    refine sm_iload_n hG 505 rfl dL_refusesOne_504 rfl 4 rfl ?_
                                                                    refine sm_iconst (x := (0 : Int32)) hG 506 rfl dL_refusesOne_505 rfl ?_
                                                                    refine sm_iconst (x := (0 : Int32)) hG 507 rfl dL_refusesOne_506 rfl ?_
                                                                    refine sm_hcallS hG [.ref (Λ.2.2.2.1 (0, 0, 0)), .int (21 : Int32), .int r_20, .int (0 : Int32), .int (0 : Int32)] 510 rfl (fun r_ hr_ => c_L_call hC hfl hX hr_) gL_refusesOne_L_call rfl (by decide) (by decide) (n := 5) rfl (Nat.le_of_ble_eq_true rfl) (102, 612) ⟨rfl, rfl⟩ (by decide) rfl dL_refusesOne_507 (fun r_507_10 => ?_)
                                                                    refine sm_sipush (x := (-2011 : Int32)) hG 513 rfl dL_refusesOne_510 rfl ?_
                                                                    refine sm_icmp_eq hG 518 516 rfl dL_refusesOne_513 (by decide) ?_ ?_
                                                                    · refine sm_iinc hG 521 rfl dL_refusesOne_518 (j := 0) rfl rfl (jlt hN rfl) [(5, .int (22 : Int32)), (0, .ref (Λ.2.2.2.1 (0, 0, 0))), (1, .int x1), (2, .int r_8), (3, .int r_20), (4, .int r_27)] rfl ?_
                                                                      refine sm_goto hG 494 dL_refusesOne_521 (by decide) ?_
                                                                      refine sm_iload hG 496 rfl dL_refusesOne_494 0 rfl ?_
                                                                      refine sm_bipush (x := (30 : Int32)) hG 498 rfl dL_refusesOne_496 rfl ?_
                                                                      refine sm_icmp_geN hG 524 501 rfl dL_refusesOne_498 (by decide) (by decide) ?_
                                                                      refine sm_aload_n hG 502 rfl dL_refusesOne_501 rfl 1 rfl ?_
                                                                      refine sm_iload hG 504 rfl dL_refusesOne_502 0 rfl ?_
                                                                      refine sm_iload_n hG 505 rfl dL_refusesOne_504 rfl 4 rfl ?_
                                                                      refine sm_iconst (x := (0 : Int32)) hG 506 rfl dL_refusesOne_505 rfl ?_
                                                                      refine sm_iconst (x := (0 : Int32)) hG 507 rfl dL_refusesOne_506 rfl ?_
                                                                      refine sm_hcallS hG [.ref (Λ.2.2.2.1 (0, 0, 0)), .int (22 : Int32), .int r_20, .int (0 : Int32), .int (0 : Int32)] 510 rfl (fun r_ hr_ => c_L_call hC hfl hX hr_) gL_refusesOne_L_call rfl (by decide) (by decide) (n := 5) rfl (Nat.le_of_ble_eq_true rfl) (106, 636) ⟨rfl, rfl⟩ (by decide) rfl dL_refusesOne_507 (fun r_507_11 => ?_)
                                                                      refine sm_sipush (x := (-2011 : Int32)) hG 513 rfl dL_refusesOne_510 rfl ?_
                                                                      refine sm_icmp_eq hG 518 516 rfl dL_refusesOne_513 (by decide) ?_ ?_
                                                                      · refine sm_iinc hG 521 rfl dL_refusesOne_518 (j := 0) rfl rfl (jlt hN rfl) [(5, .int (23 : Int32)), (0, .ref (Λ.2.2.2.1 (0, 0, 0))), (1, .int x1), (2, .int r_8), (3, .int r_20), (4, .int r_27)] rfl ?_
                                                                        refine sm_goto hG 494 dL_refusesOne_521 (by decide) ?_
                                                                        refine sm_iload hG 496 rfl dL_refusesOne_494 0 rfl ?_
                                                                        refine sm_bipush (x := (30 : Int32)) hG 498 rfl dL_refusesOne_496 rfl ?_
                                                                        refine sm_icmp_geN hG 524 501 rfl dL_refusesOne_498 (by decide) (by decide) ?_
                                                                        refine sm_aload_n hG 502 rfl dL_refusesOne_501 rfl 1 rfl ?_
                                                                        refine sm_iload hG 504 rfl dL_refusesOne_502 0 rfl ?_
                                                                        refine sm_iload_n hG 505 rfl dL_refusesOne_504 rfl 4 rfl ?_
                                                                        refine sm_iconst (x := (0 : Int32)) hG 506 rfl dL_refusesOne_505 rfl ?_
                                                                        refine sm_iconst (x := (0 : Int32)) hG 507 rfl dL_refusesOne_506 rfl ?_
                                                                        refine sm_hcallS hG [.ref (Λ.2.2.2.1 (0, 0, 0)), .int (23 : Int32), .int r_20, .int (0 : Int32), .int (0 : Int32)] 510 rfl (fun r_ hr_ => c_L_call hC hfl hX hr_) gL_refusesOne_L_call rfl (by decide) (by decide) (n := 5) rfl (Nat.le_of_ble_eq_true rfl) (110, 660) ⟨rfl, rfl⟩ (by decide) rfl dL_refusesOne_507 (fun r_507_12 => ?_)
                                                                        refine sm_sipush (x := (-2011 : Int32)) hG 513 rfl dL_refusesOne_510 rfl ?_
                                                                        refine sm_icmp_eq hG 518 516 rfl dL_refusesOne_513 (by decide) ?_ ?_
                                                                        · refine sm_iinc hG 521 rfl dL_refusesOne_518 (j := 0) rfl rfl (jlt hN rfl) [(5, .int (24 : Int32)), (0, .ref (Λ.2.2.2.1 (0, 0, 0))), (1, .int x1), (2, .int r_8), (3, .int r_20), (4, .int r_27)] rfl ?_
                                                                          refine sm_goto hG 494 dL_refusesOne_521 (by decide) ?_
                                                                          refine sm_iload hG 496 rfl dL_refusesOne_494 0 rfl ?_
                                                                          refine sm_bipush (x := (30 : Int32)) hG 498 rfl dL_refusesOne_496 rfl ?_
                                                                          refine sm_icmp_geN hG 524 501 rfl dL_refusesOne_498 (by decide) (by decide) ?_
                                                                          refine sm_aload_n hG 502 rfl dL_refusesOne_501 rfl 1 rfl ?_
                                                                          refine sm_iload hG 504 rfl dL_refusesOne_502 0 rfl ?_
                                                                          refine sm_iload_n hG 505 rfl dL_refusesOne_504 rfl 4 rfl ?_
                                                                          refine sm_iconst (x := (0 : Int32)) hG 506 rfl dL_refusesOne_505 rfl ?_
                                                                          refine sm_iconst (x := (0 : Int32)) hG 507 rfl dL_refusesOne_506 rfl ?_
                                                                          refine sm_hcallS hG [.ref (Λ.2.2.2.1 (0, 0, 0)), .int (24 : Int32), .int r_20, .int (0 : Int32), .int (0 : Int32)] 510 rfl (fun r_ hr_ => c_L_call hC hfl hX hr_) gL_refusesOne_L_call rfl (by decide) (by decide) (n := 5) rfl (Nat.le_of_ble_eq_true rfl) (114, 684) ⟨rfl, rfl⟩ (by decide) rfl dL_refusesOne_507 (fun r_507_13 => ?_)
                                                                          refine sm_sipush (x := (-2011 : Int32)) hG 513 rfl dL_refusesOne_510 rfl ?_
                                                                          refine sm_icmp_eq hG 518 516 rfl dL_refusesOne_513 (by decide) ?_ ?_
                                                                          · refine sm_iinc hG 521 rfl dL_refusesOne_518 (j := 0) rfl rfl (jlt hN rfl) [(5, .int (25 : Int32)), (0, .ref (Λ.2.2.2.1 (0, 0, 0))), (1, .int x1), (2, .int r_8), (3, .int r_20), (4, .int r_27)] rfl ?_
                                                                            refine sm_goto hG 494 dL_refusesOne_521 (by decide) ?_
                                                                            refine sm_iload hG 496 rfl dL_refusesOne_494 0 rfl ?_
                                                                            refine sm_bipush (x := (30 : Int32)) hG 498 rfl dL_refusesOne_496 rfl ?_
                                                                            refine sm_icmp_geN hG 524 501 rfl dL_refusesOne_498 (by decide) (by decide) ?_
                                                                            refine sm_aload_n hG 502 rfl dL_refusesOne_501 rfl 1 rfl ?_
                                                                            refine sm_iload hG 504 rfl dL_refusesOne_502 0 rfl ?_
                                                                            refine sm_iload_n hG 505 rfl dL_refusesOne_504 rfl 4 rfl ?_
                                                                            refine sm_iconst (x := (0 : Int32)) hG 506 rfl dL_refusesOne_505 rfl ?_
                                                                            refine sm_iconst (x := (0 : Int32)) hG 507 rfl dL_refusesOne_506 rfl ?_
                                                                            refine sm_hcallS hG [.ref (Λ.2.2.2.1 (0, 0, 0)), .int (25 : Int32), .int r_20, .int (0 : Int32), .int (0 : Int32)] 510 rfl (fun r_ hr_ => c_L_call hC hfl hX hr_) gL_refusesOne_L_call rfl (by decide) (by decide) (n := 5) rfl (Nat.le_of_ble_eq_true rfl) (118, 708) ⟨rfl, rfl⟩ (by decide) rfl dL_refusesOne_507 (fun r_507_14 => ?_)
                                                                            refine sm_sipush (x := (-2011 : Int32)) hG 513 rfl dL_refusesOne_510 rfl ?_
                                                                            refine sm_icmp_eq hG 518 516 rfl dL_refusesOne_513 (by decide) ?_ ?_
                                                                            · refine sm_iinc hG 521 rfl dL_refusesOne_518 (j := 0) rfl rfl (jlt hN rfl) [(5, .int (26 : Int32)), (0, .ref (Λ.2.2.2.1 (0, 0, 0))), (1, .int x1), (2, .int r_8), (3, .int r_20), (4, .int r_27)] rfl ?_
                                                                              refine sm_goto hG 494 dL_refusesOne_521 (by decide) ?_
                                                                              refine sm_iload hG 496 rfl dL_refusesOne_494 0 rfl ?_
                                                                              refine sm_bipush (x := (30 : Int32)) hG 498 rfl dL_refusesOne_496 rfl ?_
                                                                              refine sm_icmp_geN hG 524 501 rfl dL_refusesOne_498 (by decide) (by decide) ?_
                                                                              refine sm_aload_n hG 502 rfl dL_refusesOne_501 rfl 1 rfl ?_
                                                                              refine sm_iload hG 504 rfl dL_refusesOne_502 0 rfl ?_
                                                                              refine sm_iload_n hG 505 rfl dL_refusesOne_504 rfl 4 rfl ?_
                                                                              refine sm_iconst (x := (0 : Int32)) hG 506 rfl dL_refusesOne_505 rfl ?_
                                                                              refine sm_iconst (x := (0 : Int32)) hG 507 rfl dL_refusesOne_506 rfl ?_
                                                                              refine sm_hcallS hG [.ref (Λ.2.2.2.1 (0, 0, 0)), .int (26 : Int32), .int r_20, .int (0 : Int32), .int (0 : Int32)] 510 rfl (fun r_ hr_ => c_L_call hC hfl hX hr_) gL_refusesOne_L_call rfl (by decide) (by decide) (n := 5) rfl (Nat.le_of_ble_eq_true rfl) (122, 732) ⟨rfl, rfl⟩ (by decide) rfl dL_refusesOne_507 (fun r_507_15 => ?_)
                                                                              refine sm_sipush (x := (-2011 : Int32)) hG 513 rfl dL_refusesOne_510 rfl ?_
                                                                              refine sm_icmp_eq hG 518 516 rfl dL_refusesOne_513 (by decide) ?_ ?_
                                                                              · refine sm_iinc hG 521 rfl dL_refusesOne_518 (j := 0) rfl rfl (jlt hN rfl) [(5, .int (27 : Int32)), (0, .ref (Λ.2.2.2.1 (0, 0, 0))), (1, .int x1), (2, .int r_8), (3, .int r_20), (4, .int r_27)] rfl ?_
                                                                                refine sm_goto hG 494 dL_refusesOne_521 (by decide) ?_
                                                                                refine sm_iload hG 496 rfl dL_refusesOne_494 0 rfl ?_
                                                                                refine sm_bipush (x := (30 : Int32)) hG 498 rfl dL_refusesOne_496 rfl ?_
                                                                                refine sm_icmp_geN hG 524 501 rfl dL_refusesOne_498 (by decide) (by decide) ?_
                                                                                refine sm_aload_n hG 502 rfl dL_refusesOne_501 rfl 1 rfl ?_
                                                                                refine sm_iload hG 504 rfl dL_refusesOne_502 0 rfl ?_
                                                                                refine sm_iload_n hG 505 rfl dL_refusesOne_504 rfl 4 rfl ?_
                                                                                refine sm_iconst (x := (0 : Int32)) hG 506 rfl dL_refusesOne_505 rfl ?_
                                                                                refine sm_iconst (x := (0 : Int32)) hG 507 rfl dL_refusesOne_506 rfl ?_
                                                                                refine sm_hcallS hG [.ref (Λ.2.2.2.1 (0, 0, 0)), .int (27 : Int32), .int r_20, .int (0 : Int32), .int (0 : Int32)] 510 rfl (fun r_ hr_ => c_L_call hC hfl hX hr_) gL_refusesOne_L_call rfl (by decide) (by decide) (n := 5) rfl (Nat.le_of_ble_eq_true rfl) (126, 756) ⟨rfl, rfl⟩ (by decide) rfl dL_refusesOne_507 (fun r_507_16 => ?_)
                                                                                refine sm_sipush (x := (-2011 : Int32)) hG 513 rfl dL_refusesOne_510 rfl ?_
                                                                                refine sm_icmp_eq hG 518 516 rfl dL_refusesOne_513 (by decide) ?_ ?_
                                                                                · refine sm_iinc hG 521 rfl dL_refusesOne_518 (j := 0) rfl rfl (jlt hN rfl) [(5, .int (28 : Int32)), (0, .ref (Λ.2.2.2.1 (0, 0, 0))), (1, .int x1), (2, .int r_8), (3, .int r_20), (4, .int r_27)] rfl ?_
                                                                                  refine sm_goto hG 494 dL_refusesOne_521 (by decide) ?_
                                                                                  refine sm_iload hG 496 rfl dL_refusesOne_494 0 rfl ?_
                                                                                  refine sm_bipush (x := (30 : Int32)) hG 498 rfl dL_refusesOne_496 rfl ?_
                                                                                  refine sm_icmp_geN hG 524 501 rfl dL_refusesOne_498 (by decide) (by decide) ?_
                                                                                  refine sm_aload_n hG 502 rfl dL_refusesOne_501 rfl 1 rfl ?_
                                                                                  refine sm_iload hG 504 rfl dL_refusesOne_502 0 rfl ?_
                                                                                  refine sm_iload_n hG 505 rfl dL_refusesOne_504 rfl 4 rfl ?_
                                                                                  refine sm_iconst (x := (0 : Int32)) hG 506 rfl dL_refusesOne_505 rfl ?_
                                                                                  refine sm_iconst (x := (0 : Int32)) hG 507 rfl dL_refusesOne_506 rfl ?_
                                                                                  refine sm_hcallS hG [.ref (Λ.2.2.2.1 (0, 0, 0)), .int (28 : Int32), .int r_20, .int (0 : Int32), .int (0 : Int32)] 510 rfl (fun r_ hr_ => c_L_call hC hfl hX hr_) gL_refusesOne_L_call rfl (by decide) (by decide) (n := 5) rfl (Nat.le_of_ble_eq_true rfl) (130, 780) ⟨rfl, rfl⟩ (by decide) rfl dL_refusesOne_507 (fun r_507_17 => ?_)
                                                                                  refine sm_sipush (x := (-2011 : Int32)) hG 513 rfl dL_refusesOne_510 rfl ?_
                                                                                  refine sm_icmp_eq hG 518 516 rfl dL_refusesOne_513 (by decide) ?_ ?_
                                                                                  · refine sm_iinc hG 521 rfl dL_refusesOne_518 (j := 0) rfl rfl (jlt hN rfl) [(5, .int (29 : Int32)), (0, .ref (Λ.2.2.2.1 (0, 0, 0))), (1, .int x1), (2, .int r_8), (3, .int r_20), (4, .int r_27)] rfl ?_
                                                                                    refine sm_goto hG 494 dL_refusesOne_521 (by decide) ?_
                                                                                    refine sm_iload hG 496 rfl dL_refusesOne_494 0 rfl ?_
                                                                                    refine sm_bipush (x := (30 : Int32)) hG 498 rfl dL_refusesOne_496 rfl ?_
                                                                                    refine sm_icmp_geN hG 524 501 rfl dL_refusesOne_498 (by decide) (by decide) ?_
                                                                                    refine sm_aload_n hG 502 rfl dL_refusesOne_501 rfl 1 rfl ?_
                                                                                    refine sm_iload hG 504 rfl dL_refusesOne_502 0 rfl ?_
                                                                                    refine sm_iload_n hG 505 rfl dL_refusesOne_504 rfl 4 rfl ?_
                                                                                    refine sm_iconst (x := (0 : Int32)) hG 506 rfl dL_refusesOne_505 rfl ?_
                                                                                    refine sm_iconst (x := (0 : Int32)) hG 507 rfl dL_refusesOne_506 rfl ?_
                                                                                    refine sm_hcallS hG [.ref (Λ.2.2.2.1 (0, 0, 0)), .int (29 : Int32), .int r_20, .int (0 : Int32), .int (0 : Int32)] 510 rfl (fun r_ hr_ => c_L_call hC hfl hX hr_) gL_refusesOne_L_call rfl (by decide) (by decide) (n := 5) rfl (Nat.le_of_ble_eq_true rfl) (134, 804) ⟨rfl, rfl⟩ (by decide) rfl dL_refusesOne_507 (fun r_507_18 => ?_)
                                                                                    refine sm_sipush (x := (-2011 : Int32)) hG 513 rfl dL_refusesOne_510 rfl ?_
                                                                                    refine sm_icmp_eq hG 518 516 rfl dL_refusesOne_513 (by decide) ?_ ?_
                                                                                    · refine sm_iinc hG 521 rfl dL_refusesOne_518 (j := 0) rfl rfl (jlt hN rfl) [(5, .int (30 : Int32)), (0, .ref (Λ.2.2.2.1 (0, 0, 0))), (1, .int x1), (2, .int r_8), (3, .int r_20), (4, .int r_27)] rfl ?_
                                                                                      refine sm_goto hG 494 dL_refusesOne_521 (by decide) ?_
                                                                                      refine sm_iload hG 496 rfl dL_refusesOne_494 0 rfl ?_
                                                                                      refine sm_bipush (x := (30 : Int32)) hG 498 rfl dL_refusesOne_496 rfl ?_
                                                                                      refine sm_icmp_geY hG 524 501 rfl dL_refusesOne_498 (by decide) (by decide) ?_
                                                                                      refine sm_aload_n hG 525 rfl dL_refusesOne_524 rfl 1 rfl ?_
                                                                                      refine sm_callV hG (fun (q : Int32) => (some (Value.int q), r_507_18.2)) (0, 0, 0) [] 528 rfl (ok0 hC) (ce_0 hC _) (ci := 6) rfl (fun r_ hr_ => c_X6_singers hC   hr_) gL_refusesOne_X6_singers rfl (by decide) (by decide) (n := 0) rfl (Nat.le_of_ble_eq_true rfl) (by decide) (by decide) rfl dL_refusesOne_525 (fun r_525 => ?_)
                                                                                      refine sm_if_eq hG 538 531 rfl dL_refusesOne_528 (by decide) ?_ ?_
                                                                                      · refine sm_iconst (x := (1 : Int32)) hG 539 rfl dL_refusesOne_538 rfl ?_
                                                                                        exact sm_bret hG hT (by decide) dL_refusesOne_539 rfl
                                                                                      · refine sm_aload_n hG 532 rfl dL_refusesOne_531 rfl 1 rfl ?_
                                                                                        refine sm_callV hG (fun (q : Int32) => (some (Value.int q), r_507_18.2)) (0, 0, 0) [] 535 rfl (ok0 hC) (ce_0 hC _) (ci := 6) rfl (fun r_ hr_ => c_X6_feasts hC   hr_) gL_refusesOne_X6_feasts rfl (by decide) (by decide) (n := 0) rfl (Nat.le_of_ble_eq_true rfl) (by decide) (by decide) rfl dL_refusesOne_532 (fun r_532 => ?_)
                                                                                        refine sm_if_ne hG 540 538 rfl dL_refusesOne_535 (by decide) ?_ ?_
                                                                                        · refine sm_aload_n hG 541 rfl dL_refusesOne_540 rfl 1 rfl ?_
                                                                                          refine sm_iconst (x := (3 : Int32)) hG 542 rfl dL_refusesOne_541 rfl ?_
                                                                                          refine sm_iconst (x := (0 : Int32)) hG 543 rfl dL_refusesOne_542 rfl ?_
                                                                                          refine sm_iload hG 545 rfl dL_refusesOne_543 5 rfl ?_
                                                                                          refine sm_iconst (x := (0 : Int32)) hG 546 rfl dL_refusesOne_545 rfl ?_
                                                                                          refine sm_hcallS hG [.ref (Λ.2.2.2.1 (0, 0, 0)), .int (3 : Int32), .int (0 : Int32), .int r_27, .int (0 : Int32)] 549 rfl (fun r_ hr_ => c_L_call hC hfl hX hr_) gL_refusesOne_L_call rfl (by decide) (by decide) (n := 5) rfl (Nat.le_of_ble_eq_true rfl) (138, 828) ⟨rfl, rfl⟩ (by decide) rfl dL_refusesOne_546 (fun r_546 => ?_)
                                                                                          refine sm_sipush (x := (-2011 : Int32)) hG 552 rfl dL_refusesOne_549 rfl ?_
                                                                                          refine sm_icmp_ne hG 732 555 rfl dL_refusesOne_552 (by decide) ?_ ?_
                                                                                          · refine sm_iconst (x := (0 : Int32)) hG 733 rfl dL_refusesOne_732 rfl ?_
                                                                                            exact sm_bret hG hT (by decide) dL_refusesOne_733 rfl
                                                                                          · refine sm_aload_n hG 556 rfl dL_refusesOne_555 rfl 1 rfl ?_
                                                                                            refine sm_iconst (x := (3 : Int32)) hG 557 rfl dL_refusesOne_556 rfl ?_
                                                                                            refine sm_iconst (x := (0 : Int32)) hG 558 rfl dL_refusesOne_557 rfl ?_
                                                                                            refine sm_iconst (x := (0 : Int32)) hG 559 rfl dL_refusesOne_558 rfl ?_
                                                                                            refine sm_iload_n hG 560 rfl dL_refusesOne_559 rfl 2 rfl ?_
                                                                                            refine sm_iconst (x := (1 : Int32)) hG 561 rfl dL_refusesOne_560 rfl ?_
                                                                                            refine sm_bipush (x := (90 : Int32)) hG 563 rfl dL_refusesOne_561 rfl ?_
                                                                                            refine sm_callS hG (fun (q : Int32) => (some (Value.int q), r_546.2)) [.int x1, .int (1 : Int32), .int (90 : Int32)] 566 rfl (fun r_ hr_ => c_L_far hC   hr_) gL_refusesOne_L_far rfl (by decide) (by decide) (n := 3) rfl (Nat.le_of_ble_eq_true rfl) (by decide) (by decide) rfl dL_refusesOne_563 (fun r_563 => ?_)
                                                                                            refine sm_hcallS hG [.ref (Λ.2.2.2.1 (0, 0, 0)), .int (3 : Int32), .int (0 : Int32), .int (0 : Int32), .int r_563] 569 rfl (fun r_ hr_ => c_L_call hC hfl hX hr_) gL_refusesOne_L_call rfl (by decide) (by decide) (n := 5) rfl (Nat.le_of_ble_eq_true rfl) (142, 852) ⟨rfl, rfl⟩ (by decide) rfl dL_refusesOne_566 (fun r_566 => ?_)
                                                                                            refine sm_sipush (x := (-2012 : Int32)) hG 572 rfl dL_refusesOne_569 rfl ?_
                                                                                            refine sm_icmp_ne hG 732 575 rfl dL_refusesOne_572 (by decide) ?_ ?_
                                                                                            · refine sm_iconst (x := (0 : Int32)) hG 733 rfl dL_refusesOne_732 rfl ?_
                                                                                              exact sm_bret hG hT (by decide) dL_refusesOne_733 rfl
                                                                                            · refine sm_aload_n hG 576 rfl dL_refusesOne_575 rfl 1 rfl ?_
                                                                                              refine sm_iconst (x := (4 : Int32)) hG 577 rfl dL_refusesOne_576 rfl ?_
                                                                                              refine sm_iconst (x := (0 : Int32)) hG 578 rfl dL_refusesOne_577 rfl ?_
                                                                                              refine sm_iload_n hG 579 rfl dL_refusesOne_578 rfl 2 rfl ?_
                                                                                              refine sm_aload_n hG 580 rfl dL_refusesOne_579 rfl 1 rfl ?_
                                                                                              refine sm_callV hG (fun (q : Int32) => (some (Value.int q), r_566.2)) (0, 0, 0) [] 583 rfl (ok0 hC) (ce_0 hC _) (ci := 6) rfl (fun r_ hr_ => c_X6_day hC   hr_) gL_refusesOne_X6_day rfl (by decide) (by decide) (n := 0) rfl (Nat.le_of_ble_eq_true rfl) (by decide) (by decide) rfl dL_refusesOne_580 (fun r_580 => ?_)
                                                                                              refine sm_iconst (x := (1 : Int32)) hG 584 rfl dL_refusesOne_583 rfl ?_
                                                                                              refine sm_iadd hG 585 rfl dL_refusesOne_584 ?_
                                                                                              refine sm_sipush (x := (9999 : Int32)) hG 588 rfl dL_refusesOne_585 rfl ?_
                                                                                              refine sm_callS hG (fun (q : Int32) => (some (Value.int q), r_566.2)) [.int x1, .int (r_580 + (1 : Int32)), .int (9999 : Int32)] 591 rfl (fun r_ hr_ => c_L_far hC   hr_) gL_refusesOne_L_far rfl (by decide) (by decide) (n := 3) rfl (Nat.le_of_ble_eq_true rfl) (by decide) (by decide) rfl dL_refusesOne_588 (fun r_588 => ?_)
                                                                                              refine sm_sipush (x := (9999 : Int32)) hG 594 rfl dL_refusesOne_591 rfl ?_
                                                                                              refine sm_hcallS hG [.ref (Λ.2.2.2.1 (0, 0, 0)), .int (4 : Int32), .int (0 : Int32), .int r_588, .int (9999 : Int32)] 597 rfl (fun r_ hr_ => c_L_call hC hfl hX hr_) gL_refusesOne_L_call rfl (by decide) (by decide) (n := 5) rfl (Nat.le_of_ble_eq_true rfl) (146, 876) ⟨rfl, rfl⟩ (by decide) rfl dL_refusesOne_594 (fun r_594 => ?_)
                                                                                              refine sm_sipush (x := (-2012 : Int32)) hG 600 rfl dL_refusesOne_597 rfl ?_
                                                                                              refine sm_icmp_ne hG 732 603 rfl dL_refusesOne_600 (by decide) ?_ ?_
                                                                                              · refine sm_iconst (x := (0 : Int32)) hG 733 rfl dL_refusesOne_732 rfl ?_
                                                                                                exact sm_bret hG hT (by decide) dL_refusesOne_733 rfl
                                                                                              · refine sm_aload_n hG 604 rfl dL_refusesOne_603 rfl 1 rfl ?_
                                                                                                refine sm_iconst (x := (4 : Int32)) hG 605 rfl dL_refusesOne_604 rfl ?_
                                                                                                refine sm_iconst (x := (0 : Int32)) hG 606 rfl dL_refusesOne_605 rfl ?_
                                                                                                refine sm_sipush (x := (9999 : Int32)) hG 609 rfl dL_refusesOne_606 rfl ?_
                                                                                                refine sm_iload_n hG 610 rfl dL_refusesOne_609 rfl 2 rfl ?_
                                                                                                refine sm_sipush (x := (9999 : Int32)) hG 613 rfl dL_refusesOne_610 rfl ?_
                                                                                                refine sm_sipush (x := (10059 : Int32)) hG 616 rfl dL_refusesOne_613 rfl ?_
                                                                                                refine sm_callS hG (fun (q : Int32) => (some (Value.int q), r_594.2)) [.int x1, .int (9999 : Int32), .int (10059 : Int32)] 619 rfl (fun r_ hr_ => c_L_far hC   hr_) gL_refusesOne_L_far rfl (by decide) (by decide) (n := 3) rfl (Nat.le_of_ble_eq_true rfl) (by decide) (by decide) rfl dL_refusesOne_616 (fun r_616 => ?_)
                                                                                                refine sm_hcallS hG [.ref (Λ.2.2.2.1 (0, 0, 0)), .int (4 : Int32), .int (0 : Int32), .int (9999 : Int32), .int r_616] 622 rfl (fun r_ hr_ => c_L_call hC hfl hX hr_) gL_refusesOne_L_call rfl (by decide) (by decide) (n := 5) rfl (Nat.le_of_ble_eq_true rfl) (150, 900) ⟨rfl, rfl⟩ (by decide) rfl dL_refusesOne_619 (fun r_619 => ?_)
                                                                                                refine sm_sipush (x := (-2012 : Int32)) hG 625 rfl dL_refusesOne_622 rfl ?_
                                                                                                refine sm_icmp_ne hG 732 628 rfl dL_refusesOne_625 (by decide) ?_ ?_
                                                                                                · refine sm_iconst (x := (0 : Int32)) hG 733 rfl dL_refusesOne_732 rfl ?_
                                                                                                  exact sm_bret hG hT (by decide) dL_refusesOne_733 rfl
                                                                                                · refine sm_aload_n hG 629 rfl dL_refusesOne_628 rfl 1 rfl ?_
                                                                                                  refine sm_bipush (x := (6 : Int32)) hG 631 rfl dL_refusesOne_629 rfl ?_
                                                                                                  refine sm_iconst (x := (0 : Int32)) hG 632 rfl dL_refusesOne_631 rfl ?_
                                                                                                  refine sm_iload_n hG 633 rfl dL_refusesOne_632 rfl 2 rfl ?_
                                                                                                  refine sm_iconst (x := (0 : Int32)) hG 634 rfl dL_refusesOne_633 rfl ?_
                                                                                                  refine sm_iconst (x := (3 : Int32)) hG 635 rfl dL_refusesOne_634 rfl ?_
                                                                                                  refine sm_callS hG (fun (q : Int32) => (some (Value.int q), r_619.2)) [.int x1, .int (0 : Int32), .int (3 : Int32)] 638 rfl (fun r_ hr_ => c_L_far hC   hr_) gL_refusesOne_L_far rfl (by decide) (by decide) (n := 3) rfl (Nat.le_of_ble_eq_true rfl) (by decide) (by decide) rfl dL_refusesOne_635 (fun r_635 => ?_)
                                                                                                  refine sm_bipush (x := (7 : Int32)) hG 640 rfl dL_refusesOne_638 rfl ?_
                                                                                                  refine sm_hcallS hG [.ref (Λ.2.2.2.1 (0, 0, 0)), .int (6 : Int32), .int (0 : Int32), .int r_635, .int (7 : Int32)] 643 rfl (fun r_ hr_ => c_L_call hC hfl hX hr_) gL_refusesOne_L_call rfl (by decide) (by decide) (n := 5) rfl (Nat.le_of_ble_eq_true rfl) (154, 924) ⟨rfl, rfl⟩ (by decide) rfl dL_refusesOne_640 (fun r_640 => ?_)
                                                                                                  refine sm_sipush (x := (-2011 : Int32)) hG 646 rfl dL_refusesOne_643 rfl ?_
                                                                                                  refine sm_icmp_ne hG 732 649 rfl dL_refusesOne_646 (by decide) ?_ ?_
                                                                                                  · refine sm_iconst (x := (0 : Int32)) hG 733 rfl dL_refusesOne_732 rfl ?_
                                                                                                    exact sm_bret hG hT (by decide) dL_refusesOne_733 rfl
                                                                                                  · refine sm_aload_n hG 650 rfl dL_refusesOne_649 rfl 1 rfl ?_
                                                                                                    refine sm_iload_n hG 651 rfl dL_refusesOne_650 rfl 2 rfl ?_
                                                                                                    refine sm_iconst (x := (0 : Int32)) hG 652 rfl dL_refusesOne_651 rfl ?_
                                                                                                    refine sm_bipush (x := (6 : Int32)) hG 654 rfl dL_refusesOne_652 rfl ?_
                                                                                                    refine sm_callS hG (fun (q : Int32) => (some (Value.int q), r_640.2)) [.int x1, .int (0 : Int32), .int (6 : Int32)] 657 rfl (fun r_ hr_ => c_L_far hC   hr_) gL_refusesOne_L_far rfl (by decide) (by decide) (n := 3) rfl (Nat.le_of_ble_eq_true rfl) (by decide) (by decide) rfl dL_refusesOne_654 (fun r_654 => ?_)
                                                                                                    refine sm_iconst (x := (0 : Int32)) hG 658 rfl dL_refusesOne_657 rfl ?_
                                                                                                    refine sm_iconst (x := (0 : Int32)) hG 659 rfl dL_refusesOne_658 rfl ?_
                                                                                                    refine sm_hcallS hG [.ref (Λ.2.2.2.1 (0, 0, 0)), .int r_654, .int (0 : Int32), .int (0 : Int32)] 662 rfl (fun r_ hr_ => c_L_line hC hfl hX hr_) gL_refusesOne_L_line rfl (by decide) (by decide) (n := 4) rfl (Nat.le_of_ble_eq_true rfl) (155, 930) ⟨rfl, rfl⟩ (by decide) rfl dL_refusesOne_659 (fun r_659 => ?_)
                                                                                                    refine sm_sipush (x := (-2012 : Int32)) hG 665 rfl dL_refusesOne_662 rfl ?_
                                                                                                    refine sm_icmp_ne hG 732 668 rfl dL_refusesOne_665 (by decide) ?_ ?_
                                                                                                    · refine sm_iconst (x := (0 : Int32)) hG 733 rfl dL_refusesOne_732 rfl ?_
                                                                                                      exact sm_bret hG hT (by decide) dL_refusesOne_733 rfl
                                                                                                    · refine sm_aload_n hG 669 rfl dL_refusesOne_668 rfl 1 rfl ?_
                                                                                                      refine sm_bipush (x := (6 : Int32)) hG 671 rfl dL_refusesOne_669 rfl ?_
                                                                                                      refine sm_iload_n hG 672 rfl dL_refusesOne_671 rfl 2 rfl ?_
                                                                                                      refine sm_iconst (x := (0 : Int32)) hG 673 rfl dL_refusesOne_672 rfl ?_
                                                                                                      refine sm_bipush (x := (48 : Int32)) hG 675 rfl dL_refusesOne_673 rfl ?_
                                                                                                      refine sm_callS hG (fun (q : Int32) => (some (Value.int q), r_659.2)) [.int x1, .int (0 : Int32), .int (48 : Int32)] 678 rfl (fun r_ hr_ => c_L_far hC   hr_) gL_refusesOne_L_far rfl (by decide) (by decide) (n := 3) rfl (Nat.le_of_ble_eq_true rfl) (by decide) (by decide) rfl dL_refusesOne_675 (fun r_675 => ?_)
                                                                                                      refine sm_bipush (x := (48 : Int32)) hG 680 rfl dL_refusesOne_678 rfl ?_
                                                                                                      refine sm_hcallS hG [.ref (Λ.2.2.2.1 (0, 0, 0)), .int (6 : Int32), .int r_675, .int (48 : Int32)] 683 rfl (fun r_ hr_ => c_L_line hC hfl hX hr_) gL_refusesOne_L_line rfl (by decide) (by decide) (n := 4) rfl (Nat.le_of_ble_eq_true rfl) (156, 936) ⟨rfl, rfl⟩ (by decide) rfl dL_refusesOne_680 (fun r_680 => ?_)
                                                                                                      refine sm_sipush (x := (-2012 : Int32)) hG 686 rfl dL_refusesOne_683 rfl ?_
                                                                                                      refine sm_icmp_ne hG 732 689 rfl dL_refusesOne_686 (by decide) ?_ ?_
                                                                                                      · refine sm_iconst (x := (0 : Int32)) hG 733 rfl dL_refusesOne_732 rfl ?_
                                                                                                        exact sm_bret hG hT (by decide) dL_refusesOne_733 rfl
                                                                                                      · refine sm_aload_n hG 690 rfl dL_refusesOne_689 rfl 1 rfl ?_
                                                                                                        refine sm_iconst (x := (0 : Int32)) hG 691 rfl dL_refusesOne_690 rfl ?_
                                                                                                        refine sm_bipush (x := (20 : Int32)) hG 693 rfl dL_refusesOne_691 rfl ?_
                                                                                                        refine sm_iload_n hG 694 rfl dL_refusesOne_693 rfl 2 rfl ?_
                                                                                                        refine sm_bipush (x := (20 : Int32)) hG 696 rfl dL_refusesOne_694 rfl ?_
                                                                                                        refine sm_bipush (x := (48 : Int32)) hG 698 rfl dL_refusesOne_696 rfl ?_
                                                                                                        refine sm_callS hG (fun (q : Int32) => (some (Value.int q), r_680.2)) [.int x1, .int (20 : Int32), .int (48 : Int32)] 701 rfl (fun r_ hr_ => c_L_far hC   hr_) gL_refusesOne_L_far rfl (by decide) (by decide) (n := 3) rfl (Nat.le_of_ble_eq_true rfl) (by decide) (by decide) rfl dL_refusesOne_698 (fun r_698 => ?_)
                                                                                                        refine sm_hcallS hG [.ref (Λ.2.2.2.1 (0, 0, 0)), .int (0 : Int32), .int (20 : Int32), .int r_698] 704 rfl (fun r_ hr_ => c_L_line hC hfl hX hr_) gL_refusesOne_L_line rfl (by decide) (by decide) (n := 4) rfl (Nat.le_of_ble_eq_true rfl) (157, 942) ⟨rfl, rfl⟩ (by decide) rfl dL_refusesOne_701 (fun r_701 => ?_)
                                                                                                        refine sm_sipush (x := (-2012 : Int32)) hG 707 rfl dL_refusesOne_704 rfl ?_
                                                                                                        refine sm_icmp_ne hG 732 710 rfl dL_refusesOne_707 (by decide) ?_ ?_
                                                                                                        · refine sm_iconst (x := (0 : Int32)) hG 733 rfl dL_refusesOne_732 rfl ?_
                                                                                                          exact sm_bret hG hT (by decide) dL_refusesOne_733 rfl
                                                                                                        · refine sm_aload_n hG 711 rfl dL_refusesOne_710 rfl 1 rfl ?_
                                                                                                          refine sm_bipush (x := (15 : Int32)) hG 713 rfl dL_refusesOne_711 rfl ?_
                                                                                                          refine sm_iconst (x := (0 : Int32)) hG 714 rfl dL_refusesOne_713 rfl ?_
                                                                                                          refine sm_iload_n hG 715 rfl dL_refusesOne_714 rfl 2 rfl ?_
                                                                                                          refine sm_iconst (x := (0 : Int32)) hG 716 rfl dL_refusesOne_715 rfl ?_
                                                                                                          refine sm_sipush (x := (9999 : Int32)) hG 719 rfl dL_refusesOne_716 rfl ?_
                                                                                                          refine sm_callS hG (fun (q : Int32) => (some (Value.int q), r_701.2)) [.int x1, .int (0 : Int32), .int (9999 : Int32)] 722 rfl (fun r_ hr_ => c_L_far hC   hr_) gL_refusesOne_L_far rfl (by decide) (by decide) (n := 3) rfl (Nat.le_of_ble_eq_true rfl) (by decide) (by decide) rfl dL_refusesOne_719 (fun r_719 => ?_)
                                                                                                          refine sm_iconst (x := (0 : Int32)) hG 723 rfl dL_refusesOne_722 rfl ?_
                                                                                                          refine sm_hcallS hG [.ref (Λ.2.2.2.1 (0, 0, 0)), .int (15 : Int32), .int (0 : Int32), .int r_719, .int (0 : Int32)] 726 rfl (fun r_ hr_ => c_L_call hC hfl hX hr_) gL_refusesOne_L_call rfl (by decide) (by decide) (n := 5) rfl (Nat.le_of_ble_eq_true rfl) (161, 966) ⟨rfl, rfl⟩ (by decide) rfl dL_refusesOne_723 (fun r_723 => ?_)
                                                                                                          refine sm_sipush (x := (-2012 : Int32)) hG 729 rfl dL_refusesOne_726 rfl ?_
                                                                                                          refine sm_icmp_eq hG 734 732 rfl dL_refusesOne_729 (by decide) ?_ ?_
                                                                                                          · refine sm_aload_n hG 735 rfl dL_refusesOne_734 rfl 1 rfl ?_
                                                                                                            refine sm_bipush (x := (25 : Int32)) hG 737 rfl dL_refusesOne_735 rfl ?_
                                                                                                            refine sm_iconst (x := (0 : Int32)) hG 738 rfl dL_refusesOne_737 rfl ?_
                                                                                                            refine sm_iload_n hG 739 rfl dL_refusesOne_738 rfl 3 rfl ?_
                                                                                                            refine sm_iconst (x := (0 : Int32)) hG 740 rfl dL_refusesOne_739 rfl ?_
                                                                                                            refine sm_hcallS hG [.ref (Λ.2.2.2.1 (0, 0, 0)), .int (25 : Int32), .int (0 : Int32), .int r_8, .int (0 : Int32)] 743 rfl (fun r_ hr_ => c_L_call hC hfl hX hr_) gL_refusesOne_L_call rfl (by decide) (by decide) (n := 5) rfl (Nat.le_of_ble_eq_true rfl) (165, 990) ⟨rfl, rfl⟩ (by decide) rfl dL_refusesOne_740 (fun r_740 => ?_)
                                                                                                            refine sm_sipush (x := (-2011 : Int32)) hG 746 rfl dL_refusesOne_743 rfl ?_
                                                                                                            refine sm_icmp_ne hG 843 749 rfl dL_refusesOne_746 (by decide) ?_ ?_
                                                                                                            · refine sm_iconst (x := (0 : Int32)) hG 844 rfl dL_refusesOne_843 rfl ?_
                                                                                                              exact sm_bret hG hT (by decide) dL_refusesOne_844 rfl
                                                                                                            · refine sm_aload_n hG 750 rfl dL_refusesOne_749 rfl 1 rfl ?_
                                                                                                              refine sm_bipush (x := (28 : Int32)) hG 752 rfl dL_refusesOne_750 rfl ?_
                                                                                                              refine sm_iconst (x := (0 : Int32)) hG 753 rfl dL_refusesOne_752 rfl ?_
                                                                                                              refine sm_iload_n hG 754 rfl dL_refusesOne_753 rfl 3 rfl ?_
                                                                                                              refine sm_iconst (x := (0 : Int32)) hG 755 rfl dL_refusesOne_754 rfl ?_
                                                                                                              refine sm_hcallS hG [.ref (Λ.2.2.2.1 (0, 0, 0)), .int (28 : Int32), .int (0 : Int32), .int r_8, .int (0 : Int32)] 758 rfl (fun r_ hr_ => c_L_call hC hfl hX hr_) gL_refusesOne_L_call rfl (by decide) (by decide) (n := 5) rfl (Nat.le_of_ble_eq_true rfl) (169, 1014) ⟨rfl, rfl⟩ (by decide) rfl dL_refusesOne_755 (fun r_755 => ?_)
                                                                                                              refine sm_sipush (x := (-2011 : Int32)) hG 761 rfl dL_refusesOne_758 rfl ?_
                                                                                                              refine sm_icmp_ne hG 843 764 rfl dL_refusesOne_761 (by decide) ?_ ?_
                                                                                                              · refine sm_iconst (x := (0 : Int32)) hG 844 rfl dL_refusesOne_843 rfl ?_
                                                                                                                exact sm_bret hG hT (by decide) dL_refusesOne_844 rfl
                                                                                                              · refine sm_aload_n hG 765 rfl dL_refusesOne_764 rfl 1 rfl ?_
                                                                                                                refine sm_bipush (x := (29 : Int32)) hG 767 rfl dL_refusesOne_765 rfl ?_
                                                                                                                refine sm_iconst (x := (0 : Int32)) hG 768 rfl dL_refusesOne_767 rfl ?_
                                                                                                                refine sm_iload_n hG 769 rfl dL_refusesOne_768 rfl 3 rfl ?_
                                                                                                                refine sm_iconst (x := (0 : Int32)) hG 770 rfl dL_refusesOne_769 rfl ?_
                                                                                                                refine sm_hcallS hG [.ref (Λ.2.2.2.1 (0, 0, 0)), .int (29 : Int32), .int (0 : Int32), .int r_8, .int (0 : Int32)] 773 rfl (fun r_ hr_ => c_L_call hC hfl hX hr_) gL_refusesOne_L_call rfl (by decide) (by decide) (n := 5) rfl (Nat.le_of_ble_eq_true rfl) (173, 1038) ⟨rfl, rfl⟩ (by decide) rfl dL_refusesOne_770 (fun r_770 => ?_)
                                                                                                                refine sm_sipush (x := (-2011 : Int32)) hG 776 rfl dL_refusesOne_773 rfl ?_
                                                                                                                refine sm_icmp_ne hG 843 779 rfl dL_refusesOne_776 (by decide) ?_ ?_
                                                                                                                · refine sm_iconst (x := (0 : Int32)) hG 844 rfl dL_refusesOne_843 rfl ?_
                                                                                                                  exact sm_bret hG hT (by decide) dL_refusesOne_844 rfl
                                                                                                                · refine sm_aload_n hG 780 rfl dL_refusesOne_779 rfl 1 rfl ?_
                                                                                                                  refine sm_bipush (x := (29 : Int32)) hG 782 rfl dL_refusesOne_780 rfl ?_
                                                                                                                  refine sm_iconst (x := (0 : Int32)) hG 783 rfl dL_refusesOne_782 rfl ?_
                                                                                                                  refine sm_iconst (x := (0 : Int32)) hG 784 rfl dL_refusesOne_783 rfl ?_
                                                                                                                  refine sm_iload_n hG 785 rfl dL_refusesOne_784 rfl 2 rfl ?_
                                                                                                                  refine sm_iconst (x := (0 : Int32)) hG 786 rfl dL_refusesOne_785 rfl ?_
                                                                                                                  refine sm_iconst (x := (3 : Int32)) hG 787 rfl dL_refusesOne_786 rfl ?_
                                                                                                                  refine sm_callS hG (fun (q : Int32) => (some (Value.int q), r_770.2)) [.int x1, .int (0 : Int32), .int (3 : Int32)] 790 rfl (fun r_ hr_ => c_L_far hC   hr_) gL_refusesOne_L_far rfl (by decide) (by decide) (n := 3) rfl (Nat.le_of_ble_eq_true rfl) (by decide) (by decide) rfl dL_refusesOne_787 (fun r_787 => ?_)
                                                                                                                  refine sm_hcallS hG [.ref (Λ.2.2.2.1 (0, 0, 0)), .int (29 : Int32), .int (0 : Int32), .int (0 : Int32), .int r_787] 793 rfl (fun r_ hr_ => c_L_call hC hfl hX hr_) gL_refusesOne_L_call rfl (by decide) (by decide) (n := 5) rfl (Nat.le_of_ble_eq_true rfl) (177, 1062) ⟨rfl, rfl⟩ (by decide) rfl dL_refusesOne_790 (fun r_790 => ?_)
                                                                                                                  refine sm_sipush (x := (-2011 : Int32)) hG 796 rfl dL_refusesOne_793 rfl ?_
                                                                                                                  refine sm_icmp_ne hG 843 799 rfl dL_refusesOne_796 (by decide) ?_ ?_
                                                                                                                  · refine sm_iconst (x := (0 : Int32)) hG 844 rfl dL_refusesOne_843 rfl ?_
                                                                                                                    exact sm_bret hG hT (by decide) dL_refusesOne_844 rfl
                                                                                                                  · refine sm_aload_n hG 800 rfl dL_refusesOne_799 rfl 1 rfl ?_
                                                                                                                    refine sm_bipush (x := (26 : Int32)) hG 802 rfl dL_refusesOne_800 rfl ?_
                                                                                                                    refine sm_iconst (x := (0 : Int32)) hG 803 rfl dL_refusesOne_802 rfl ?_
                                                                                                                    refine sm_iload_n hG 804 rfl dL_refusesOne_803 rfl 2 rfl ?_
                                                                                                                    refine sm_iconst (x := (0 : Int32)) hG 805 rfl dL_refusesOne_804 rfl ?_
                                                                                                                    refine sm_iconst (x := (3 : Int32)) hG 806 rfl dL_refusesOne_805 rfl ?_
                                                                                                                    refine sm_callS hG (fun (q : Int32) => (some (Value.int q), r_790.2)) [.int x1, .int (0 : Int32), .int (3 : Int32)] 809 rfl (fun r_ hr_ => c_L_far hC   hr_) gL_refusesOne_L_far rfl (by decide) (by decide) (n := 3) rfl (Nat.le_of_ble_eq_true rfl) (by decide) (by decide) rfl dL_refusesOne_806 (fun r_806 => ?_)
                                                                                                                    refine sm_iconst (x := (0 : Int32)) hG 810 rfl dL_refusesOne_809 rfl ?_
                                                                                                                    refine sm_hcallS hG [.ref (Λ.2.2.2.1 (0, 0, 0)), .int (26 : Int32), .int (0 : Int32), .int r_806, .int (0 : Int32)] 813 rfl (fun r_ hr_ => c_L_call hC hfl hX hr_) gL_refusesOne_L_call rfl (by decide) (by decide) (n := 5) rfl (Nat.le_of_ble_eq_true rfl) (181, 1086) ⟨rfl, rfl⟩ (by decide) rfl dL_refusesOne_810 (fun r_810 => ?_)
                                                                                                                    refine sm_sipush (x := (-2011 : Int32)) hG 816 rfl dL_refusesOne_813 rfl ?_
                                                                                                                    refine sm_icmp_ne hG 843 819 rfl dL_refusesOne_816 (by decide) ?_ ?_
                                                                                                                    · refine sm_iconst (x := (0 : Int32)) hG 844 rfl dL_refusesOne_843 rfl ?_
                                                                                                                      exact sm_bret hG hT (by decide) dL_refusesOne_844 rfl
                                                                                                                    · refine sm_aload_n hG 820 rfl dL_refusesOne_819 rfl 1 rfl ?_
                                                                                                                      refine sm_bipush (x := (27 : Int32)) hG 822 rfl dL_refusesOne_820 rfl ?_
                                                                                                                      refine sm_iconst (x := (0 : Int32)) hG 823 rfl dL_refusesOne_822 rfl ?_
                                                                                                                      refine sm_iload_n hG 824 rfl dL_refusesOne_823 rfl 2 rfl ?_
                                                                                                                      refine sm_iconst (x := (0 : Int32)) hG 825 rfl dL_refusesOne_824 rfl ?_
                                                                                                                      refine sm_iconst (x := (3 : Int32)) hG 826 rfl dL_refusesOne_825 rfl ?_
                                                                                                                      refine sm_callS hG (fun (q : Int32) => (some (Value.int q), r_810.2)) [.int x1, .int (0 : Int32), .int (3 : Int32)] 829 rfl (fun r_ hr_ => c_L_far hC   hr_) gL_refusesOne_L_far rfl (by decide) (by decide) (n := 3) rfl (Nat.le_of_ble_eq_true rfl) (by decide) (by decide) rfl dL_refusesOne_826 (fun r_826 => ?_)
                                                                                                                      refine sm_iconst (x := (0 : Int32)) hG 830 rfl dL_refusesOne_829 rfl ?_
                                                                                                                      refine sm_hcallS hG [.ref (Λ.2.2.2.1 (0, 0, 0)), .int (27 : Int32), .int (0 : Int32), .int r_826, .int (0 : Int32)] 833 rfl (fun r_ hr_ => c_L_call hC hfl hX hr_) gL_refusesOne_L_call rfl (by decide) (by decide) (n := 5) rfl (Nat.le_of_ble_eq_true rfl) (185, 1110) ⟨rfl, rfl⟩ (by decide) rfl dL_refusesOne_830 (fun r_830 => ?_)
                                                                                                                      refine sm_sipush (x := (-2011 : Int32)) hG 836 rfl dL_refusesOne_833 rfl ?_
                                                                                                                      refine sm_icmp_ne hG 843 839 rfl dL_refusesOne_836 (by decide) ?_ ?_
                                                                                                                      · refine sm_iconst (x := (0 : Int32)) hG 844 rfl dL_refusesOne_843 rfl ?_
                                                                                                                        exact sm_bret hG hT (by decide) dL_refusesOne_844 rfl
                                                                                                                      · refine sm_iconst (x := (1 : Int32)) hG 840 rfl dL_refusesOne_839 rfl ?_
                                                                                                                        refine sm_goto hG 844 dL_refusesOne_840 (by decide) ?_
                                                                                                                        exact sm_bret hG hT (by decide) dL_refusesOne_844 rfl
                                                                                                          · refine sm_iconst (x := (0 : Int32)) hG 733 rfl dL_refusesOne_732 rfl ?_
                                                                                                            exact sm_bret hG hT (by decide) dL_refusesOne_733 rfl
                                                                                        · refine sm_iconst (x := (1 : Int32)) hG 539 rfl dL_refusesOne_538 rfl ?_
                                                                                          exact sm_bret hG hT (by decide) dL_refusesOne_539 rfl
                                                                                    · refine sm_iconst (x := (0 : Int32)) hG 517 rfl dL_refusesOne_516 rfl ?_
                                                                                      exact sm_bret hG hT (by decide) dL_refusesOne_517 rfl
                                                                                  · refine sm_iconst (x := (0 : Int32)) hG 517 rfl dL_refusesOne_516 rfl ?_
                                                                                    exact sm_bret hG hT (by decide) dL_refusesOne_517 rfl
                                                                                · refine sm_iconst (x := (0 : Int32)) hG 517 rfl dL_refusesOne_516 rfl ?_
                                                                                  exact sm_bret hG hT (by decide) dL_refusesOne_517 rfl
                                                                              · refine sm_iconst (x := (0 : Int32)) hG 517 rfl dL_refusesOne_516 rfl ?_
                                                                                exact sm_bret hG hT (by decide) dL_refusesOne_517 rfl
                                                                            · refine sm_iconst (x := (0 : Int32)) hG 517 rfl dL_refusesOne_516 rfl ?_
                                                                              exact sm_bret hG hT (by decide) dL_refusesOne_517 rfl
                                                                          · refine sm_iconst (x := (0 : Int32)) hG 517 rfl dL_refusesOne_516 rfl ?_
                                                                            exact sm_bret hG hT (by decide) dL_refusesOne_517 rfl
                                                                        · refine sm_iconst (x := (0 : Int32)) hG 517 rfl dL_refusesOne_516 rfl ?_
                                                                          exact sm_bret hG hT (by decide) dL_refusesOne_517 rfl
                                                                      · refine sm_iconst (x := (0 : Int32)) hG 517 rfl dL_refusesOne_516 rfl ?_
                                                                        exact sm_bret hG hT (by decide) dL_refusesOne_517 rfl
                                                                    · refine sm_iconst (x := (0 : Int32)) hG 517 rfl dL_refusesOne_516 rfl ?_
                                                                      exact sm_bret hG hT (by decide) dL_refusesOne_517 rfl
                                                                  · refine sm_iconst (x := (0 : Int32)) hG 517 rfl dL_refusesOne_516 rfl ?_
                                                                    exact sm_bret hG hT (by decide) dL_refusesOne_517 rfl
                                                                · refine sm_iconst (x := (0 : Int32)) hG 517 rfl dL_refusesOne_516 rfl ?_
                                                                  exact sm_bret hG hT (by decide) dL_refusesOne_517 rfl
                                                              · refine sm_iconst (x := (0 : Int32)) hG 483 rfl dL_refusesOne_482 rfl ?_
                                                                exact sm_bret hG hT (by decide) dL_refusesOne_483 rfl
                                                            · refine sm_iconst (x := (0 : Int32)) hG 483 rfl dL_refusesOne_482 rfl ?_
                                                              exact sm_bret hG hT (by decide) dL_refusesOne_483 rfl
                                                          · refine sm_iconst (x := (0 : Int32)) hG 483 rfl dL_refusesOne_482 rfl ?_
                                                            exact sm_bret hG hT (by decide) dL_refusesOne_483 rfl
                                                        · refine sm_iconst (x := (0 : Int32)) hG 483 rfl dL_refusesOne_482 rfl ?_
                                                          exact sm_bret hG hT (by decide) dL_refusesOne_483 rfl
                                                      · refine sm_iconst (x := (0 : Int32)) hG 483 rfl dL_refusesOne_482 rfl ?_
                                                        exact sm_bret hG hT (by decide) dL_refusesOne_483 rfl
                                                    · refine sm_iconst (x := (0 : Int32)) hG 483 rfl dL_refusesOne_482 rfl ?_
                                                      exact sm_bret hG hT (by decide) dL_refusesOne_483 rfl
                                                  · refine sm_iconst (x := (0 : Int32)) hG 483 rfl dL_refusesOne_482 rfl ?_
                                                    exact sm_bret hG hT (by decide) dL_refusesOne_483 rfl
                                                · refine sm_iconst (x := (0 : Int32)) hG 483 rfl dL_refusesOne_482 rfl ?_
                                                  exact sm_bret hG hT (by decide) dL_refusesOne_483 rfl
                                              · refine sm_iconst (x := (0 : Int32)) hG 483 rfl dL_refusesOne_482 rfl ?_
                                                exact sm_bret hG hT (by decide) dL_refusesOne_483 rfl
                                            · refine sm_iconst (x := (0 : Int32)) hG 483 rfl dL_refusesOne_482 rfl ?_
                                              exact sm_bret hG hT (by decide) dL_refusesOne_483 rfl
                                          · refine sm_iconst (x := (0 : Int32)) hG 455 rfl dL_refusesOne_454 rfl ?_
                                            exact sm_bret hG hT (by decide) dL_refusesOne_455 rfl
                      · refine sm_iconst (x := (0 : Int32)) hG 281 rfl dL_refusesOne_280 rfl ?_
                        exact sm_bret hG hT (by decide) dL_refusesOne_281 rfl
          · refine sm_aload_n hG 135 rfl dL_refusesOne_134 rfl 3 rfl ?_
            refine sm_bipush (x := (7 : Int32)) hG 137 rfl dL_refusesOne_135 rfl ?_
            refine sm_sipush (x := (210 : Int32)) hG 140 rfl dL_refusesOne_137 rfl ?_
            refine sm_iconst (x := (0 : Int32)) hG 141 rfl dL_refusesOne_140 rfl ?_
            refine sm_iconst (x := (0 : Int32)) hG 142 rfl dL_refusesOne_141 rfl ?_
            refine sm_iload_n hG 143 rfl dL_refusesOne_142 rfl 4 rfl ?_
            refine sm_if_ne hG 151 146 rfl dL_refusesOne_143 (by decide) ?_ ?_
            · refine sm_iload_n hG 152 rfl dL_refusesOne_151 rfl 4 rfl ?_
              refine sm_iconst (x := (0 : Int32)) hG 153 rfl dL_refusesOne_152 rfl ?_
              refine sm_bipush (x := (17 : Int32)) hG 155 rfl dL_refusesOne_153 rfl ?_
              refine sm_callS hG (fun (q : Int32) => (some (Value.int q), r_125.2)) [.int x1, .int (0 : Int32), .int (17 : Int32)] 158 rfl (fun r_ hr_ => c_L_far hC   hr_) gL_refusesOne_L_far rfl (by decide) (by decide) (n := 3) rfl (Nat.le_of_ble_eq_true rfl) (by decide) (by decide) rfl dL_refusesOne_155 (fun r_155 => ?_)
              refine sm_loc [3, 4, 2, 1, 0] [(0, .ref (Λ.2.2.2.1 (0, 0, 0))), (1, .int x1), (2, .int r_8), (3, .int r_20), (4, .int r_27)] rfl ?_
              exact hj158 _ _ _ _ _
            · refine sm_bipush (x := (11 : Int32)) hG 148 rfl dL_refusesOne_146 rfl ?_
              refine sm_goto hG 158 dL_refusesOne_148 (by decide) ?_
              refine sm_loc [3, 4, 2, 1, 0] [(0, .ref (Λ.2.2.2.1 (0, 0, 0))), (1, .int x1), (2, .int r_8), (3, .int r_20), (4, .int r_27)] rfl ?_
              exact hj158 _ _ _ _ _
