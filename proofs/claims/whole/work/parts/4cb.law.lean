/-! THE LAW: its cases, its loop -/
theorem i2c_n (x : Int32) : (x.toUInt32 % 65536).toInt32 = vp_nar .char x := rfl
/-- the law's locals -/
abbrev lsB (P : pS) (t : Nat) : List (Nat × Value) := [(0, .ref P.2.2.2.2.2.2.1), (1, .ref (P.2.2.1 (0, 0, 0))), (2, .ref (P.2.2.2.1 0)), (3, .ref P.2.2.2.2.1), (4, .int (nI t))]
section LR
variable {ρ : Type} {κ : Type} {Γ : jG ρ} {cs : Nat × Nat} {pc : Nat} {ls : List (Nat × Value)} {st : List Value} {ex : Option ρ} {cc : ByteArray} {own : String} {Ts : List Cond} {rm : Room}
theorem sl_callV {Λ : jL κ} {v v' : κ → Nat → Int32} (hG : jOk Γ Λ cc own Ts rm) {y : MethodName} {ws ws' : List Cond} {bytes : ByteArray} {maxL n index ci : Nat} {ret : Option FieldType} {rmc : Room} {q : vw_C} {fs : List Value} {x : Value} (key : κ) (As : List Value) {stk : List Value} (pc2 : Nat) (hp : pc + 3 = pc2) (hok : Λ.2.2.1 key) (he : Λ.2.2.2.2.1 key (v key) = .inr (ci, fs)) (hc : vwCl[ci]? = some q)
    (hM : Ct Γ.1.2.1 y ws rmc Λ (.ref (Λ.2.2.2.1 key) :: As) v (some x) v') (hT : GoodIn Ts (wsV own index q.1 y ws)) (hw : ws = Cond.code y bytes maxL ret :: ws') (hd : y.cls = q.1 ∧ y.cls ≠ "java/lang/invoke/MethodHandle" ∧ y.cls ≠ "java/lang/invoke/VarHandle" ∧ (parseMethodDescriptor y.desc).map (fun d => d.parameters.length) = some n) (hRm : rmc.frames + 1 ≤ rm.frames ∧ 8 + (maxL + 11) + rmc.locals ≤ rm.locals) (hn : As.length = n) (hst : (st.map fun v => v.category).sum ≤ 8) (hz : rmc.cells = 0 ∧ rmc.slots = 0) (hcs : cs.1 ≤ rm.cells ∧ cs.2 ≤ rm.slots) (hstk : As.reverse ++ .ref (Λ.2.2.2.1 key) :: st = stk) (d : decode cc pc = .ok (.invokevirtual index, 3))
    (k : Sm Γ Λ cs pc2 ls (x :: st) v' ex) : Sm Γ Λ cs pc ls stk v ex :=
  sm_callV hG (F := some ()) (e2 := fun _ => ex) (fun _ => (some x, v')) key As pc2 hp hok he hc (fun _ _ => hM) hT hw hd hRm hn hst hz hcs hstk d (fun _ => k)
theorem sl_wide {Λ : jL κ} {v : κ → Nat → Int32} {cs2 : Nat × Nat} (h : cs.1 ≤ cs2.1 ∧ cs.2 ≤ cs2.2) (k : Sm Γ Λ cs2 pc ls st v ex) : Sm Γ Λ cs pc ls st v ex := fun r hr a H locs ha hR hS => W.widen h.1 h.2 (k r hr a H locs ha hR hS)
theorem sl_i2c {Λ : jL κ} {v : κ → Nat → Int32} (hG : jOk Γ Λ cc own Ts rm) {x : Int32} (pc2 : Nat) (hp : pc + 1 = pc2) (d : decode cc pc = .ok (.i2c, 1)) (k : Sm Γ Λ cs pc2 ls (.int (vp_nar .char x) :: st) v ex) : Sm Γ Λ cs pc ls (.int x :: st) v ex := sm_i2c hG pc2 hp d k
variable {P : pS} {v : mS}
theorem sl_sld (hG : jOk Γ (lS P) cc own Ts rm) {i : Int32} (pc2 : Nat) (hp : pc + 1 = pc2) (hi : vp_in i P.2.2.2.2.2.2.2.1) (d : decode cc pc = .ok (.iaload, 1)) (k : Sm Γ (lS P) cs pc2 ls (.int (P.2.2.2.2.2.2.2.2 (ix i)) :: st) v ex) : Sm Γ (lS P) cs pc ls (.int i :: .ref P.2.2.2.2.2.2.1 :: st) v ex := by
  subst hp; intro r hr a H locs ha hR hS
  have hX : XS P _ _ := hG.2.2.2.2.2.2.2.2.2
  exact va_sld hG.1 hG.2.1 hX.2.1.1 (Nat.lt_of_lt_of_le hX.2.1.2.1 hX.2.1.2.2) (Nat.not_le.mpr hX.2.1.2.1) hS hi d (k r hr a H locs ha hR hS)
theorem sl_slen (hG : jOk Γ (lS P) cc own Ts rm) (pc2 : Nat) (hp : pc + 1 = pc2) (d : decode cc pc = .ok (.arraylength, 1)) (k : Sm Γ (lS P) cs pc2 ls (.int (nI P.2.2.2.2.2.2.2.1) :: st) v ex) : Sm Γ (lS P) cs pc ls (.ref P.2.2.2.2.2.2.1 :: st) v ex := by
  subst hp; intro r hr a H locs ha hR hS
  have hX : XS P _ _ := hG.2.2.2.2.2.2.2.2.2
  exact va_slen hG.1 hG.2.1 hX.2.1.1 (Nat.lt_of_lt_of_le hX.2.1.2.1 hX.2.1.2.2) (Nat.not_le.mpr hX.2.1.2.1) hS d (k r hr a H locs ha hR hS)
theorem at_in {t L : Nat} (h : t < L) (hL : L ≤ 3584) : vp_in (nI t) L ∧ ix (nI t) = t := ⟨inb_in (qi_inb h (by omega)), qi_ix (by omega)⟩
/-- the script at the turn's place -/
theorem sl_arg0 (hG : jOk Γ (lS P) cc own Ts rm) {t : Nat} (pc1 pc3 pc4 : Nat) (hp1 : pc + 1 = pc1) (hp3 : pc1 + 2 = pc3) (hp4 : pc3 + 1 = pc4) (j0 j4 : Nat) (h0 : ls[j0]? = some (0, .ref P.2.2.2.2.2.2.1)) (h4 : ls[j4]? = some (4, .int (nI t))) (hj : t < P.2.2.2.2.2.2.2.1) (hL : P.2.2.2.2.2.2.2.1 ≤ 3584) (d0 : decode cc pc = .ok (.aload_n 0, 1)) (d1 : decode cc pc1 = .ok (.iload 4, 2)) (d3 : decode cc pc3 = .ok (.iaload, 1)) (k : Sm Γ (lS P) cs pc4 ls (.int (P.2.2.2.2.2.2.2.2 t) :: st) v ex) : Sm Γ (lS P) cs pc ls st v ex := by
  refine sm_aload_n hG pc1 hp1 d0 rfl j0 h0 ?_
  refine sm_iload hG pc3 hp3 d1 j4 h4 ?_
  refine sl_sld hG pc4 hp4 (at_in hj hL).1 d3 ?_
  rw [(at_in hj hL).2]
  exact k
theorem sl_arg (hG : jOk Γ (lS P) cc own Ts rm) {t j : Nat} {n : Int} (pc1 pc3 pc4 pc5 pc6 : Nat) (hp1 : pc + 1 = pc1) (hp3 : pc1 + 2 = pc3) (hp4 : pc3 + 1 = pc4) (hp5 : pc4 + 1 = pc5) (hp6 : pc5 + 1 = pc6) (j0 j4 : Nat) (h0 : ls[j0]? = some (0, .ref P.2.2.2.2.2.2.1)) (h4 : ls[j4]? = some (4, .int (nI t))) (hj : t + j < P.2.2.2.2.2.2.2.1) (hL : P.2.2.2.2.2.2.2.1 ≤ 3584) (hn : Int32.ofInt n = nI j) (d0 : decode cc pc = .ok (.aload_n 0, 1)) (d1 : decode cc pc1 = .ok (.iload 4, 2)) (d3 : decode cc pc3 = .ok (.iconst n, 1)) (d4 : decode cc pc4 = .ok (.iadd, 1)) (d5 : decode cc pc5 = .ok (.iaload, 1)) (k : Sm Γ (lS P) cs pc6 ls (.int (P.2.2.2.2.2.2.2.2 (t + j)) :: st) v ex) : Sm Γ (lS P) cs pc ls st v ex := by
  refine sm_aload_n hG pc1 hp1 d0 rfl j0 h0 ?_
  refine sm_iload hG pc3 hp3 d1 j4 h4 ?_
  refine sm_iconst (x := nI j) hG pc4 hp4 d3 hn ?_
  refine sm_iadd hG pc5 hp5 d4 ?_
  rw [qi_add]
  refine sl_sld hG pc6 hp6 (at_in hj hL).1 d5 ?_
  rw [(at_in hj hL).2]
  exact k
theorem sl_arg6 (hG : jOk Γ (lS P) cc own Ts rm) {t j : Nat} {n : Int} (pc1 pc3 pc4 pc5 pc6 : Nat) (hp1 : pc + 1 = pc1) (hp3 : pc1 + 2 = pc3) (hp4 : pc3 + 2 = pc4) (hp5 : pc4 + 1 = pc5) (hp6 : pc5 + 1 = pc6) (j0 j4 : Nat) (h0 : ls[j0]? = some (0, .ref P.2.2.2.2.2.2.1)) (h4 : ls[j4]? = some (4, .int (nI t))) (hj : t + j < P.2.2.2.2.2.2.2.1) (hL : P.2.2.2.2.2.2.2.1 ≤ 3584) (hn : (Int8.ofInt n).toInt32 = nI j) (d0 : decode cc pc = .ok (.aload_n 0, 1)) (d1 : decode cc pc1 = .ok (.iload 4, 2)) (d3 : decode cc pc3 = .ok (.bipush n, 2)) (d4 : decode cc pc4 = .ok (.iadd, 1)) (d5 : decode cc pc5 = .ok (.iaload, 1)) (k : Sm Γ (lS P) cs pc6 ls (.int (P.2.2.2.2.2.2.2.2 (t + j)) :: st) v ex) : Sm Γ (lS P) cs pc ls st v ex := by
  refine sm_aload_n hG pc1 hp1 d0 rfl j0 h0 ?_
  refine sm_iload hG pc3 hp3 d1 j4 h4 ?_
  refine sm_bipush (x := nI j) hG pc4 hp4 d3 hn ?_
  refine sm_iadd hG pc5 hp5 d4 ?_
  rw [qi_add]
  refine sl_sld hG pc6 hp6 (at_in hj hL).1 d5 ?_
  rw [(at_in hj hL).2]
  exact k
end LR
/-- room for a turn -/
theorem cq {cs : Nat × Nat} (h : cs.1 + 4 ≤ 601024 ∧ cs.2 + 24 ≤ 7293034) {c s : Nat} (h1 : c ≤ 4) (h2 : s ≤ 24) : cs.1 + c ≤ room_1.cells ∧ cs.2 + s ≤ room_1.slots := ⟨Nat.le_trans (Nat.add_le_add_left h1 _) h.1, Nat.le_trans (Nat.add_le_add_left h2 _) h.2⟩
theorem cq0 {cs : Nat × Nat} (h : cs.1 + 4 ≤ 601024 ∧ cs.2 + 24 ≤ 7293034) : cs.1 ≤ room_1.cells ∧ cs.2 ≤ room_1.slots := cq (c := 0) (s := 0) h (Nat.zero_le _) (Nat.zero_le _)
theorem cqe {cs : Nat × Nat} {c s : Nat} (h1 : c ≤ 4) (h2 : s ≤ 24) : cs.1 + c ≤ cs.1 + 4 ∧ cs.2 + s ≤ cs.2 + 24 := ⟨Nat.add_le_add_left h1 _, Nat.add_le_add_left h2 _⟩
theorem meS_0 {P : pS} {v : mC} {w : mM} {o : Nat → Int32} : (lS P).2.2.2.2.1 (.inr (.inl 0)) (m3 v w o (.inr (.inl 0))) = .inr (7, [.ref (P.2.2.2.1 1), .ref (P.2.2.2.1 2), .int (w 0 2), .ref (P.2.2.2.1 3), .int (w 0 4), .ref (P.2.2.2.1 4), .ref (P.2.2.2.1 5), .ref (P.2.2.2.1 6), .ref (P.2.2.2.1 7), .ref (P.2.2.2.1 8), .ref (P.2.2.2.1 9), .int (w 0 11), .int (w 0 12), .int (w 0 13), .ref (P.2.2.2.1 10), .int (w 0 15)]) := rfl
theorem nI_z {n : Nat} (h : nI n = 0) (hn : n ≤ 3) : n = 0 := (qi_neq (a := n) (b := 0) (by omega) (by omega)).mp h
theorem oK_0 {k : Nat} {x : Int32} {o : Nat → Int32} (h : k = 0) : (oK k x o 0).toInt64 = x.toInt64 := by subst h; rfl
theorem bz_0 {x : Int32} (h : x = 0) : (bz x).toInt64 = 0 := by unfold bz; rw [if_pos h]; rfl
theorem bz_1 {x : Int32} (h : ¬ x = 0) : (bz x).toInt64 = 1 := by unfold bz; rw [if_neg h]; rfl
set_option maxRecDepth 100000 in
set_option maxHeartbeats 4000000 in
theorem law_0 {P : pS} (hP : Ap P) {Γ : jG Unit} (hG : jOk Γ (lS P) cL_law RL wsL_law room_1) (hN : Γ.2.1 = 7) (hfl : Γ.1.2.1.stackTraces = false) {cs : Nat × Nat} (hcs : cs.1 + 4 ≤ 601024 ∧ cs.2 + 24 ≤ 7293034) {t : Nat} (ht : t + 7 ≤ P.2.2.2.2.2.2.2.1) (hL : P.2.2.2.2.2.2.2.1 ≤ 3584) {v : mC} {w : mM} {o : Nat → Int32} (h : IV v w) (k : ∀ v' w' o', IV v' w' → Sm Γ (lS P) (cs.1 + 4, cs.2 + 24) 2743 (lsB P t) [] (m3 v' w' o') (some ())) : Sm Γ (lS P) cs 256 (lsB P t) [] (m3 v w o) (some ()) := by
  have hop : Op c23 (f_X6_register (P.2.2.2.2.2.2.2.2 (t + 1)) (P.2.2.2.2.2.2.2.2 (t + 2)) (P.2.2.2.2.2.2.2.2 (t + 3)) (P.2.2.2.2.2.2.2.2 (t + 4)) (P.2.2.2.2.2.2.2.2 (t + 5)) v) (f_X7_register (P.2.2.2.2.2.2.2.2 (t + 1)) (P.2.2.2.2.2.2.2.2 (t + 2)) (P.2.2.2.2.2.2.2.2 (t + 3)) (P.2.2.2.2.2.2.2.2 (t + 4)) (P.2.2.2.2.2.2.2.2 (t + 5)) w) := op_register h _ _ _ _ _
  obtain ⟨x, kk, v2, y, w2, hF, hF2, hk, hth, hcd, hxy, hI⟩ := hop
  refine sm_aload_n hG 257 rfl dL_law_256 rfl 1 rfl ?_
  refine sl_arg hG (t := t) (j := 1) 258 260 261 262 263 rfl rfl rfl rfl rfl 0 4 rfl rfl (by omega) hL rfl dL_law_257 dL_law_258 dL_law_260 dL_law_261 dL_law_262 ?_
  refine sl_arg hG (t := t) (j := 2) 264 266 267 268 269 rfl rfl rfl rfl rfl 0 4 rfl rfl (by omega) hL rfl dL_law_263 dL_law_264 dL_law_266 dL_law_267 dL_law_268 ?_
  refine sl_arg hG (t := t) (j := 3) 270 272 273 274 275 rfl rfl rfl rfl rfl 0 4 rfl rfl (by omega) hL rfl dL_law_269 dL_law_270 dL_law_272 dL_law_273 dL_law_274 ?_
  refine sl_arg hG (t := t) (j := 4) 276 278 279 280 281 rfl rfl rfl rfl rfl 0 4 rfl rfl (by omega) hL rfl dL_law_275 dL_law_276 dL_law_278 dL_law_279 dL_law_280 ?_
  refine sl_arg hG (t := t) (j := 5) 282 284 285 286 287 rfl rfl rfl rfl rfl 0 4 rfl rfl (by omega) hL rfl dL_law_281 dL_law_282 dL_law_284 dL_law_285 dL_law_286 ?_
  refine sm_aload_n hG 288 rfl dL_law_287 rfl 3 rfl ?_
  refine sl_callW hG (x := .int (nI (c23 kk))) (v' := m3 v2 w (oK kk (x) o)) [.ref (P.2.2.1 (0, 0, 0)), .int (P.2.2.2.2.2.2.2.2 (t + 1)), .int (P.2.2.2.2.2.2.2.2 (t + 2)), .int (P.2.2.2.2.2.2.2.2 (t + 3)), .int (P.2.2.2.2.2.2.2.2 (t + 4)), .int (P.2.2.2.2.2.2.2.2 (t + 5)), .ref P.2.2.2.2.1] 291 rfl (c_L_register hP hfl hF hk hcd) gL_law_L_register rfl (by decide) (by decide) (n := 7) rfl (Nat.le_of_ble_eq_true rfl) (cs.1 + rmL_register.cells, cs.2 + rmL_register.slots) ⟨rfl, rfl⟩ (cq hcs (by decide) (by decide)) rfl dL_law_288 ?_
  refine sm_istore hG 293 rfl dL_law_291 (jlt hN rfl) [(5, .int (nI (c23 kk))), (0, .ref P.2.2.2.2.2.2.1), (1, .ref (P.2.2.1 (0, 0, 0))), (2, .ref (P.2.2.2.1 0)), (3, .ref P.2.2.2.2.1), (4, .int (nI t))] rfl ?_
  refine sm_aload_n hG 294 rfl dL_law_293 rfl 3 rfl ?_
  refine sl_arg hG (t := t) (j := 1) 295 297 298 299 300 rfl rfl rfl rfl rfl 1 5 rfl rfl (by omega) hL rfl dL_law_294 dL_law_295 dL_law_297 dL_law_298 dL_law_299 ?_
  refine sl_arg hG (t := t) (j := 2) 301 303 304 305 306 rfl rfl rfl rfl rfl 1 5 rfl rfl (by omega) hL rfl dL_law_300 dL_law_301 dL_law_303 dL_law_304 dL_law_305 ?_
  refine sl_arg hG (t := t) (j := 3) 307 309 310 311 312 rfl rfl rfl rfl rfl 1 5 rfl rfl (by omega) hL rfl dL_law_306 dL_law_307 dL_law_309 dL_law_310 dL_law_311 ?_
  refine sl_arg hG (t := t) (j := 4) 313 315 316 317 318 rfl rfl rfl rfl rfl 1 5 rfl rfl (by omega) hL rfl dL_law_312 dL_law_313 dL_law_315 dL_law_316 dL_law_317 ?_
  refine sl_arg hG (t := t) (j := 5) 319 321 322 323 324 rfl rfl rfl rfl rfl 1 5 rfl rfl (by omega) hL rfl dL_law_318 dL_law_319 dL_law_321 dL_law_322 dL_law_323 ?_
  refine sl_callV hG (x := .int y) (v' := m3 v2 w2 (oK kk (x) o)) (.inr (.inl 0)) [.int (P.2.2.2.2.2.2.2.2 (t + 1)), .int (P.2.2.2.2.2.2.2.2 (t + 2)), .int (P.2.2.2.2.2.2.2.2 (t + 3)), .int (P.2.2.2.2.2.2.2.2 (t + 4)), .int (P.2.2.2.2.2.2.2.2 (t + 5))] 327 rfl (okm (lM_ok hP) (by decide)) meS_0 (ci := 7) rfl (lift_M hP (c_X7_register (lM_ok hP) hF2)) gL_law_X7_register rfl (by decide) (by decide) (n := 5) rfl (Nat.le_of_ble_eq_true rfl) (by decide) (cq hcs (by decide) (by decide)) rfl dL_law_324 ?_
  refine sm_istore hG 329 rfl dL_law_327 (jlt hN rfl) [(6, .int y), (5, .int (nI (c23 kk))), (0, .ref P.2.2.2.2.2.2.1), (1, .ref (P.2.2.1 (0, 0, 0))), (2, .ref (P.2.2.2.1 0)), (3, .ref P.2.2.2.2.1), (4, .int (nI t))] rfl ?_
  refine sm_aload_n hG 330 rfl dL_law_329 rfl 4 rfl ?_
  refine sl_callV hG (x := .int (w2 0 12)) (v' := m3 v2 w2 (oK kk (x) o)) (.inr (.inl 0)) [] 333 rfl (okm (lM_ok hP) (by decide)) meS_0 (ci := 7) rfl (lift_M hP (c_X7_thrown (lM_ok hP) rfl)) gL_law_X7_thrown rfl (by decide) (by decide) (n := 0) rfl (Nat.le_of_ble_eq_true rfl) (by decide) (cq hcs (by decide) (by decide)) rfl dL_law_330 ?_
  refine sm_iload hG 335 rfl dL_law_333 1 rfl ?_
  refine sl_ieq hG 340 hth dL_law_335 (by decide) ?_
  refine sm_iload hG 342 rfl dL_law_340 1 rfl ?_
  refine sl_ne hG 357 345 rfl dL_law_342 (by decide) (fun hz => ?_) (fun hz => ?_)
  · skip
    refine sm_goto hG 2743 dL_law_357 (by decide) ?_
    refine sm_loc [2, 3, 4, 5, 6] (lsB P t) rfl ?_
    exact sl_wide (cqe (by decide) (by decide)) (k _ _ _ hI)
  · have hk0 : kk = 0 := hcd.mp (nI_z hz (by unfold c23; split <;> (try split) <;> omega))
    have hxy := hxy hk0
    subst hxy
    refine sm_aload_n hG 346 rfl dL_law_345 rfl 5 rfl ?_
    refine sm_iconst (x := (0 : Int32)) hG 347 rfl dL_law_346 rfl ?_
    refine sl_oin hG 348 rfl dL_law_347 ?_
    rw [oK_0 hk0]
    refine sm_iload hG 350 rfl dL_law_348 0 rfl ?_
    refine sl_i2l hG 351 rfl dL_law_350 ?_
    refine sl_lcmp hG 352 rfl dL_law_351 ?_
    refine sl_eq hG 357 355 rfl dL_law_352 (by decide) (fun _ => ?_) (fun hz => absurd rfl hz)
    refine sm_goto hG 2743 dL_law_357 (by decide) ?_
    refine sm_loc [2, 3, 4, 5, 6] (lsB P t) rfl ?_
    exact sl_wide (cqe (by decide) (by decide)) (k _ _ _ hI)
set_option maxRecDepth 100000 in
set_option maxHeartbeats 4000000 in
theorem law_1 {P : pS} (hP : Ap P) {Γ : jG Unit} (hG : jOk Γ (lS P) cL_law RL wsL_law room_1) (hN : Γ.2.1 = 7) (hfl : Γ.1.2.1.stackTraces = false) {cs : Nat × Nat} (hcs : cs.1 + 4 ≤ 601024 ∧ cs.2 + 24 ≤ 7293034) {t : Nat} (ht : t + 7 ≤ P.2.2.2.2.2.2.2.1) (hL : P.2.2.2.2.2.2.2.1 ≤ 3584) {v : mC} {w : mM} {o : Nat → Int32} (h : IV v w) (k : ∀ v' w' o', IV v' w' → Sm Γ (lS P) (cs.1 + 4, cs.2 + 24) 2743 (lsB P t) [] (m3 v' w' o') (some ())) : Sm Γ (lS P) cs 360 (lsB P t) [] (m3 v w o) (some ()) := by
  have hop : Op c13 (f_X6_leave (P.2.2.2.2.2.2.2.2 (t + 1)) v) (f_X7_leave (P.2.2.2.2.2.2.2.2 (t + 1)) w) := op_leave h _
  obtain ⟨x, kk, v2, y, w2, hF, hF2, hk, hth, hcd, hxy, hI⟩ := hop
  refine sm_aload_n hG 361 rfl dL_law_360 rfl 1 rfl ?_
  refine sl_arg hG (t := t) (j := 1) 362 364 365 366 367 rfl rfl rfl rfl rfl 0 4 rfl rfl (by omega) hL rfl dL_law_361 dL_law_362 dL_law_364 dL_law_365 dL_law_366 ?_
  refine sm_aload_n hG 368 rfl dL_law_367 rfl 3 rfl ?_
  refine sl_callW hG (x := .int (nI (c13 kk))) (v' := m3 v2 w (oK kk (x) o)) [.ref (P.2.2.1 (0, 0, 0)), .int (P.2.2.2.2.2.2.2.2 (t + 1)), .ref P.2.2.2.2.1] 371 rfl (c_L_leave hP hfl hF hk hcd) gL_law_L_leave rfl (by decide) (by decide) (n := 3) rfl (Nat.le_of_ble_eq_true rfl) (cs.1 + rmL_leave.cells, cs.2 + rmL_leave.slots) ⟨rfl, rfl⟩ (cq hcs (by decide) (by decide)) rfl dL_law_368 ?_
  refine sm_istore hG 373 rfl dL_law_371 (jlt hN rfl) [(5, .int (nI (c13 kk))), (0, .ref P.2.2.2.2.2.2.1), (1, .ref (P.2.2.1 (0, 0, 0))), (2, .ref (P.2.2.2.1 0)), (3, .ref P.2.2.2.2.1), (4, .int (nI t))] rfl ?_
  refine sm_aload_n hG 374 rfl dL_law_373 rfl 3 rfl ?_
  refine sl_arg hG (t := t) (j := 1) 375 377 378 379 380 rfl rfl rfl rfl rfl 1 5 rfl rfl (by omega) hL rfl dL_law_374 dL_law_375 dL_law_377 dL_law_378 dL_law_379 ?_
  refine sl_callV hG (x := .int y) (v' := m3 v2 w2 (oK kk (x) o)) (.inr (.inl 0)) [.int (P.2.2.2.2.2.2.2.2 (t + 1))] 383 rfl (okm (lM_ok hP) (by decide)) meS_0 (ci := 7) rfl (lift_M hP (c_X7_leave (lM_ok hP) hF2)) gL_law_X7_leave rfl (by decide) (by decide) (n := 1) rfl (Nat.le_of_ble_eq_true rfl) (by decide) (cq hcs (by decide) (by decide)) rfl dL_law_380 ?_
  refine sm_istore hG 385 rfl dL_law_383 (jlt hN rfl) [(6, .int y), (5, .int (nI (c13 kk))), (0, .ref P.2.2.2.2.2.2.1), (1, .ref (P.2.2.1 (0, 0, 0))), (2, .ref (P.2.2.2.1 0)), (3, .ref P.2.2.2.2.1), (4, .int (nI t))] rfl ?_
  refine sm_aload_n hG 386 rfl dL_law_385 rfl 4 rfl ?_
  refine sl_callV hG (x := .int (w2 0 12)) (v' := m3 v2 w2 (oK kk (x) o)) (.inr (.inl 0)) [] 389 rfl (okm (lM_ok hP) (by decide)) meS_0 (ci := 7) rfl (lift_M hP (c_X7_thrown (lM_ok hP) rfl)) gL_law_X7_thrown rfl (by decide) (by decide) (n := 0) rfl (Nat.le_of_ble_eq_true rfl) (by decide) (cq hcs (by decide) (by decide)) rfl dL_law_386 ?_
  refine sm_iload hG 391 rfl dL_law_389 1 rfl ?_
  refine sl_ieq hG 396 hth dL_law_391 (by decide) ?_
  refine sm_iload hG 398 rfl dL_law_396 1 rfl ?_
  refine sl_ne hG 413 401 rfl dL_law_398 (by decide) (fun hz => ?_) (fun hz => ?_)
  · skip
    refine sm_goto hG 2743 dL_law_413 (by decide) ?_
    refine sm_loc [2, 3, 4, 5, 6] (lsB P t) rfl ?_
    exact sl_wide (cqe (by decide) (by decide)) (k _ _ _ hI)
  · have hk0 : kk = 0 := hcd.mp (nI_z hz (by unfold c13; split <;> (try split) <;> omega))
    have hxy := hxy hk0
    subst hxy
    refine sm_aload_n hG 402 rfl dL_law_401 rfl 5 rfl ?_
    refine sm_iconst (x := (0 : Int32)) hG 403 rfl dL_law_402 rfl ?_
    refine sl_oin hG 404 rfl dL_law_403 ?_
    rw [oK_0 hk0]
    refine sm_iload hG 406 rfl dL_law_404 0 rfl ?_
    refine sl_i2l hG 407 rfl dL_law_406 ?_
    refine sl_lcmp hG 408 rfl dL_law_407 ?_
    refine sl_eq hG 413 411 rfl dL_law_408 (by decide) (fun _ => ?_) (fun hz => absurd rfl hz)
    refine sm_goto hG 2743 dL_law_413 (by decide) ?_
    refine sm_loc [2, 3, 4, 5, 6] (lsB P t) rfl ?_
    exact sl_wide (cqe (by decide) (by decide)) (k _ _ _ hI)
set_option maxRecDepth 100000 in
set_option maxHeartbeats 4000000 in
theorem law_2 {P : pS} (hP : Ap P) {Γ : jG Unit} (hG : jOk Γ (lS P) cL_law RL wsL_law room_1) (hN : Γ.2.1 = 7) (hfl : Γ.1.2.1.stackTraces = false) {cs : Nat × Nat} (hcs : cs.1 + 4 ≤ 601024 ∧ cs.2 + 24 ≤ 7293034) {t : Nat} (ht : t + 7 ≤ P.2.2.2.2.2.2.2.1) (hL : P.2.2.2.2.2.2.2.1 ≤ 3584) {v : mC} {w : mM} {o : Nat → Int32} (h : IV v w) (k : ∀ v' w' o', IV v' w' → Sm Γ (lS P) (cs.1 + 4, cs.2 + 24) 2743 (lsB P t) [] (m3 v' w' o') (some ())) : Sm Γ (lS P) cs 416 (lsB P t) [] (m3 v w o) (some ()) := by
  have hop : Op c123 (f_X6_borrow (P.2.2.2.2.2.2.2.2 (t + 1)) (P.2.2.2.2.2.2.2.2 (t + 2)) (P.2.2.2.2.2.2.2.2 (t + 3)) (P.2.2.2.2.2.2.2.2 (t + 4)) (P.2.2.2.2.2.2.2.2 (t + 5)) (P.2.2.2.2.2.2.2.2 (t + 6)) v) (f_X7_borrow (P.2.2.2.2.2.2.2.2 (t + 1)) (P.2.2.2.2.2.2.2.2 (t + 2)) (P.2.2.2.2.2.2.2.2 (t + 3)) (P.2.2.2.2.2.2.2.2 (t + 4)) (P.2.2.2.2.2.2.2.2 (t + 5)) (P.2.2.2.2.2.2.2.2 (t + 6)) w) := op_borrow h _ _ _ _ _ _
  obtain ⟨x, kk, v2, y, w2, hF, hF2, hk, hth, hcd, hxy, hI⟩ := hop
  refine sm_aload_n hG 417 rfl dL_law_416 rfl 1 rfl ?_
  refine sl_arg hG (t := t) (j := 1) 418 420 421 422 423 rfl rfl rfl rfl rfl 0 4 rfl rfl (by omega) hL rfl dL_law_417 dL_law_418 dL_law_420 dL_law_421 dL_law_422 ?_
  refine sl_arg hG (t := t) (j := 2) 424 426 427 428 429 rfl rfl rfl rfl rfl 0 4 rfl rfl (by omega) hL rfl dL_law_423 dL_law_424 dL_law_426 dL_law_427 dL_law_428 ?_
  refine sl_arg hG (t := t) (j := 3) 430 432 433 434 435 rfl rfl rfl rfl rfl 0 4 rfl rfl (by omega) hL rfl dL_law_429 dL_law_430 dL_law_432 dL_law_433 dL_law_434 ?_
  refine sl_arg hG (t := t) (j := 4) 436 438 439 440 441 rfl rfl rfl rfl rfl 0 4 rfl rfl (by omega) hL rfl dL_law_435 dL_law_436 dL_law_438 dL_law_439 dL_law_440 ?_
  refine sl_arg hG (t := t) (j := 5) 442 444 445 446 447 rfl rfl rfl rfl rfl 0 4 rfl rfl (by omega) hL rfl dL_law_441 dL_law_442 dL_law_444 dL_law_445 dL_law_446 ?_
  refine sl_arg6 hG (t := t) (j := 6) 448 450 452 453 454 rfl rfl rfl rfl rfl 0 4 rfl rfl (by omega) hL rfl dL_law_447 dL_law_448 dL_law_450 dL_law_452 dL_law_453 ?_
  refine sm_aload_n hG 455 rfl dL_law_454 rfl 3 rfl ?_
  refine sl_callW hG (x := .int (nI (c123 kk))) (v' := m3 v2 w (oK kk (x) o)) [.ref (P.2.2.1 (0, 0, 0)), .int (P.2.2.2.2.2.2.2.2 (t + 1)), .int (P.2.2.2.2.2.2.2.2 (t + 2)), .int (P.2.2.2.2.2.2.2.2 (t + 3)), .int (P.2.2.2.2.2.2.2.2 (t + 4)), .int (P.2.2.2.2.2.2.2.2 (t + 5)), .int (P.2.2.2.2.2.2.2.2 (t + 6)), .ref P.2.2.2.2.1] 458 rfl (c_L_borrow hP hfl hF hk hcd) gL_law_L_borrow rfl (by decide) (by decide) (n := 8) rfl (Nat.le_of_ble_eq_true rfl) (cs.1 + rmL_borrow.cells, cs.2 + rmL_borrow.slots) ⟨rfl, rfl⟩ (cq hcs (by decide) (by decide)) rfl dL_law_455 ?_
  refine sm_istore hG 460 rfl dL_law_458 (jlt hN rfl) [(5, .int (nI (c123 kk))), (0, .ref P.2.2.2.2.2.2.1), (1, .ref (P.2.2.1 (0, 0, 0))), (2, .ref (P.2.2.2.1 0)), (3, .ref P.2.2.2.2.1), (4, .int (nI t))] rfl ?_
  refine sm_aload_n hG 461 rfl dL_law_460 rfl 3 rfl ?_
  refine sl_arg hG (t := t) (j := 1) 462 464 465 466 467 rfl rfl rfl rfl rfl 1 5 rfl rfl (by omega) hL rfl dL_law_461 dL_law_462 dL_law_464 dL_law_465 dL_law_466 ?_
  refine sl_arg hG (t := t) (j := 2) 468 470 471 472 473 rfl rfl rfl rfl rfl 1 5 rfl rfl (by omega) hL rfl dL_law_467 dL_law_468 dL_law_470 dL_law_471 dL_law_472 ?_
  refine sl_arg hG (t := t) (j := 3) 474 476 477 478 479 rfl rfl rfl rfl rfl 1 5 rfl rfl (by omega) hL rfl dL_law_473 dL_law_474 dL_law_476 dL_law_477 dL_law_478 ?_
  refine sl_arg hG (t := t) (j := 4) 480 482 483 484 485 rfl rfl rfl rfl rfl 1 5 rfl rfl (by omega) hL rfl dL_law_479 dL_law_480 dL_law_482 dL_law_483 dL_law_484 ?_
  refine sl_arg hG (t := t) (j := 5) 486 488 489 490 491 rfl rfl rfl rfl rfl 1 5 rfl rfl (by omega) hL rfl dL_law_485 dL_law_486 dL_law_488 dL_law_489 dL_law_490 ?_
  refine sl_arg6 hG (t := t) (j := 6) 492 494 496 497 498 rfl rfl rfl rfl rfl 1 5 rfl rfl (by omega) hL rfl dL_law_491 dL_law_492 dL_law_494 dL_law_496 dL_law_497 ?_
  refine sl_callV hG (x := .int y) (v' := m3 v2 w2 (oK kk (x) o)) (.inr (.inl 0)) [.int (P.2.2.2.2.2.2.2.2 (t + 1)), .int (P.2.2.2.2.2.2.2.2 (t + 2)), .int (P.2.2.2.2.2.2.2.2 (t + 3)), .int (P.2.2.2.2.2.2.2.2 (t + 4)), .int (P.2.2.2.2.2.2.2.2 (t + 5)), .int (P.2.2.2.2.2.2.2.2 (t + 6))] 501 rfl (okm (lM_ok hP) (by decide)) meS_0 (ci := 7) rfl (lift_M hP (c_X7_borrow (lM_ok hP) hF2)) gL_law_X7_borrow rfl (by decide) (by decide) (n := 6) rfl (Nat.le_of_ble_eq_true rfl) (by decide) (cq hcs (by decide) (by decide)) rfl dL_law_498 ?_
  refine sm_istore hG 503 rfl dL_law_501 (jlt hN rfl) [(6, .int y), (5, .int (nI (c123 kk))), (0, .ref P.2.2.2.2.2.2.1), (1, .ref (P.2.2.1 (0, 0, 0))), (2, .ref (P.2.2.2.1 0)), (3, .ref P.2.2.2.2.1), (4, .int (nI t))] rfl ?_
  refine sm_aload_n hG 504 rfl dL_law_503 rfl 4 rfl ?_
  refine sl_callV hG (x := .int (w2 0 12)) (v' := m3 v2 w2 (oK kk (x) o)) (.inr (.inl 0)) [] 507 rfl (okm (lM_ok hP) (by decide)) meS_0 (ci := 7) rfl (lift_M hP (c_X7_thrown (lM_ok hP) rfl)) gL_law_X7_thrown rfl (by decide) (by decide) (n := 0) rfl (Nat.le_of_ble_eq_true rfl) (by decide) (cq hcs (by decide) (by decide)) rfl dL_law_504 ?_
  refine sm_iload hG 509 rfl dL_law_507 1 rfl ?_
  refine sl_ieq hG 514 hth dL_law_509 (by decide) ?_
  refine sm_iload hG 516 rfl dL_law_514 1 rfl ?_
  refine sl_ne hG 531 519 rfl dL_law_516 (by decide) (fun hz => ?_) (fun hz => ?_)
  · skip
    refine sm_goto hG 2743 dL_law_531 (by decide) ?_
    refine sm_loc [2, 3, 4, 5, 6] (lsB P t) rfl ?_
    exact sl_wide (cqe (by decide) (by decide)) (k _ _ _ hI)
  · have hk0 : kk = 0 := hcd.mp (nI_z hz (show kk ≤ 3 from hk))
    have hxy := hxy hk0
    subst hxy
    refine sm_aload_n hG 520 rfl dL_law_519 rfl 5 rfl ?_
    refine sm_iconst (x := (0 : Int32)) hG 521 rfl dL_law_520 rfl ?_
    refine sl_oin hG 522 rfl dL_law_521 ?_
    rw [oK_0 hk0]
    refine sm_iload hG 524 rfl dL_law_522 0 rfl ?_
    refine sl_i2l hG 525 rfl dL_law_524 ?_
    refine sl_lcmp hG 526 rfl dL_law_525 ?_
    refine sl_eq hG 531 529 rfl dL_law_526 (by decide) (fun _ => ?_) (fun hz => absurd rfl hz)
    refine sm_goto hG 2743 dL_law_531 (by decide) ?_
    refine sm_loc [2, 3, 4, 5, 6] (lsB P t) rfl ?_
    exact sl_wide (cqe (by decide) (by decide)) (k _ _ _ hI)
set_option maxRecDepth 100000 in
set_option maxHeartbeats 4000000 in
theorem law_3 {P : pS} (hP : Ap P) {Γ : jG Unit} (hG : jOk Γ (lS P) cL_law RL wsL_law room_1) (hN : Γ.2.1 = 7) (hfl : Γ.1.2.1.stackTraces = false) {cs : Nat × Nat} (hcs : cs.1 + 4 ≤ 601024 ∧ cs.2 + 24 ≤ 7293034) {t : Nat} (ht : t + 7 ≤ P.2.2.2.2.2.2.2.1) (hL : P.2.2.2.2.2.2.2.1 ≤ 3584) {v : mC} {w : mM} {o : Nat → Int32} (h : IV v w) (k : ∀ v' w' o', IV v' w' → Sm Γ (lS P) (cs.1 + 4, cs.2 + 24) 2743 (lsB P t) [] (m3 v' w' o') (some ())) : Sm Γ (lS P) cs 534 (lsB P t) [] (m3 v w o) (some ()) := by
  have hop : Op c123 (f_X6_lend (P.2.2.2.2.2.2.2.2 (t + 1)) (P.2.2.2.2.2.2.2.2 (t + 2)) (P.2.2.2.2.2.2.2.2 (t + 3)) v) (f_X7_lend (P.2.2.2.2.2.2.2.2 (t + 1)) (P.2.2.2.2.2.2.2.2 (t + 2)) (P.2.2.2.2.2.2.2.2 (t + 3)) w) := op_lend h _ _ _
  obtain ⟨x, kk, v2, y, w2, hF, hF2, hk, hth, hcd, hxy, hI⟩ := hop
  refine sm_aload_n hG 535 rfl dL_law_534 rfl 1 rfl ?_
  refine sl_arg hG (t := t) (j := 1) 536 538 539 540 541 rfl rfl rfl rfl rfl 0 4 rfl rfl (by omega) hL rfl dL_law_535 dL_law_536 dL_law_538 dL_law_539 dL_law_540 ?_
  refine sl_arg hG (t := t) (j := 2) 542 544 545 546 547 rfl rfl rfl rfl rfl 0 4 rfl rfl (by omega) hL rfl dL_law_541 dL_law_542 dL_law_544 dL_law_545 dL_law_546 ?_
  refine sl_arg hG (t := t) (j := 3) 548 550 551 552 553 rfl rfl rfl rfl rfl 0 4 rfl rfl (by omega) hL rfl dL_law_547 dL_law_548 dL_law_550 dL_law_551 dL_law_552 ?_
  refine sm_aload_n hG 554 rfl dL_law_553 rfl 3 rfl ?_
  refine sl_callW hG (x := .int (nI (c123 kk))) (v' := m3 v2 w (oK kk (x) o)) [.ref (P.2.2.1 (0, 0, 0)), .int (P.2.2.2.2.2.2.2.2 (t + 1)), .int (P.2.2.2.2.2.2.2.2 (t + 2)), .int (P.2.2.2.2.2.2.2.2 (t + 3)), .ref P.2.2.2.2.1] 557 rfl (c_L_lend hP hfl hF hk hcd) gL_law_L_lend rfl (by decide) (by decide) (n := 5) rfl (Nat.le_of_ble_eq_true rfl) (cs.1 + rmL_lend.cells, cs.2 + rmL_lend.slots) ⟨rfl, rfl⟩ (cq hcs (by decide) (by decide)) rfl dL_law_554 ?_
  refine sm_istore hG 559 rfl dL_law_557 (jlt hN rfl) [(5, .int (nI (c123 kk))), (0, .ref P.2.2.2.2.2.2.1), (1, .ref (P.2.2.1 (0, 0, 0))), (2, .ref (P.2.2.2.1 0)), (3, .ref P.2.2.2.2.1), (4, .int (nI t))] rfl ?_
  refine sm_aload_n hG 560 rfl dL_law_559 rfl 3 rfl ?_
  refine sl_arg hG (t := t) (j := 1) 561 563 564 565 566 rfl rfl rfl rfl rfl 1 5 rfl rfl (by omega) hL rfl dL_law_560 dL_law_561 dL_law_563 dL_law_564 dL_law_565 ?_
  refine sl_arg hG (t := t) (j := 2) 567 569 570 571 572 rfl rfl rfl rfl rfl 1 5 rfl rfl (by omega) hL rfl dL_law_566 dL_law_567 dL_law_569 dL_law_570 dL_law_571 ?_
  refine sl_arg hG (t := t) (j := 3) 573 575 576 577 578 rfl rfl rfl rfl rfl 1 5 rfl rfl (by omega) hL rfl dL_law_572 dL_law_573 dL_law_575 dL_law_576 dL_law_577 ?_
  refine sl_callV hG (x := .int y) (v' := m3 v2 w2 (oK kk (x) o)) (.inr (.inl 0)) [.int (P.2.2.2.2.2.2.2.2 (t + 1)), .int (P.2.2.2.2.2.2.2.2 (t + 2)), .int (P.2.2.2.2.2.2.2.2 (t + 3))] 581 rfl (okm (lM_ok hP) (by decide)) meS_0 (ci := 7) rfl (lift_M hP (c_X7_lend (lM_ok hP) hF2)) gL_law_X7_lend rfl (by decide) (by decide) (n := 3) rfl (Nat.le_of_ble_eq_true rfl) (by decide) (cq hcs (by decide) (by decide)) rfl dL_law_578 ?_
  refine sm_istore hG 583 rfl dL_law_581 (jlt hN rfl) [(6, .int y), (5, .int (nI (c123 kk))), (0, .ref P.2.2.2.2.2.2.1), (1, .ref (P.2.2.1 (0, 0, 0))), (2, .ref (P.2.2.2.1 0)), (3, .ref P.2.2.2.2.1), (4, .int (nI t))] rfl ?_
  refine sm_aload_n hG 584 rfl dL_law_583 rfl 4 rfl ?_
  refine sl_callV hG (x := .int (w2 0 12)) (v' := m3 v2 w2 (oK kk (x) o)) (.inr (.inl 0)) [] 587 rfl (okm (lM_ok hP) (by decide)) meS_0 (ci := 7) rfl (lift_M hP (c_X7_thrown (lM_ok hP) rfl)) gL_law_X7_thrown rfl (by decide) (by decide) (n := 0) rfl (Nat.le_of_ble_eq_true rfl) (by decide) (cq hcs (by decide) (by decide)) rfl dL_law_584 ?_
  refine sm_iload hG 589 rfl dL_law_587 1 rfl ?_
  refine sl_ieq hG 594 hth dL_law_589 (by decide) ?_
  refine sm_iload hG 596 rfl dL_law_594 1 rfl ?_
  refine sl_ne hG 611 599 rfl dL_law_596 (by decide) (fun hz => ?_) (fun hz => ?_)
  · skip
    refine sm_goto hG 2743 dL_law_611 (by decide) ?_
    refine sm_loc [2, 3, 4, 5, 6] (lsB P t) rfl ?_
    exact sl_wide (cqe (by decide) (by decide)) (k _ _ _ hI)
  · have hk0 : kk = 0 := hcd.mp (nI_z hz (show kk ≤ 3 from hk))
    have hxy := hxy hk0
    subst hxy
    refine sm_aload_n hG 600 rfl dL_law_599 rfl 5 rfl ?_
    refine sm_iconst (x := (0 : Int32)) hG 601 rfl dL_law_600 rfl ?_
    refine sl_oin hG 602 rfl dL_law_601 ?_
    rw [oK_0 hk0]
    refine sm_iload hG 604 rfl dL_law_602 0 rfl ?_
    refine sl_i2l hG 605 rfl dL_law_604 ?_
    refine sl_lcmp hG 606 rfl dL_law_605 ?_
    refine sl_eq hG 611 609 rfl dL_law_606 (by decide) (fun _ => ?_) (fun hz => absurd rfl hz)
    refine sm_goto hG 2743 dL_law_611 (by decide) ?_
    refine sm_loc [2, 3, 4, 5, 6] (lsB P t) rfl ?_
    exact sl_wide (cqe (by decide) (by decide)) (k _ _ _ hI)
set_option maxRecDepth 100000 in
set_option maxHeartbeats 4000000 in
theorem law_4 {P : pS} (hP : Ap P) {Γ : jG Unit} (hG : jOk Γ (lS P) cL_law RL wsL_law room_1) (hN : Γ.2.1 = 7) (hfl : Γ.1.2.1.stackTraces = false) {cs : Nat × Nat} (hcs : cs.1 + 4 ≤ 601024 ∧ cs.2 + 24 ≤ 7293034) {t : Nat} (ht : t + 7 ≤ P.2.2.2.2.2.2.2.1) (hL : P.2.2.2.2.2.2.2.1 ≤ 3584) {v : mC} {w : mM} {o : Nat → Int32} (h : IV v w) (k : ∀ v' w' o', IV v' w' → Sm Γ (lS P) (cs.1 + 4, cs.2 + 24) 2743 (lsB P t) [] (m3 v' w' o') (some ())) : Sm Γ (lS P) cs 614 (lsB P t) [] (m3 v w o) (some ()) := by
  have hop : Op c123 (f_X6_excuse (P.2.2.2.2.2.2.2.2 (t + 1)) (P.2.2.2.2.2.2.2.2 (t + 2)) (P.2.2.2.2.2.2.2.2 (t + 3)) v) (f_X7_excuse (P.2.2.2.2.2.2.2.2 (t + 1)) (P.2.2.2.2.2.2.2.2 (t + 2)) (P.2.2.2.2.2.2.2.2 (t + 3)) w) := op_excuse h _ _ _
  obtain ⟨x, kk, v2, y, w2, hF, hF2, hk, hth, hcd, hxy, hI⟩ := hop
  refine sm_aload_n hG 615 rfl dL_law_614 rfl 1 rfl ?_
  refine sl_arg hG (t := t) (j := 1) 616 618 619 620 621 rfl rfl rfl rfl rfl 0 4 rfl rfl (by omega) hL rfl dL_law_615 dL_law_616 dL_law_618 dL_law_619 dL_law_620 ?_
  refine sl_arg hG (t := t) (j := 2) 622 624 625 626 627 rfl rfl rfl rfl rfl 0 4 rfl rfl (by omega) hL rfl dL_law_621 dL_law_622 dL_law_624 dL_law_625 dL_law_626 ?_
  refine sl_arg hG (t := t) (j := 3) 628 630 631 632 633 rfl rfl rfl rfl rfl 0 4 rfl rfl (by omega) hL rfl dL_law_627 dL_law_628 dL_law_630 dL_law_631 dL_law_632 ?_
  refine sm_aload_n hG 634 rfl dL_law_633 rfl 3 rfl ?_
  refine sl_callW hG (x := .int (nI (c123 kk))) (v' := m3 v2 w (oK kk (x) o)) [.ref (P.2.2.1 (0, 0, 0)), .int (P.2.2.2.2.2.2.2.2 (t + 1)), .int (P.2.2.2.2.2.2.2.2 (t + 2)), .int (P.2.2.2.2.2.2.2.2 (t + 3)), .ref P.2.2.2.2.1] 637 rfl (c_L_excuse hP hfl hF hk hcd) gL_law_L_excuse rfl (by decide) (by decide) (n := 5) rfl (Nat.le_of_ble_eq_true rfl) (cs.1 + rmL_excuse.cells, cs.2 + rmL_excuse.slots) ⟨rfl, rfl⟩ (cq hcs (by decide) (by decide)) rfl dL_law_634 ?_
  refine sm_istore hG 639 rfl dL_law_637 (jlt hN rfl) [(5, .int (nI (c123 kk))), (0, .ref P.2.2.2.2.2.2.1), (1, .ref (P.2.2.1 (0, 0, 0))), (2, .ref (P.2.2.2.1 0)), (3, .ref P.2.2.2.2.1), (4, .int (nI t))] rfl ?_
  refine sm_aload_n hG 640 rfl dL_law_639 rfl 3 rfl ?_
  refine sl_arg hG (t := t) (j := 1) 641 643 644 645 646 rfl rfl rfl rfl rfl 1 5 rfl rfl (by omega) hL rfl dL_law_640 dL_law_641 dL_law_643 dL_law_644 dL_law_645 ?_
  refine sl_arg hG (t := t) (j := 2) 647 649 650 651 652 rfl rfl rfl rfl rfl 1 5 rfl rfl (by omega) hL rfl dL_law_646 dL_law_647 dL_law_649 dL_law_650 dL_law_651 ?_
  refine sl_arg hG (t := t) (j := 3) 653 655 656 657 658 rfl rfl rfl rfl rfl 1 5 rfl rfl (by omega) hL rfl dL_law_652 dL_law_653 dL_law_655 dL_law_656 dL_law_657 ?_
  refine sl_callV hG (x := .int y) (v' := m3 v2 w2 (oK kk (x) o)) (.inr (.inl 0)) [.int (P.2.2.2.2.2.2.2.2 (t + 1)), .int (P.2.2.2.2.2.2.2.2 (t + 2)), .int (P.2.2.2.2.2.2.2.2 (t + 3))] 661 rfl (okm (lM_ok hP) (by decide)) meS_0 (ci := 7) rfl (lift_M hP (c_X7_excuse (lM_ok hP) hF2)) gL_law_X7_excuse rfl (by decide) (by decide) (n := 3) rfl (Nat.le_of_ble_eq_true rfl) (by decide) (cq hcs (by decide) (by decide)) rfl dL_law_658 ?_
  refine sm_istore hG 663 rfl dL_law_661 (jlt hN rfl) [(6, .int y), (5, .int (nI (c123 kk))), (0, .ref P.2.2.2.2.2.2.1), (1, .ref (P.2.2.1 (0, 0, 0))), (2, .ref (P.2.2.2.1 0)), (3, .ref P.2.2.2.2.1), (4, .int (nI t))] rfl ?_
  refine sm_aload_n hG 664 rfl dL_law_663 rfl 4 rfl ?_
  refine sl_callV hG (x := .int (w2 0 12)) (v' := m3 v2 w2 (oK kk (x) o)) (.inr (.inl 0)) [] 667 rfl (okm (lM_ok hP) (by decide)) meS_0 (ci := 7) rfl (lift_M hP (c_X7_thrown (lM_ok hP) rfl)) gL_law_X7_thrown rfl (by decide) (by decide) (n := 0) rfl (Nat.le_of_ble_eq_true rfl) (by decide) (cq hcs (by decide) (by decide)) rfl dL_law_664 ?_
  refine sm_iload hG 669 rfl dL_law_667 1 rfl ?_
  refine sl_ieq hG 674 hth dL_law_669 (by decide) ?_
  refine sm_iload hG 676 rfl dL_law_674 1 rfl ?_
  refine sl_ne hG 691 679 rfl dL_law_676 (by decide) (fun hz => ?_) (fun hz => ?_)
  · skip
    refine sm_goto hG 2743 dL_law_691 (by decide) ?_
    refine sm_loc [2, 3, 4, 5, 6] (lsB P t) rfl ?_
    exact sl_wide (cqe (by decide) (by decide)) (k _ _ _ hI)
  · have hk0 : kk = 0 := hcd.mp (nI_z hz (show kk ≤ 3 from hk))
    have hxy := hxy hk0
    subst hxy
    refine sm_aload_n hG 680 rfl dL_law_679 rfl 5 rfl ?_
    refine sm_iconst (x := (0 : Int32)) hG 681 rfl dL_law_680 rfl ?_
    refine sl_oin hG 682 rfl dL_law_681 ?_
    rw [oK_0 hk0]
    refine sm_iload hG 684 rfl dL_law_682 0 rfl ?_
    refine sl_i2l hG 685 rfl dL_law_684 ?_
    refine sl_lcmp hG 686 rfl dL_law_685 ?_
    refine sl_eq hG 691 689 rfl dL_law_686 (by decide) (fun _ => ?_) (fun hz => absurd rfl hz)
    refine sm_goto hG 2743 dL_law_691 (by decide) ?_
    refine sm_loc [2, 3, 4, 5, 6] (lsB P t) rfl ?_
    exact sl_wide (cqe (by decide) (by decide)) (k _ _ _ hI)
set_option maxRecDepth 100000 in
set_option maxHeartbeats 4000000 in
theorem law_5 {P : pS} (hP : Ap P) {Γ : jG Unit} (hG : jOk Γ (lS P) cL_law RL wsL_law room_1) (hN : Γ.2.1 = 7) (hfl : Γ.1.2.1.stackTraces = false) {cs : Nat × Nat} (hcs : cs.1 + 4 ≤ 601024 ∧ cs.2 + 24 ≤ 7293034) {t : Nat} (ht : t + 7 ≤ P.2.2.2.2.2.2.2.1) (hL : P.2.2.2.2.2.2.2.1 ≤ 3584) {v : mC} {w : mM} {o : Nat → Int32} (h : IV v w) (k : ∀ v' w' o', IV v' w' → Sm Γ (lS P) (cs.1 + 4, cs.2 + 24) 2743 (lsB P t) [] (m3 v' w' o') (some ())) : Sm Γ (lS P) cs 694 (lsB P t) [] (m3 v w o) (some ()) := by
  have hop : Op c23 (f_X6_announce (P.2.2.2.2.2.2.2.2 (t + 1)) (P.2.2.2.2.2.2.2.2 (t + 2)) v) (f_X7_announce (P.2.2.2.2.2.2.2.2 (t + 1)) (P.2.2.2.2.2.2.2.2 (t + 2)) w) := op_announce h _ _
  obtain ⟨x, kk, v2, y, w2, hF, hF2, hk, hth, hcd, hxy, hI⟩ := hop
  refine sm_aload_n hG 695 rfl dL_law_694 rfl 1 rfl ?_
  refine sl_arg hG (t := t) (j := 1) 696 698 699 700 701 rfl rfl rfl rfl rfl 0 4 rfl rfl (by omega) hL rfl dL_law_695 dL_law_696 dL_law_698 dL_law_699 dL_law_700 ?_
  refine sl_arg hG (t := t) (j := 2) 702 704 705 706 707 rfl rfl rfl rfl rfl 0 4 rfl rfl (by omega) hL rfl dL_law_701 dL_law_702 dL_law_704 dL_law_705 dL_law_706 ?_
  refine sm_aload_n hG 708 rfl dL_law_707 rfl 3 rfl ?_
  refine sl_callW hG (x := .int (nI (c23 kk))) (v' := m3 v2 w (oK kk (x) o)) [.ref (P.2.2.1 (0, 0, 0)), .int (P.2.2.2.2.2.2.2.2 (t + 1)), .int (P.2.2.2.2.2.2.2.2 (t + 2)), .ref P.2.2.2.2.1] 711 rfl (c_L_announce hP hfl hF hk hcd) gL_law_L_announce rfl (by decide) (by decide) (n := 4) rfl (Nat.le_of_ble_eq_true rfl) (cs.1 + rmL_announce.cells, cs.2 + rmL_announce.slots) ⟨rfl, rfl⟩ (cq hcs (by decide) (by decide)) rfl dL_law_708 ?_
  refine sm_istore hG 713 rfl dL_law_711 (jlt hN rfl) [(5, .int (nI (c23 kk))), (0, .ref P.2.2.2.2.2.2.1), (1, .ref (P.2.2.1 (0, 0, 0))), (2, .ref (P.2.2.2.1 0)), (3, .ref P.2.2.2.2.1), (4, .int (nI t))] rfl ?_
  refine sm_aload_n hG 714 rfl dL_law_713 rfl 3 rfl ?_
  refine sl_arg hG (t := t) (j := 1) 715 717 718 719 720 rfl rfl rfl rfl rfl 1 5 rfl rfl (by omega) hL rfl dL_law_714 dL_law_715 dL_law_717 dL_law_718 dL_law_719 ?_
  refine sl_arg hG (t := t) (j := 2) 721 723 724 725 726 rfl rfl rfl rfl rfl 1 5 rfl rfl (by omega) hL rfl dL_law_720 dL_law_721 dL_law_723 dL_law_724 dL_law_725 ?_
  refine sl_callV hG (x := .int y) (v' := m3 v2 w2 (oK kk (x) o)) (.inr (.inl 0)) [.int (P.2.2.2.2.2.2.2.2 (t + 1)), .int (P.2.2.2.2.2.2.2.2 (t + 2))] 729 rfl (okm (lM_ok hP) (by decide)) meS_0 (ci := 7) rfl (lift_M hP (c_X7_announce (lM_ok hP) hF2)) gL_law_X7_announce rfl (by decide) (by decide) (n := 2) rfl (Nat.le_of_ble_eq_true rfl) (by decide) (cq hcs (by decide) (by decide)) rfl dL_law_726 ?_
  refine sm_istore hG 731 rfl dL_law_729 (jlt hN rfl) [(6, .int y), (5, .int (nI (c23 kk))), (0, .ref P.2.2.2.2.2.2.1), (1, .ref (P.2.2.1 (0, 0, 0))), (2, .ref (P.2.2.2.1 0)), (3, .ref P.2.2.2.2.1), (4, .int (nI t))] rfl ?_
  refine sm_aload_n hG 732 rfl dL_law_731 rfl 4 rfl ?_
  refine sl_callV hG (x := .int (w2 0 12)) (v' := m3 v2 w2 (oK kk (x) o)) (.inr (.inl 0)) [] 735 rfl (okm (lM_ok hP) (by decide)) meS_0 (ci := 7) rfl (lift_M hP (c_X7_thrown (lM_ok hP) rfl)) gL_law_X7_thrown rfl (by decide) (by decide) (n := 0) rfl (Nat.le_of_ble_eq_true rfl) (by decide) (cq hcs (by decide) (by decide)) rfl dL_law_732 ?_
  refine sm_iload hG 737 rfl dL_law_735 1 rfl ?_
  refine sl_ieq hG 742 hth dL_law_737 (by decide) ?_
  refine sm_iload hG 744 rfl dL_law_742 1 rfl ?_
  refine sl_ne hG 759 747 rfl dL_law_744 (by decide) (fun hz => ?_) (fun hz => ?_)
  · skip
    refine sm_goto hG 2743 dL_law_759 (by decide) ?_
    refine sm_loc [2, 3, 4, 5, 6] (lsB P t) rfl ?_
    exact sl_wide (cqe (by decide) (by decide)) (k _ _ _ hI)
  · have hk0 : kk = 0 := hcd.mp (nI_z hz (by unfold c23; split <;> (try split) <;> omega))
    have hxy := hxy hk0
    subst hxy
    refine sm_aload_n hG 748 rfl dL_law_747 rfl 5 rfl ?_
    refine sm_iconst (x := (0 : Int32)) hG 749 rfl dL_law_748 rfl ?_
    refine sl_oin hG 750 rfl dL_law_749 ?_
    rw [oK_0 hk0]
    refine sm_iload hG 752 rfl dL_law_750 0 rfl ?_
    refine sl_i2l hG 753 rfl dL_law_752 ?_
    refine sl_lcmp hG 754 rfl dL_law_753 ?_
    refine sl_eq hG 759 757 rfl dL_law_754 (by decide) (fun _ => ?_) (fun hz => absurd rfl hz)
    refine sm_goto hG 2743 dL_law_759 (by decide) ?_
    refine sm_loc [2, 3, 4, 5, 6] (lsB P t) rfl ?_
    exact sl_wide (cqe (by decide) (by decide)) (k _ _ _ hI)
set_option maxRecDepth 100000 in
set_option maxHeartbeats 4000000 in
theorem law_6 {P : pS} (hP : Ap P) {Γ : jG Unit} (hG : jOk Γ (lS P) cL_law RL wsL_law room_1) (hN : Γ.2.1 = 7) (hfl : Γ.1.2.1.stackTraces = false) {cs : Nat × Nat} (hcs : cs.1 + 4 ≤ 601024 ∧ cs.2 + 24 ≤ 7293034) {t : Nat} (ht : t + 7 ≤ P.2.2.2.2.2.2.2.1) (hL : P.2.2.2.2.2.2.2.1 ≤ 3584) {v : mC} {w : mM} {o : Nat → Int32} (h : IV v w) (k : ∀ v' w' o', IV v' w' → Sm Γ (lS P) (cs.1 + 4, cs.2 + 24) 2743 (lsB P t) [] (m3 v' w' o') (some ())) : Sm Γ (lS P) cs 762 (lsB P t) [] (m3 v w o) (some ()) := by
  have hop : Op c123 (f_X6_setLine (P.2.2.2.2.2.2.2.2 (t + 1)) (P.2.2.2.2.2.2.2.2 (t + 2)) (P.2.2.2.2.2.2.2.2 (t + 3)) (P.2.2.2.2.2.2.2.2 (t + 4)) (P.2.2.2.2.2.2.2.2 (t + 5)) v) (f_X7_setLine (P.2.2.2.2.2.2.2.2 (t + 1)) (P.2.2.2.2.2.2.2.2 (t + 2)) (P.2.2.2.2.2.2.2.2 (t + 3)) (P.2.2.2.2.2.2.2.2 (t + 4)) (P.2.2.2.2.2.2.2.2 (t + 5)) w) := op_setLine h _ _ _ _ _
  obtain ⟨x, kk, v2, y, w2, hF, hF2, hk, hth, hcd, hxy, hI⟩ := hop
  refine sm_aload_n hG 763 rfl dL_law_762 rfl 1 rfl ?_
  refine sl_arg hG (t := t) (j := 1) 764 766 767 768 769 rfl rfl rfl rfl rfl 0 4 rfl rfl (by omega) hL rfl dL_law_763 dL_law_764 dL_law_766 dL_law_767 dL_law_768 ?_
  refine sl_arg hG (t := t) (j := 2) 770 772 773 774 775 rfl rfl rfl rfl rfl 0 4 rfl rfl (by omega) hL rfl dL_law_769 dL_law_770 dL_law_772 dL_law_773 dL_law_774 ?_
  refine sl_arg hG (t := t) (j := 3) 776 778 779 780 781 rfl rfl rfl rfl rfl 0 4 rfl rfl (by omega) hL rfl dL_law_775 dL_law_776 dL_law_778 dL_law_779 dL_law_780 ?_
  refine sl_arg hG (t := t) (j := 4) 782 784 785 786 787 rfl rfl rfl rfl rfl 0 4 rfl rfl (by omega) hL rfl dL_law_781 dL_law_782 dL_law_784 dL_law_785 dL_law_786 ?_
  refine sl_arg hG (t := t) (j := 5) 788 790 791 792 793 rfl rfl rfl rfl rfl 0 4 rfl rfl (by omega) hL rfl dL_law_787 dL_law_788 dL_law_790 dL_law_791 dL_law_792 ?_
  refine sm_aload_n hG 794 rfl dL_law_793 rfl 3 rfl ?_
  refine sl_callW hG (x := .int (nI (c123 kk))) (v' := m3 v2 w (oK kk (x) o)) [.ref (P.2.2.1 (0, 0, 0)), .int (P.2.2.2.2.2.2.2.2 (t + 1)), .int (P.2.2.2.2.2.2.2.2 (t + 2)), .int (P.2.2.2.2.2.2.2.2 (t + 3)), .int (P.2.2.2.2.2.2.2.2 (t + 4)), .int (P.2.2.2.2.2.2.2.2 (t + 5)), .ref P.2.2.2.2.1] 797 rfl (c_L_setLine hP hfl hF hk hcd) gL_law_L_setLine rfl (by decide) (by decide) (n := 7) rfl (Nat.le_of_ble_eq_true rfl) (cs.1 + rmL_setLine.cells, cs.2 + rmL_setLine.slots) ⟨rfl, rfl⟩ (cq hcs (by decide) (by decide)) rfl dL_law_794 ?_
  refine sm_istore hG 799 rfl dL_law_797 (jlt hN rfl) [(5, .int (nI (c123 kk))), (0, .ref P.2.2.2.2.2.2.1), (1, .ref (P.2.2.1 (0, 0, 0))), (2, .ref (P.2.2.2.1 0)), (3, .ref P.2.2.2.2.1), (4, .int (nI t))] rfl ?_
  refine sm_aload_n hG 800 rfl dL_law_799 rfl 3 rfl ?_
  refine sl_arg hG (t := t) (j := 1) 801 803 804 805 806 rfl rfl rfl rfl rfl 1 5 rfl rfl (by omega) hL rfl dL_law_800 dL_law_801 dL_law_803 dL_law_804 dL_law_805 ?_
  refine sl_arg hG (t := t) (j := 2) 807 809 810 811 812 rfl rfl rfl rfl rfl 1 5 rfl rfl (by omega) hL rfl dL_law_806 dL_law_807 dL_law_809 dL_law_810 dL_law_811 ?_
  refine sl_arg hG (t := t) (j := 3) 813 815 816 817 818 rfl rfl rfl rfl rfl 1 5 rfl rfl (by omega) hL rfl dL_law_812 dL_law_813 dL_law_815 dL_law_816 dL_law_817 ?_
  refine sl_arg hG (t := t) (j := 4) 819 821 822 823 824 rfl rfl rfl rfl rfl 1 5 rfl rfl (by omega) hL rfl dL_law_818 dL_law_819 dL_law_821 dL_law_822 dL_law_823 ?_
  refine sl_arg hG (t := t) (j := 5) 825 827 828 829 830 rfl rfl rfl rfl rfl 1 5 rfl rfl (by omega) hL rfl dL_law_824 dL_law_825 dL_law_827 dL_law_828 dL_law_829 ?_
  refine sl_callV hG (x := .int y) (v' := m3 v2 w2 (oK kk (x) o)) (.inr (.inl 0)) [.int (P.2.2.2.2.2.2.2.2 (t + 1)), .int (P.2.2.2.2.2.2.2.2 (t + 2)), .int (P.2.2.2.2.2.2.2.2 (t + 3)), .int (P.2.2.2.2.2.2.2.2 (t + 4)), .int (P.2.2.2.2.2.2.2.2 (t + 5))] 833 rfl (okm (lM_ok hP) (by decide)) meS_0 (ci := 7) rfl (lift_M hP (c_X7_setLine (lM_ok hP) hF2)) gL_law_X7_setLine rfl (by decide) (by decide) (n := 5) rfl (Nat.le_of_ble_eq_true rfl) (by decide) (cq hcs (by decide) (by decide)) rfl dL_law_830 ?_
  refine sm_istore hG 835 rfl dL_law_833 (jlt hN rfl) [(6, .int y), (5, .int (nI (c123 kk))), (0, .ref P.2.2.2.2.2.2.1), (1, .ref (P.2.2.1 (0, 0, 0))), (2, .ref (P.2.2.2.1 0)), (3, .ref P.2.2.2.2.1), (4, .int (nI t))] rfl ?_
  refine sm_aload_n hG 836 rfl dL_law_835 rfl 4 rfl ?_
  refine sl_callV hG (x := .int (w2 0 12)) (v' := m3 v2 w2 (oK kk (x) o)) (.inr (.inl 0)) [] 839 rfl (okm (lM_ok hP) (by decide)) meS_0 (ci := 7) rfl (lift_M hP (c_X7_thrown (lM_ok hP) rfl)) gL_law_X7_thrown rfl (by decide) (by decide) (n := 0) rfl (Nat.le_of_ble_eq_true rfl) (by decide) (cq hcs (by decide) (by decide)) rfl dL_law_836 ?_
  refine sm_iload hG 841 rfl dL_law_839 1 rfl ?_
  refine sl_ieq hG 846 hth dL_law_841 (by decide) ?_
  refine sm_iload hG 848 rfl dL_law_846 1 rfl ?_
  refine sl_ne hG 863 851 rfl dL_law_848 (by decide) (fun hz => ?_) (fun hz => ?_)
  · skip
    refine sm_goto hG 2743 dL_law_863 (by decide) ?_
    refine sm_loc [2, 3, 4, 5, 6] (lsB P t) rfl ?_
    exact sl_wide (cqe (by decide) (by decide)) (k _ _ _ hI)
  · have hk0 : kk = 0 := hcd.mp (nI_z hz (show kk ≤ 3 from hk))
    have hxy := hxy hk0
    subst hxy
    refine sm_aload_n hG 852 rfl dL_law_851 rfl 5 rfl ?_
    refine sm_iconst (x := (0 : Int32)) hG 853 rfl dL_law_852 rfl ?_
    refine sl_oin hG 854 rfl dL_law_853 ?_
    rw [oK_0 hk0]
    refine sm_iload hG 856 rfl dL_law_854 0 rfl ?_
    refine sl_i2l hG 857 rfl dL_law_856 ?_
    refine sl_lcmp hG 858 rfl dL_law_857 ?_
    refine sl_eq hG 863 861 rfl dL_law_858 (by decide) (fun _ => ?_) (fun hz => absurd rfl hz)
    refine sm_goto hG 2743 dL_law_863 (by decide) ?_
    refine sm_loc [2, 3, 4, 5, 6] (lsB P t) rfl ?_
    exact sl_wide (cqe (by decide) (by decide)) (k _ _ _ hI)
set_option maxRecDepth 100000 in
set_option maxHeartbeats 4000000 in
theorem law_7 {P : pS} (hP : Ap P) {Γ : jG Unit} (hG : jOk Γ (lS P) cL_law RL wsL_law room_1) (hN : Γ.2.1 = 7) (hfl : Γ.1.2.1.stackTraces = false) {cs : Nat × Nat} (hcs : cs.1 + 4 ≤ 601024 ∧ cs.2 + 24 ≤ 7293034) {t : Nat} (ht : t + 7 ≤ P.2.2.2.2.2.2.2.1) (hL : P.2.2.2.2.2.2.2.1 ≤ 3584) {v : mC} {w : mM} {o : Nat → Int32} (h : IV v w) (k : ∀ v' w' o', IV v' w' → Sm Γ (lS P) (cs.1 + 4, cs.2 + 24) 2743 (lsB P t) [] (m3 v' w' o') (some ())) : Sm Γ (lS P) cs 866 (lsB P t) [] (m3 v w o) (some ()) := by
  have hop : Op c23 (f_X6_passDays (P.2.2.2.2.2.2.2.2 (t + 1)) v) (f_X7_passDays (P.2.2.2.2.2.2.2.2 (t + 1)) w) := op_passDays h _
  obtain ⟨x, kk, v2, y, w2, hF, hF2, hk, hth, hcd, hxy, hI⟩ := hop
  refine sm_aload_n hG 867 rfl dL_law_866 rfl 1 rfl ?_
  refine sl_arg hG (t := t) (j := 1) 868 870 871 872 873 rfl rfl rfl rfl rfl 0 4 rfl rfl (by omega) hL rfl dL_law_867 dL_law_868 dL_law_870 dL_law_871 dL_law_872 ?_
  refine sm_aload_n hG 874 rfl dL_law_873 rfl 3 rfl ?_
  refine sl_callW hG (x := .int (nI (c23 kk))) (v' := m3 v2 w (oK kk (x) o)) [.ref (P.2.2.1 (0, 0, 0)), .int (P.2.2.2.2.2.2.2.2 (t + 1)), .ref P.2.2.2.2.1] 877 rfl (c_L_passDays hP hfl hF hk hcd) gL_law_L_passDays rfl (by decide) (by decide) (n := 3) rfl (Nat.le_of_ble_eq_true rfl) (cs.1 + rmL_passDays.cells, cs.2 + rmL_passDays.slots) ⟨rfl, rfl⟩ (cq hcs (by decide) (by decide)) rfl dL_law_874 ?_
  refine sm_istore hG 879 rfl dL_law_877 (jlt hN rfl) [(5, .int (nI (c23 kk))), (0, .ref P.2.2.2.2.2.2.1), (1, .ref (P.2.2.1 (0, 0, 0))), (2, .ref (P.2.2.2.1 0)), (3, .ref P.2.2.2.2.1), (4, .int (nI t))] rfl ?_
  refine sm_aload_n hG 880 rfl dL_law_879 rfl 3 rfl ?_
  refine sl_arg hG (t := t) (j := 1) 881 883 884 885 886 rfl rfl rfl rfl rfl 1 5 rfl rfl (by omega) hL rfl dL_law_880 dL_law_881 dL_law_883 dL_law_884 dL_law_885 ?_
  refine sl_callV hG (x := .int y) (v' := m3 v2 w2 (oK kk (x) o)) (.inr (.inl 0)) [.int (P.2.2.2.2.2.2.2.2 (t + 1))] 889 rfl (okm (lM_ok hP) (by decide)) meS_0 (ci := 7) rfl (lift_M hP (c_X7_passDays (lM_ok hP) hF2)) gL_law_X7_passDays rfl (by decide) (by decide) (n := 1) rfl (Nat.le_of_ble_eq_true rfl) (by decide) (cq hcs (by decide) (by decide)) rfl dL_law_886 ?_
  refine sm_istore hG 891 rfl dL_law_889 (jlt hN rfl) [(6, .int y), (5, .int (nI (c23 kk))), (0, .ref P.2.2.2.2.2.2.1), (1, .ref (P.2.2.1 (0, 0, 0))), (2, .ref (P.2.2.2.1 0)), (3, .ref P.2.2.2.2.1), (4, .int (nI t))] rfl ?_
  refine sm_aload_n hG 892 rfl dL_law_891 rfl 4 rfl ?_
  refine sl_callV hG (x := .int (w2 0 12)) (v' := m3 v2 w2 (oK kk (x) o)) (.inr (.inl 0)) [] 895 rfl (okm (lM_ok hP) (by decide)) meS_0 (ci := 7) rfl (lift_M hP (c_X7_thrown (lM_ok hP) rfl)) gL_law_X7_thrown rfl (by decide) (by decide) (n := 0) rfl (Nat.le_of_ble_eq_true rfl) (by decide) (cq hcs (by decide) (by decide)) rfl dL_law_892 ?_
  refine sm_iload hG 897 rfl dL_law_895 1 rfl ?_
  refine sl_ieq hG 902 hth dL_law_897 (by decide) ?_
  refine sm_iload hG 904 rfl dL_law_902 1 rfl ?_
  refine sl_ne hG 919 907 rfl dL_law_904 (by decide) (fun hz => ?_) (fun hz => ?_)
  · skip
    refine sm_goto hG 2743 dL_law_919 (by decide) ?_
    refine sm_loc [2, 3, 4, 5, 6] (lsB P t) rfl ?_
    exact sl_wide (cqe (by decide) (by decide)) (k _ _ _ hI)
  · have hk0 : kk = 0 := hcd.mp (nI_z hz (by unfold c23; split <;> (try split) <;> omega))
    have hxy := hxy hk0
    subst hxy
    refine sm_aload_n hG 908 rfl dL_law_907 rfl 5 rfl ?_
    refine sm_iconst (x := (0 : Int32)) hG 909 rfl dL_law_908 rfl ?_
    refine sl_oin hG 910 rfl dL_law_909 ?_
    rw [oK_0 hk0]
    refine sm_iload hG 912 rfl dL_law_910 0 rfl ?_
    refine sl_i2l hG 913 rfl dL_law_912 ?_
    refine sl_lcmp hG 914 rfl dL_law_913 ?_
    refine sl_eq hG 919 917 rfl dL_law_914 (by decide) (fun _ => ?_) (fun hz => absurd rfl hz)
    refine sm_goto hG 2743 dL_law_919 (by decide) ?_
    refine sm_loc [2, 3, 4, 5, 6] (lsB P t) rfl ?_
    exact sl_wide (cqe (by decide) (by decide)) (k _ _ _ hI)
set_option maxRecDepth 100000 in
set_option maxHeartbeats 4000000 in
theorem law_8 {P : pS} (hP : Ap P) {Γ : jG Unit} (hG : jOk Γ (lS P) cL_law RL wsL_law room_1) (hN : Γ.2.1 = 7) (hfl : Γ.1.2.1.stackTraces = false) {cs : Nat × Nat} (hcs : cs.1 + 4 ≤ 601024 ∧ cs.2 + 24 ≤ 7293034) {t : Nat} (ht : t + 7 ≤ P.2.2.2.2.2.2.2.1) (hL : P.2.2.2.2.2.2.2.1 ≤ 3584) {v : mC} {w : mM} {o : Nat → Int32} (h : IV v w) (k : ∀ v' w' o', IV v' w' → Sm Γ (lS P) (cs.1 + 4, cs.2 + 24) 2743 (lsB P t) [] (m3 v' w' o') (some ())) : Sm Γ (lS P) cs 922 (lsB P t) [] (m3 v w o) (some ()) := by
  have hop : Op c3 (f_X6_type (vp_nar .char (P.2.2.2.2.2.2.2.2 (t + 1))) v) (f_X7_type (vp_nar .char (P.2.2.2.2.2.2.2.2 (t + 1))) w) := op_type h _ (nr_nr _) (nr_c _)
  obtain ⟨x, kk, v2, y, w2, hF, hF2, hk, hth, hcd, hxy, hI⟩ := hop
  refine sm_aload_n hG 923 rfl dL_law_922 rfl 1 rfl ?_
  refine sl_arg hG (t := t) (j := 1) 924 926 927 928 929 rfl rfl rfl rfl rfl 0 4 rfl rfl (by omega) hL rfl dL_law_923 dL_law_924 dL_law_926 dL_law_927 dL_law_928 ?_
  refine sl_i2c hG 930 rfl dL_law_929 ?_
  refine sm_aload_n hG 931 rfl dL_law_930 rfl 3 rfl ?_
  refine sl_callW hG (x := .int (nI (c3 kk))) (v' := m3 v2 w (oK kk (x) o)) [.ref (P.2.2.1 (0, 0, 0)), .int (vp_nar .char (P.2.2.2.2.2.2.2.2 (t + 1))), .ref P.2.2.2.2.1] 934 rfl (c_L_type hP hfl hF hk hcd) gL_law_L_type rfl (by decide) (by decide) (n := 3) rfl (Nat.le_of_ble_eq_true rfl) (cs.1 + rmL_type.cells, cs.2 + rmL_type.slots) ⟨rfl, rfl⟩ (cq hcs (by decide) (by decide)) rfl dL_law_931 ?_
  refine sm_istore hG 936 rfl dL_law_934 (jlt hN rfl) [(5, .int (nI (c3 kk))), (0, .ref P.2.2.2.2.2.2.1), (1, .ref (P.2.2.1 (0, 0, 0))), (2, .ref (P.2.2.2.1 0)), (3, .ref P.2.2.2.2.1), (4, .int (nI t))] rfl ?_
  refine sm_aload_n hG 937 rfl dL_law_936 rfl 3 rfl ?_
  refine sl_arg hG (t := t) (j := 1) 938 940 941 942 943 rfl rfl rfl rfl rfl 1 5 rfl rfl (by omega) hL rfl dL_law_937 dL_law_938 dL_law_940 dL_law_941 dL_law_942 ?_
  refine sl_i2c hG 944 rfl dL_law_943 ?_
  refine sl_callV hG (x := .int y) (v' := m3 v2 w2 (oK kk (x) o)) (.inr (.inl 0)) [.int (vp_nar .char (P.2.2.2.2.2.2.2.2 (t + 1)))] 947 rfl (okm (lM_ok hP) (by decide)) meS_0 (ci := 7) rfl (lift_M hP (c_X7_type (lM_ok hP) hF2)) gL_law_X7_type rfl (by decide) (by decide) (n := 1) rfl (Nat.le_of_ble_eq_true rfl) (by decide) (cq hcs (by decide) (by decide)) rfl dL_law_944 ?_
  refine sm_istore hG 949 rfl dL_law_947 (jlt hN rfl) [(6, .int y), (5, .int (nI (c3 kk))), (0, .ref P.2.2.2.2.2.2.1), (1, .ref (P.2.2.1 (0, 0, 0))), (2, .ref (P.2.2.2.1 0)), (3, .ref P.2.2.2.2.1), (4, .int (nI t))] rfl ?_
  refine sm_aload_n hG 950 rfl dL_law_949 rfl 4 rfl ?_
  refine sl_callV hG (x := .int (w2 0 12)) (v' := m3 v2 w2 (oK kk (x) o)) (.inr (.inl 0)) [] 953 rfl (okm (lM_ok hP) (by decide)) meS_0 (ci := 7) rfl (lift_M hP (c_X7_thrown (lM_ok hP) rfl)) gL_law_X7_thrown rfl (by decide) (by decide) (n := 0) rfl (Nat.le_of_ble_eq_true rfl) (by decide) (cq hcs (by decide) (by decide)) rfl dL_law_950 ?_
  refine sm_iload hG 955 rfl dL_law_953 1 rfl ?_
  refine sl_ieq hG 960 hth dL_law_955 (by decide) ?_
  refine sm_iload hG 962 rfl dL_law_960 1 rfl ?_
  refine sl_ne hG 977 965 rfl dL_law_962 (by decide) (fun hz => ?_) (fun hz => ?_)
  · skip
    refine sm_goto hG 2743 dL_law_977 (by decide) ?_
    refine sm_loc [2, 3, 4, 5, 6] (lsB P t) rfl ?_
    exact sl_wide (cqe (by decide) (by decide)) (k _ _ _ hI)
  · have hk0 : kk = 0 := hcd.mp (nI_z hz (by unfold c3; split <;> (try split) <;> omega))
    have hxy := hxy hk0
    subst hxy
    refine sm_aload_n hG 966 rfl dL_law_965 rfl 5 rfl ?_
    refine sm_iconst (x := (0 : Int32)) hG 967 rfl dL_law_966 rfl ?_
    refine sl_oin hG 968 rfl dL_law_967 ?_
    rw [oK_0 hk0]
    refine sm_iload hG 970 rfl dL_law_968 0 rfl ?_
    refine sl_i2l hG 971 rfl dL_law_970 ?_
    refine sl_lcmp hG 972 rfl dL_law_971 ?_
    refine sl_eq hG 977 975 rfl dL_law_972 (by decide) (fun _ => ?_) (fun hz => absurd rfl hz)
    refine sm_goto hG 2743 dL_law_977 (by decide) ?_
    refine sm_loc [2, 3, 4, 5, 6] (lsB P t) rfl ?_
    exact sl_wide (cqe (by decide) (by decide)) (k _ _ _ hI)
set_option maxRecDepth 100000 in
set_option maxHeartbeats 4000000 in
theorem law_9 {P : pS} (hP : Ap P) {Γ : jG Unit} (hG : jOk Γ (lS P) cL_law RL wsL_law room_1) (hN : Γ.2.1 = 7) (hfl : Γ.1.2.1.stackTraces = false) {cs : Nat × Nat} (hcs : cs.1 + 4 ≤ 601024 ∧ cs.2 + 24 ≤ 7293034) {t : Nat} (ht : t + 7 ≤ P.2.2.2.2.2.2.2.1) (hL : P.2.2.2.2.2.2.2.1 ≤ 3584) {v : mC} {w : mM} {o : Nat → Int32} (h : IV v w) (k : ∀ v' w' o', IV v' w' → Sm Γ (lS P) (cs.1 + 4, cs.2 + 24) 2743 (lsB P t) [] (m3 v' w' o') (some ())) : Sm Γ (lS P) cs 980 (lsB P t) [] (m3 v w o) (some ()) := by
  obtain ⟨x, v2, w2, hF, hF2, hI⟩ := op_clearLetter h
  refine sm_aload_n hG 981 rfl dL_law_980 rfl 1 rfl ?_
  refine sl_callV hG (x := .int x) (v' := m3 v2 w o) (.inl (0, 0, 0)) [] 984 rfl (ok0 (lC_ok hP)) ceS_0 (ci := 6) rfl (lift_C hP (c_X6_clearLetter (lC_ok hP) hF)) gL_law_X6_clearLetter rfl (by decide) (by decide) (n := 0) rfl (Nat.le_of_ble_eq_true rfl) (by decide) (cq0 hcs) rfl dL_law_981 ?_
  refine sm_aload_n hG 985 rfl dL_law_984 rfl 2 rfl ?_
  refine sl_callV hG (x := .int x) (v' := m3 v2 w2 o) (.inr (.inl 0)) [] 988 rfl (okm (lM_ok hP) (by decide)) meS_0 (ci := 7) rfl (lift_M hP (c_X7_clearLetter (lM_ok hP) hF2)) gL_law_X7_clearLetter rfl (by decide) (by decide) (n := 0) rfl (Nat.le_of_ble_eq_true rfl) (by decide) (cq0 hcs) rfl dL_law_985 ?_
  refine sl_ieq hG 2743 rfl dL_law_988 (by decide) ?_
  exact sl_wide ⟨Nat.le_add_right _ _, Nat.le_add_right _ _⟩ (k _ _ _ hI)
set_option maxRecDepth 100000 in
set_option maxHeartbeats 4000000 in
theorem law_10 {P : pS} (hP : Ap P) {Γ : jG Unit} (hG : jOk Γ (lS P) cL_law RL wsL_law room_1) (hN : Γ.2.1 = 7) (hfl : Γ.1.2.1.stackTraces = false) {cs : Nat × Nat} (hcs : cs.1 + 4 ≤ 601024 ∧ cs.2 + 24 ≤ 7293034) {t : Nat} (ht : t + 7 ≤ P.2.2.2.2.2.2.2.1) (hL : P.2.2.2.2.2.2.2.1 ≤ 3584) {v : mC} {w : mM} {o : Nat → Int32} (h : IV v w) (k : ∀ v' w' o', IV v' w' → Sm Γ (lS P) (cs.1 + 4, cs.2 + 24) 2743 (lsB P t) [] (m3 v' w' o') (some ())) : Sm Γ (lS P) cs 993 (lsB P t) [] (m3 v w o) (some ()) := by
  obtain ⟨x, v2, w2, hF, hF2, hI⟩ := op_letterError h
  refine sm_aload_n hG 994 rfl dL_law_993 rfl 1 rfl ?_
  refine sl_callV hG (x := .int x) (v' := m3 v2 w o) (.inl (0, 0, 0)) [] 997 rfl (ok0 (lC_ok hP)) ceS_0 (ci := 6) rfl (lift_C hP (c_X6_letterError (lC_ok hP) hF)) gL_law_X6_letterError rfl (by decide) (by decide) (n := 0) rfl (Nat.le_of_ble_eq_true rfl) (by decide) (cq0 hcs) rfl dL_law_994 ?_
  refine sm_aload_n hG 998 rfl dL_law_997 rfl 2 rfl ?_
  refine sl_callV hG (x := .int x) (v' := m3 v2 w2 o) (.inr (.inl 0)) [] 1001 rfl (okm (lM_ok hP) (by decide)) meS_0 (ci := 7) rfl (lift_M hP (c_X7_letterError (lM_ok hP) hF2)) gL_law_X7_letterError rfl (by decide) (by decide) (n := 0) rfl (Nat.le_of_ble_eq_true rfl) (by decide) (cq0 hcs) rfl dL_law_998 ?_
  refine sl_ieq hG 2743 rfl dL_law_1001 (by decide) ?_
  exact sl_wide ⟨Nat.le_add_right _ _, Nat.le_add_right _ _⟩ (k _ _ _ hI)
set_option maxRecDepth 100000 in
set_option maxHeartbeats 4000000 in
theorem law_11 {P : pS} (hP : Ap P) {Γ : jG Unit} (hG : jOk Γ (lS P) cL_law RL wsL_law room_1) (hN : Γ.2.1 = 7) (hfl : Γ.1.2.1.stackTraces = false) {cs : Nat × Nat} (hcs : cs.1 + 4 ≤ 601024 ∧ cs.2 + 24 ≤ 7293034) {t : Nat} (ht : t + 7 ≤ P.2.2.2.2.2.2.2.1) (hL : P.2.2.2.2.2.2.2.1 ≤ 3584) {v : mC} {w : mM} {o : Nat → Int32} (h : IV v w) (k : ∀ v' w' o', IV v' w' → Sm Γ (lS P) (cs.1 + 4, cs.2 + 24) 2743 (lsB P t) [] (m3 v' w' o') (some ())) : Sm Γ (lS P) cs 1006 (lsB P t) [] (m3 v w o) (some ()) := by
  have hop : Op c3 (f_X6_impossibleOrder  v) (f_X7_impossibleOrder  w) := op_impossibleOrder h
  obtain ⟨x, kk, v2, y, w2, hF, hF2, hk, hth, hcd, hxy, hI⟩ := hop
  refine sm_aload_n hG 1007 rfl dL_law_1006 rfl 1 rfl ?_
  refine sm_aload_n hG 1008 rfl dL_law_1007 rfl 3 rfl ?_
  refine sl_callW hG (x := .int (nI (c3 kk))) (v' := m3 v2 w (oK kk (x) o)) [.ref (P.2.2.1 (0, 0, 0)), .ref P.2.2.2.2.1] 1011 rfl (c_L_impossibleOrder hP hfl hF hk hcd) gL_law_L_impossibleOrder rfl (by decide) (by decide) (n := 2) rfl (Nat.le_of_ble_eq_true rfl) (cs.1 + rmL_impossibleOrder.cells, cs.2 + rmL_impossibleOrder.slots) ⟨rfl, rfl⟩ (cq hcs (by decide) (by decide)) rfl dL_law_1008 ?_
  refine sm_istore hG 1013 rfl dL_law_1011 (jlt hN rfl) [(5, .int (nI (c3 kk))), (0, .ref P.2.2.2.2.2.2.1), (1, .ref (P.2.2.1 (0, 0, 0))), (2, .ref (P.2.2.2.1 0)), (3, .ref P.2.2.2.2.1), (4, .int (nI t))] rfl ?_
  refine sm_aload_n hG 1014 rfl dL_law_1013 rfl 3 rfl ?_
  refine sl_callV hG (x := .int y) (v' := m3 v2 w2 (oK kk (x) o)) (.inr (.inl 0)) [] 1017 rfl (okm (lM_ok hP) (by decide)) meS_0 (ci := 7) rfl (lift_M hP (c_X7_impossibleOrder (lM_ok hP) hF2)) gL_law_X7_impossibleOrder rfl (by decide) (by decide) (n := 0) rfl (Nat.le_of_ble_eq_true rfl) (by decide) (cq hcs (by decide) (by decide)) rfl dL_law_1014 ?_
  refine sm_istore hG 1019 rfl dL_law_1017 (jlt hN rfl) [(6, .int y), (5, .int (nI (c3 kk))), (0, .ref P.2.2.2.2.2.2.1), (1, .ref (P.2.2.1 (0, 0, 0))), (2, .ref (P.2.2.2.1 0)), (3, .ref P.2.2.2.2.1), (4, .int (nI t))] rfl ?_
  refine sm_aload_n hG 1020 rfl dL_law_1019 rfl 4 rfl ?_
  refine sl_callV hG (x := .int (w2 0 12)) (v' := m3 v2 w2 (oK kk (x) o)) (.inr (.inl 0)) [] 1023 rfl (okm (lM_ok hP) (by decide)) meS_0 (ci := 7) rfl (lift_M hP (c_X7_thrown (lM_ok hP) rfl)) gL_law_X7_thrown rfl (by decide) (by decide) (n := 0) rfl (Nat.le_of_ble_eq_true rfl) (by decide) (cq hcs (by decide) (by decide)) rfl dL_law_1020 ?_
  refine sm_iload hG 1025 rfl dL_law_1023 1 rfl ?_
  refine sl_ieq hG 1030 hth dL_law_1025 (by decide) ?_
  refine sm_iload hG 1032 rfl dL_law_1030 1 rfl ?_
  refine sl_ne hG 1047 1035 rfl dL_law_1032 (by decide) (fun hz => ?_) (fun hz => ?_)
  · skip
    refine sm_goto hG 2743 dL_law_1047 (by decide) ?_
    refine sm_loc [2, 3, 4, 5, 6] (lsB P t) rfl ?_
    exact sl_wide (cqe (by decide) (by decide)) (k _ _ _ hI)
  · have hk0 : kk = 0 := hcd.mp (nI_z hz (by unfold c3; split <;> (try split) <;> omega))
    have hxy := hxy hk0
    subst hxy
    refine sm_aload_n hG 1036 rfl dL_law_1035 rfl 5 rfl ?_
    refine sm_iconst (x := (0 : Int32)) hG 1037 rfl dL_law_1036 rfl ?_
    refine sl_oin hG 1038 rfl dL_law_1037 ?_
    rw [oK_0 hk0]
    refine sm_iload hG 1040 rfl dL_law_1038 0 rfl ?_
    refine sl_i2l hG 1041 rfl dL_law_1040 ?_
    refine sl_lcmp hG 1042 rfl dL_law_1041 ?_
    refine sl_eq hG 1047 1045 rfl dL_law_1042 (by decide) (fun _ => ?_) (fun hz => absurd rfl hz)
    refine sm_goto hG 2743 dL_law_1047 (by decide) ?_
    refine sm_loc [2, 3, 4, 5, 6] (lsB P t) rfl ?_
    exact sl_wide (cqe (by decide) (by decide)) (k _ _ _ hI)
set_option maxRecDepth 100000 in
set_option maxHeartbeats 4000000 in
theorem law_12 {P : pS} (hP : Ap P) {Γ : jG Unit} (hG : jOk Γ (lS P) cL_law RL wsL_law room_1) (hN : Γ.2.1 = 7) (hfl : Γ.1.2.1.stackTraces = false) {cs : Nat × Nat} (hcs : cs.1 + 4 ≤ 601024 ∧ cs.2 + 24 ≤ 7293034) {t : Nat} (ht : t + 7 ≤ P.2.2.2.2.2.2.2.1) (hL : P.2.2.2.2.2.2.2.1 ≤ 3584) {v : mC} {w : mM} {o : Nat → Int32} (h : IV v w) (k : ∀ v' w' o', IV v' w' → Sm Γ (lS P) (cs.1 + 4, cs.2 + 24) 2743 (lsB P t) [] (m3 v' w' o') (some ())) : Sm Γ (lS P) cs 1050 (lsB P t) [] (m3 v w o) (some ()) := by
  have hop : Op c3 (f_X6_carryOut  v) (f_X7_carryOut  w) := op_carryOut h
  obtain ⟨x, kk, v2, y, w2, hF, hF2, hk, hth, hcd, hxy, hI⟩ := hop
  refine sm_aload_n hG 1051 rfl dL_law_1050 rfl 1 rfl ?_
  refine sm_aload_n hG 1052 rfl dL_law_1051 rfl 3 rfl ?_
  refine sl_callW hG (x := .int (nI (c3 kk))) (v' := m3 v2 w (oK kk (x) o)) [.ref (P.2.2.1 (0, 0, 0)), .ref P.2.2.2.2.1] 1055 rfl (c_L_carryOut hP hfl hF hk hcd) gL_law_L_carryOut rfl (by decide) (by decide) (n := 2) rfl (Nat.le_of_ble_eq_true rfl) (cs.1 + rmL_carryOut.cells, cs.2 + rmL_carryOut.slots) ⟨rfl, rfl⟩ (cq hcs (by decide) (by decide)) rfl dL_law_1052 ?_
  refine sm_istore hG 1057 rfl dL_law_1055 (jlt hN rfl) [(5, .int (nI (c3 kk))), (0, .ref P.2.2.2.2.2.2.1), (1, .ref (P.2.2.1 (0, 0, 0))), (2, .ref (P.2.2.2.1 0)), (3, .ref P.2.2.2.2.1), (4, .int (nI t))] rfl ?_
  refine sm_aload_n hG 1058 rfl dL_law_1057 rfl 3 rfl ?_
  refine sl_callV hG (x := .int y) (v' := m3 v2 w2 (oK kk (x) o)) (.inr (.inl 0)) [] 1061 rfl (okm (lM_ok hP) (by decide)) meS_0 (ci := 7) rfl (lift_M hP (c_X7_carryOut (lM_ok hP) hF2)) gL_law_X7_carryOut rfl (by decide) (by decide) (n := 0) rfl (Nat.le_of_ble_eq_true rfl) (by decide) (cq hcs (by decide) (by decide)) rfl dL_law_1058 ?_
  refine sm_istore hG 1063 rfl dL_law_1061 (jlt hN rfl) [(6, .int y), (5, .int (nI (c3 kk))), (0, .ref P.2.2.2.2.2.2.1), (1, .ref (P.2.2.1 (0, 0, 0))), (2, .ref (P.2.2.2.1 0)), (3, .ref P.2.2.2.2.1), (4, .int (nI t))] rfl ?_
  refine sm_aload_n hG 1064 rfl dL_law_1063 rfl 4 rfl ?_
  refine sl_callV hG (x := .int (w2 0 12)) (v' := m3 v2 w2 (oK kk (x) o)) (.inr (.inl 0)) [] 1067 rfl (okm (lM_ok hP) (by decide)) meS_0 (ci := 7) rfl (lift_M hP (c_X7_thrown (lM_ok hP) rfl)) gL_law_X7_thrown rfl (by decide) (by decide) (n := 0) rfl (Nat.le_of_ble_eq_true rfl) (by decide) (cq hcs (by decide) (by decide)) rfl dL_law_1064 ?_
  refine sm_iload hG 1069 rfl dL_law_1067 1 rfl ?_
  refine sl_ieq hG 1074 hth dL_law_1069 (by decide) ?_
  refine sm_iload hG 1076 rfl dL_law_1074 1 rfl ?_
  refine sl_ne hG 1091 1079 rfl dL_law_1076 (by decide) (fun hz => ?_) (fun hz => ?_)
  · skip
    refine sm_goto hG 2743 dL_law_1091 (by decide) ?_
    refine sm_loc [2, 3, 4, 5, 6] (lsB P t) rfl ?_
    exact sl_wide (cqe (by decide) (by decide)) (k _ _ _ hI)
  · have hk0 : kk = 0 := hcd.mp (nI_z hz (by unfold c3; split <;> (try split) <;> omega))
    have hxy := hxy hk0
    subst hxy
    refine sm_aload_n hG 1080 rfl dL_law_1079 rfl 5 rfl ?_
    refine sm_iconst (x := (0 : Int32)) hG 1081 rfl dL_law_1080 rfl ?_
    refine sl_oin hG 1082 rfl dL_law_1081 ?_
    rw [oK_0 hk0]
    refine sm_iload hG 1084 rfl dL_law_1082 0 rfl ?_
    refine sl_i2l hG 1085 rfl dL_law_1084 ?_
    refine sl_lcmp hG 1086 rfl dL_law_1085 ?_
    refine sl_eq hG 1091 1089 rfl dL_law_1086 (by decide) (fun _ => ?_) (fun hz => absurd rfl hz)
    refine sm_goto hG 2743 dL_law_1091 (by decide) ?_
    refine sm_loc [2, 3, 4, 5, 6] (lsB P t) rfl ?_
    exact sl_wide (cqe (by decide) (by decide)) (k _ _ _ hI)
set_option maxRecDepth 100000 in
set_option maxHeartbeats 4000000 in
theorem law_13 {P : pS} (hP : Ap P) {Γ : jG Unit} (hG : jOk Γ (lS P) cL_law RL wsL_law room_1) (hN : Γ.2.1 = 7) (hfl : Γ.1.2.1.stackTraces = false) {cs : Nat × Nat} (hcs : cs.1 + 4 ≤ 601024 ∧ cs.2 + 24 ≤ 7293034) {t : Nat} (ht : t + 7 ≤ P.2.2.2.2.2.2.2.1) (hL : P.2.2.2.2.2.2.2.1 ≤ 3584) {v : mC} {w : mM} {o : Nat → Int32} (h : IV v w) (k : ∀ v' w' o', IV v' w' → Sm Γ (lS P) (cs.1 + 4, cs.2 + 24) 2743 (lsB P t) [] (m3 v' w' o') (some ())) : Sm Γ (lS P) cs 1094 (lsB P t) [] (m3 v w o) (some ()) := by
  have hop : Op c3 (f_X6_undo  v) (f_X7_undo  w) := op_undo h
  obtain ⟨x, kk, v2, y, w2, hF, hF2, hk, hth, hcd, hxy, hI⟩ := hop
  refine sm_aload_n hG 1095 rfl dL_law_1094 rfl 1 rfl ?_
  refine sm_aload_n hG 1096 rfl dL_law_1095 rfl 3 rfl ?_
  refine sl_callW hG (x := .int (nI (c3 kk))) (v' := m3 v2 w (oK kk (x) o)) [.ref (P.2.2.1 (0, 0, 0)), .ref P.2.2.2.2.1] 1099 rfl (c_L_undo hP hfl hF hk hcd) gL_law_L_undo rfl (by decide) (by decide) (n := 2) rfl (Nat.le_of_ble_eq_true rfl) (cs.1 + rmL_undo.cells, cs.2 + rmL_undo.slots) ⟨rfl, rfl⟩ (cq hcs (by decide) (by decide)) rfl dL_law_1096 ?_
  refine sm_istore hG 1101 rfl dL_law_1099 (jlt hN rfl) [(5, .int (nI (c3 kk))), (0, .ref P.2.2.2.2.2.2.1), (1, .ref (P.2.2.1 (0, 0, 0))), (2, .ref (P.2.2.2.1 0)), (3, .ref P.2.2.2.2.1), (4, .int (nI t))] rfl ?_
  refine sm_aload_n hG 1102 rfl dL_law_1101 rfl 3 rfl ?_
  refine sl_callV hG (x := .int y) (v' := m3 v2 w2 (oK kk (x) o)) (.inr (.inl 0)) [] 1105 rfl (okm (lM_ok hP) (by decide)) meS_0 (ci := 7) rfl (lift_M hP (c_X7_undo (lM_ok hP) hF2)) gL_law_X7_undo rfl (by decide) (by decide) (n := 0) rfl (Nat.le_of_ble_eq_true rfl) (by decide) (cq hcs (by decide) (by decide)) rfl dL_law_1102 ?_
  refine sm_istore hG 1107 rfl dL_law_1105 (jlt hN rfl) [(6, .int y), (5, .int (nI (c3 kk))), (0, .ref P.2.2.2.2.2.2.1), (1, .ref (P.2.2.1 (0, 0, 0))), (2, .ref (P.2.2.2.1 0)), (3, .ref P.2.2.2.2.1), (4, .int (nI t))] rfl ?_
  refine sm_aload_n hG 1108 rfl dL_law_1107 rfl 4 rfl ?_
  refine sl_callV hG (x := .int (w2 0 12)) (v' := m3 v2 w2 (oK kk (x) o)) (.inr (.inl 0)) [] 1111 rfl (okm (lM_ok hP) (by decide)) meS_0 (ci := 7) rfl (lift_M hP (c_X7_thrown (lM_ok hP) rfl)) gL_law_X7_thrown rfl (by decide) (by decide) (n := 0) rfl (Nat.le_of_ble_eq_true rfl) (by decide) (cq hcs (by decide) (by decide)) rfl dL_law_1108 ?_
  refine sm_iload hG 1113 rfl dL_law_1111 1 rfl ?_
  refine sl_ieq hG 1118 hth dL_law_1113 (by decide) ?_
  refine sm_iload hG 1120 rfl dL_law_1118 1 rfl ?_
  refine sl_ne hG 1135 1123 rfl dL_law_1120 (by decide) (fun hz => ?_) (fun hz => ?_)
  · skip
    refine sm_goto hG 2743 dL_law_1135 (by decide) ?_
    refine sm_loc [2, 3, 4, 5, 6] (lsB P t) rfl ?_
    exact sl_wide (cqe (by decide) (by decide)) (k _ _ _ hI)
  · have hk0 : kk = 0 := hcd.mp (nI_z hz (by unfold c3; split <;> (try split) <;> omega))
    have hxy := hxy hk0
    subst hxy
    refine sm_aload_n hG 1124 rfl dL_law_1123 rfl 5 rfl ?_
    refine sm_iconst (x := (0 : Int32)) hG 1125 rfl dL_law_1124 rfl ?_
    refine sl_oin hG 1126 rfl dL_law_1125 ?_
    rw [oK_0 hk0]
    refine sm_iload hG 1128 rfl dL_law_1126 0 rfl ?_
    refine sl_i2l hG 1129 rfl dL_law_1128 ?_
    refine sl_lcmp hG 1130 rfl dL_law_1129 ?_
    refine sl_eq hG 1135 1133 rfl dL_law_1130 (by decide) (fun _ => ?_) (fun hz => absurd rfl hz)
    refine sm_goto hG 2743 dL_law_1135 (by decide) ?_
    refine sm_loc [2, 3, 4, 5, 6] (lsB P t) rfl ?_
    exact sl_wide (cqe (by decide) (by decide)) (k _ _ _ hI)
set_option maxRecDepth 100000 in
set_option maxHeartbeats 4000000 in
theorem law_14 {P : pS} (hP : Ap P) {Γ : jG Unit} (hG : jOk Γ (lS P) cL_law RL wsL_law room_1) (hN : Γ.2.1 = 7) (hfl : Γ.1.2.1.stackTraces = false) {cs : Nat × Nat} (hcs : cs.1 + 4 ≤ 601024 ∧ cs.2 + 24 ≤ 7293034) {t : Nat} (ht : t + 7 ≤ P.2.2.2.2.2.2.2.1) (hL : P.2.2.2.2.2.2.2.1 ≤ 3584) {v : mC} {w : mM} {o : Nat → Int32} (h : IV v w) (k : ∀ v' w' o', IV v' w' → Sm Γ (lS P) (cs.1 + 4, cs.2 + 24) 2743 (lsB P t) [] (m3 v' w' o') (some ())) : Sm Γ (lS P) cs 1138 (lsB P t) [] (m3 v w o) (some ()) := by
  obtain ⟨x, v2, w2, hF, hF2, hI⟩ := op_takeSnapshot h
  refine sm_aload_n hG 1139 rfl dL_law_1138 rfl 1 rfl ?_
  refine sl_callV hG (x := .int x) (v' := m3 v2 w o) (.inl (0, 0, 0)) [] 1142 rfl (ok0 (lC_ok hP)) ceS_0 (ci := 6) rfl (lift_C hP (c_X6_takeSnapshot (lC_ok hP) hF)) gL_law_X6_takeSnapshot rfl (by decide) (by decide) (n := 0) rfl (Nat.le_of_ble_eq_true rfl) (by decide) (cq0 hcs) rfl dL_law_1139 ?_
  refine sm_aload_n hG 1143 rfl dL_law_1142 rfl 2 rfl ?_
  refine sl_callV hG (x := .int x) (v' := m3 v2 w2 o) (.inr (.inl 0)) [] 1146 rfl (okm (lM_ok hP) (by decide)) meS_0 (ci := 7) rfl (lift_M hP (c_X7_takeSnapshot (lM_ok hP) hF2)) gL_law_X7_takeSnapshot rfl (by decide) (by decide) (n := 0) rfl (Nat.le_of_ble_eq_true rfl) (by decide) (cq0 hcs) rfl dL_law_1143 ?_
  refine sl_ieq hG 2743 rfl dL_law_1146 (by decide) ?_
  exact sl_wide ⟨Nat.le_add_right _ _, Nat.le_add_right _ _⟩ (k _ _ _ hI)
set_option maxRecDepth 100000 in
set_option maxHeartbeats 4000000 in
theorem law_15 {P : pS} (hP : Ap P) {Γ : jG Unit} (hG : jOk Γ (lS P) cL_law RL wsL_law room_1) (hN : Γ.2.1 = 7) (hfl : Γ.1.2.1.stackTraces = false) {cs : Nat × Nat} (hcs : cs.1 + 4 ≤ 601024 ∧ cs.2 + 24 ≤ 7293034) {t : Nat} (ht : t + 7 ≤ P.2.2.2.2.2.2.2.1) (hL : P.2.2.2.2.2.2.2.1 ≤ 3584) {v : mC} {w : mM} {o : Nat → Int32} (h : IV v w) (k : ∀ v' w' o', IV v' w' → Sm Γ (lS P) (cs.1 + 4, cs.2 + 24) 2743 (lsB P t) [] (m3 v' w' o') (some ())) : Sm Γ (lS P) cs 1151 (lsB P t) [] (m3 v w o) (some ()) := by
  have hop : Op c3 (f_X6_restoreSnapshot  v) (f_X7_restoreSnapshot  w) := op_restoreSnapshot h
  obtain ⟨x, kk, v2, y, w2, hF, hF2, hk, hth, hcd, hxy, hI⟩ := hop
  refine sm_aload_n hG 1152 rfl dL_law_1151 rfl 1 rfl ?_
  refine sm_aload_n hG 1153 rfl dL_law_1152 rfl 3 rfl ?_
  refine sl_callW hG (x := .int (nI (c3 kk))) (v' := m3 v2 w (oK kk (x) o)) [.ref (P.2.2.1 (0, 0, 0)), .ref P.2.2.2.2.1] 1156 rfl (c_L_restoreSnapshot hP hfl hF hk hcd) gL_law_L_restoreSnapshot rfl (by decide) (by decide) (n := 2) rfl (Nat.le_of_ble_eq_true rfl) (cs.1 + rmL_restoreSnapshot.cells, cs.2 + rmL_restoreSnapshot.slots) ⟨rfl, rfl⟩ (cq hcs (by decide) (by decide)) rfl dL_law_1153 ?_
  refine sm_istore hG 1158 rfl dL_law_1156 (jlt hN rfl) [(5, .int (nI (c3 kk))), (0, .ref P.2.2.2.2.2.2.1), (1, .ref (P.2.2.1 (0, 0, 0))), (2, .ref (P.2.2.2.1 0)), (3, .ref P.2.2.2.2.1), (4, .int (nI t))] rfl ?_
  refine sm_aload_n hG 1159 rfl dL_law_1158 rfl 3 rfl ?_
  refine sl_callV hG (x := .int y) (v' := m3 v2 w2 (oK kk (x) o)) (.inr (.inl 0)) [] 1162 rfl (okm (lM_ok hP) (by decide)) meS_0 (ci := 7) rfl (lift_M hP (c_X7_restoreSnapshot (lM_ok hP) hF2)) gL_law_X7_restoreSnapshot rfl (by decide) (by decide) (n := 0) rfl (Nat.le_of_ble_eq_true rfl) (by decide) (cq hcs (by decide) (by decide)) rfl dL_law_1159 ?_
  refine sm_istore hG 1164 rfl dL_law_1162 (jlt hN rfl) [(6, .int y), (5, .int (nI (c3 kk))), (0, .ref P.2.2.2.2.2.2.1), (1, .ref (P.2.2.1 (0, 0, 0))), (2, .ref (P.2.2.2.1 0)), (3, .ref P.2.2.2.2.1), (4, .int (nI t))] rfl ?_
  refine sm_aload_n hG 1165 rfl dL_law_1164 rfl 4 rfl ?_
  refine sl_callV hG (x := .int (w2 0 12)) (v' := m3 v2 w2 (oK kk (x) o)) (.inr (.inl 0)) [] 1168 rfl (okm (lM_ok hP) (by decide)) meS_0 (ci := 7) rfl (lift_M hP (c_X7_thrown (lM_ok hP) rfl)) gL_law_X7_thrown rfl (by decide) (by decide) (n := 0) rfl (Nat.le_of_ble_eq_true rfl) (by decide) (cq hcs (by decide) (by decide)) rfl dL_law_1165 ?_
  refine sm_iload hG 1170 rfl dL_law_1168 1 rfl ?_
  refine sl_ieq hG 1175 hth dL_law_1170 (by decide) ?_
  refine sm_iload hG 1177 rfl dL_law_1175 1 rfl ?_
  refine sl_ne hG 1192 1180 rfl dL_law_1177 (by decide) (fun hz => ?_) (fun hz => ?_)
  · skip
    refine sm_goto hG 2743 dL_law_1192 (by decide) ?_
    refine sm_loc [2, 3, 4, 5, 6] (lsB P t) rfl ?_
    exact sl_wide (cqe (by decide) (by decide)) (k _ _ _ hI)
  · have hk0 : kk = 0 := hcd.mp (nI_z hz (by unfold c3; split <;> (try split) <;> omega))
    have hxy := hxy hk0
    subst hxy
    refine sm_aload_n hG 1181 rfl dL_law_1180 rfl 5 rfl ?_
    refine sm_iconst (x := (0 : Int32)) hG 1182 rfl dL_law_1181 rfl ?_
    refine sl_oin hG 1183 rfl dL_law_1182 ?_
    rw [oK_0 hk0]
    refine sm_iload hG 1185 rfl dL_law_1183 0 rfl ?_
    refine sl_i2l hG 1186 rfl dL_law_1185 ?_
    refine sl_lcmp hG 1187 rfl dL_law_1186 ?_
    refine sl_eq hG 1192 1190 rfl dL_law_1187 (by decide) (fun _ => ?_) (fun hz => absurd rfl hz)
    refine sm_goto hG 2743 dL_law_1192 (by decide) ?_
    refine sm_loc [2, 3, 4, 5, 6] (lsB P t) rfl ?_
    exact sl_wide (cqe (by decide) (by decide)) (k _ _ _ hI)
set_option maxRecDepth 100000 in
set_option maxHeartbeats 4000000 in
theorem law_16 {P : pS} (hP : Ap P) {Γ : jG Unit} (hG : jOk Γ (lS P) cL_law RL wsL_law room_1) (hN : Γ.2.1 = 7) (hfl : Γ.1.2.1.stackTraces = false) {cs : Nat × Nat} (hcs : cs.1 + 4 ≤ 601024 ∧ cs.2 + 24 ≤ 7293034) {t : Nat} (ht : t + 7 ≤ P.2.2.2.2.2.2.2.1) (hL : P.2.2.2.2.2.2.2.1 ≤ 3584) {v : mC} {w : mM} {o : Nat → Int32} (h : IV v w) (k : ∀ v' w' o', IV v' w' → Sm Γ (lS P) (cs.1 + 4, cs.2 + 24) 2743 (lsB P t) [] (m3 v' w' o') (some ())) : Sm Γ (lS P) cs 1195 (lsB P t) [] (m3 v w o) (some ()) := by
  obtain ⟨x, w2, hF, hF2, hI⟩ := op_singers h
  refine sm_aload_n hG 1196 rfl dL_law_1195 rfl 1 rfl ?_
  refine sl_callV hG (x := .int x) (v' := m3 v w o) (.inl (0, 0, 0)) [] 1199 rfl (ok0 (lC_ok hP)) ceS_0 (ci := 6) rfl (lift_C hP (c_X6_singers (lC_ok hP) hF)) gL_law_X6_singers rfl (by decide) (by decide) (n := 0) rfl (Nat.le_of_ble_eq_true rfl) (by decide) (cq0 hcs) rfl dL_law_1196 ?_
  refine sm_aload_n hG 1200 rfl dL_law_1199 rfl 2 rfl ?_
  refine sl_callV hG (x := .int x) (v' := m3 v w2 o) (.inr (.inl 0)) [] 1203 rfl (okm (lM_ok hP) (by decide)) meS_0 (ci := 7) rfl (lift_M hP (c_X7_singers (lM_ok hP) hF2)) gL_law_X7_singers rfl (by decide) (by decide) (n := 0) rfl (Nat.le_of_ble_eq_true rfl) (by decide) (cq0 hcs) rfl dL_law_1200 ?_
  refine sl_ieq hG 2743 rfl dL_law_1203 (by decide) ?_
  exact sl_wide ⟨Nat.le_add_right _ _, Nat.le_add_right _ _⟩ (k _ _ _ hI)
set_option maxRecDepth 100000 in
set_option maxHeartbeats 4000000 in
theorem law_17 {P : pS} (hP : Ap P) {Γ : jG Unit} (hG : jOk Γ (lS P) cL_law RL wsL_law room_1) (hN : Γ.2.1 = 7) (hfl : Γ.1.2.1.stackTraces = false) {cs : Nat × Nat} (hcs : cs.1 + 4 ≤ 601024 ∧ cs.2 + 24 ≤ 7293034) {t : Nat} (ht : t + 7 ≤ P.2.2.2.2.2.2.2.1) (hL : P.2.2.2.2.2.2.2.1 ≤ 3584) {v : mC} {w : mM} {o : Nat → Int32} (h : IV v w) (k : ∀ v' w' o', IV v' w' → Sm Γ (lS P) (cs.1 + 4, cs.2 + 24) 2743 (lsB P t) [] (m3 v' w' o') (some ())) : Sm Γ (lS P) cs 1208 (lsB P t) [] (m3 v w o) (some ()) := by
  have hop : Op c1 (f_X6_isInChoir (P.2.2.2.2.2.2.2.2 (t + 1)) v) (f_X7_isInChoir (P.2.2.2.2.2.2.2.2 (t + 1)) w) := op_isInChoir h _
  obtain ⟨x, kk, v2, y, w2, hF, hF2, hk, hth, hcd, hxy, hI⟩ := hop
  refine sm_aload_n hG 1209 rfl dL_law_1208 rfl 1 rfl ?_
  refine sl_arg hG (t := t) (j := 1) 1210 1212 1213 1214 1215 rfl rfl rfl rfl rfl 0 4 rfl rfl (by omega) hL rfl dL_law_1209 dL_law_1210 dL_law_1212 dL_law_1213 dL_law_1214 ?_
  refine sm_aload_n hG 1216 rfl dL_law_1215 rfl 3 rfl ?_
  refine sl_callW hG (x := .int (nI (c1 kk))) (v' := m3 v2 w (oK kk (bz x) o)) [.ref (P.2.2.1 (0, 0, 0)), .int (P.2.2.2.2.2.2.2.2 (t + 1)), .ref P.2.2.2.2.1] 1219 rfl (c_L_isInChoir hP hfl hF hk hcd) gL_law_L_isInChoir rfl (by decide) (by decide) (n := 3) rfl (Nat.le_of_ble_eq_true rfl) (cs.1 + rmL_isInChoir.cells, cs.2 + rmL_isInChoir.slots) ⟨rfl, rfl⟩ (cq hcs (by decide) (by decide)) rfl dL_law_1216 ?_
  refine sm_istore hG 1221 rfl dL_law_1219 (jlt hN rfl) [(5, .int (nI (c1 kk))), (0, .ref P.2.2.2.2.2.2.1), (1, .ref (P.2.2.1 (0, 0, 0))), (2, .ref (P.2.2.2.1 0)), (3, .ref P.2.2.2.2.1), (4, .int (nI t))] rfl ?_
  refine sm_aload_n hG 1222 rfl dL_law_1221 rfl 3 rfl ?_
  refine sl_arg hG (t := t) (j := 1) 1223 1225 1226 1227 1228 rfl rfl rfl rfl rfl 1 5 rfl rfl (by omega) hL rfl dL_law_1222 dL_law_1223 dL_law_1225 dL_law_1226 dL_law_1227 ?_
  refine sl_callV hG (x := .int y) (v' := m3 v2 w2 (oK kk (bz x) o)) (.inr (.inl 0)) [.int (P.2.2.2.2.2.2.2.2 (t + 1))] 1231 rfl (okm (lM_ok hP) (by decide)) meS_0 (ci := 7) rfl (lift_M hP (c_X7_isInChoir (lM_ok hP) hF2)) gL_law_X7_isInChoir rfl (by decide) (by decide) (n := 1) rfl (Nat.le_of_ble_eq_true rfl) (by decide) (cq hcs (by decide) (by decide)) rfl dL_law_1228 ?_
  refine sm_istore hG 1233 rfl dL_law_1231 (jlt hN rfl) [(6, .int y), (5, .int (nI (c1 kk))), (0, .ref P.2.2.2.2.2.2.1), (1, .ref (P.2.2.1 (0, 0, 0))), (2, .ref (P.2.2.2.1 0)), (3, .ref P.2.2.2.2.1), (4, .int (nI t))] rfl ?_
  refine sm_aload_n hG 1234 rfl dL_law_1233 rfl 4 rfl ?_
  refine sl_callV hG (x := .int (w2 0 12)) (v' := m3 v2 w2 (oK kk (bz x) o)) (.inr (.inl 0)) [] 1237 rfl (okm (lM_ok hP) (by decide)) meS_0 (ci := 7) rfl (lift_M hP (c_X7_thrown (lM_ok hP) rfl)) gL_law_X7_thrown rfl (by decide) (by decide) (n := 0) rfl (Nat.le_of_ble_eq_true rfl) (by decide) (cq hcs (by decide) (by decide)) rfl dL_law_1234 ?_
  refine sm_iload hG 1239 rfl dL_law_1237 1 rfl ?_
  refine sl_ieq hG 1244 hth dL_law_1239 (by decide) ?_
  refine sm_iload hG 1246 rfl dL_law_1244 1 rfl ?_
  refine sl_ne hG 1268 1249 rfl dL_law_1246 (by decide) (fun hz => ?_) (fun hz => ?_)
  · skip
    refine sm_goto hG 2743 dL_law_1268 (by decide) ?_
    refine sm_loc [2, 3, 4, 5, 6] (lsB P t) rfl ?_
    exact sl_wide (cqe (by decide) (by decide)) (k _ _ _ hI)
  · have hk0 : kk = 0 := hcd.mp (nI_z hz (by unfold c1; split <;> (try split) <;> omega))
    have hxy := hxy hk0
    subst hxy
    refine sm_aload_n hG 1250 rfl dL_law_1249 rfl 5 rfl ?_
    refine sm_iconst (x := (0 : Int32)) hG 1251 rfl dL_law_1250 rfl ?_
    refine sl_oin hG 1252 rfl dL_law_1251 ?_
    rw [oK_0 hk0]
    refine sm_iload hG 1254 rfl dL_law_1252 0 rfl ?_
    refine sl_eq hG 1261 1257 rfl dL_law_1254 (by decide) (fun hb => ?_) (fun hb => ?_)
    · rw [bz_0 hb]
      refine sl_lconst hG 0 1262 rfl dL_law_1261 rfl ?_
      refine sl_lcmp hG 1263 rfl dL_law_1262 ?_
      refine sl_eq hG 1268 1266 rfl dL_law_1263 (by decide) (fun _ => ?_) (fun hz => absurd rfl hz)
      refine sm_goto hG 2743 dL_law_1268 (by decide) ?_
      refine sm_loc [2, 3, 4, 5, 6] (lsB P t) rfl ?_
      exact sl_wide (cqe (by decide) (by decide)) (k _ _ _ hI)
    · rw [bz_1 hb]
      refine sl_lconst hG 1 1258 rfl dL_law_1257 rfl ?_
      refine sm_goto hG 1262 dL_law_1258 (by decide) ?_
      refine sl_lcmp hG 1263 rfl dL_law_1262 ?_
      refine sl_eq hG 1268 1266 rfl dL_law_1263 (by decide) (fun _ => ?_) (fun hz => absurd rfl hz)
      refine sm_goto hG 2743 dL_law_1268 (by decide) ?_
      refine sm_loc [2, 3, 4, 5, 6] (lsB P t) rfl ?_
      exact sl_wide (cqe (by decide) (by decide)) (k _ _ _ hI)
set_option maxRecDepth 100000 in
set_option maxHeartbeats 4000000 in
theorem law_18 {P : pS} (hP : Ap P) {Γ : jG Unit} (hG : jOk Γ (lS P) cL_law RL wsL_law room_1) (hN : Γ.2.1 = 7) (hfl : Γ.1.2.1.stackTraces = false) {cs : Nat × Nat} (hcs : cs.1 + 4 ≤ 601024 ∧ cs.2 + 24 ≤ 7293034) {t : Nat} (ht : t + 7 ≤ P.2.2.2.2.2.2.2.1) (hL : P.2.2.2.2.2.2.2.1 ≤ 3584) {v : mC} {w : mM} {o : Nat → Int32} (h : IV v w) (k : ∀ v' w' o', IV v' w' → Sm Γ (lS P) (cs.1 + 4, cs.2 + 24) 2743 (lsB P t) [] (m3 v' w' o') (some ())) : Sm Γ (lS P) cs 1271 (lsB P t) [] (m3 v w o) (some ()) := by
  have hop : Op c1 (f_X6_ageOf (P.2.2.2.2.2.2.2.2 (t + 1)) v) (f_X7_ageOf (P.2.2.2.2.2.2.2.2 (t + 1)) w) := op_ageOf h _
  obtain ⟨x, kk, v2, y, w2, hF, hF2, hk, hth, hcd, hxy, hI⟩ := hop
  refine sm_aload_n hG 1272 rfl dL_law_1271 rfl 1 rfl ?_
  refine sl_arg hG (t := t) (j := 1) 1273 1275 1276 1277 1278 rfl rfl rfl rfl rfl 0 4 rfl rfl (by omega) hL rfl dL_law_1272 dL_law_1273 dL_law_1275 dL_law_1276 dL_law_1277 ?_
  refine sm_aload_n hG 1279 rfl dL_law_1278 rfl 3 rfl ?_
  refine sl_callW hG (x := .int (nI (c1 kk))) (v' := m3 v2 w (oK kk (x) o)) [.ref (P.2.2.1 (0, 0, 0)), .int (P.2.2.2.2.2.2.2.2 (t + 1)), .ref P.2.2.2.2.1] 1282 rfl (c_L_ageOf hP hfl hF hk hcd) gL_law_L_ageOf rfl (by decide) (by decide) (n := 3) rfl (Nat.le_of_ble_eq_true rfl) (cs.1 + rmL_ageOf.cells, cs.2 + rmL_ageOf.slots) ⟨rfl, rfl⟩ (cq hcs (by decide) (by decide)) rfl dL_law_1279 ?_
  refine sm_istore hG 1284 rfl dL_law_1282 (jlt hN rfl) [(5, .int (nI (c1 kk))), (0, .ref P.2.2.2.2.2.2.1), (1, .ref (P.2.2.1 (0, 0, 0))), (2, .ref (P.2.2.2.1 0)), (3, .ref P.2.2.2.2.1), (4, .int (nI t))] rfl ?_
  refine sm_aload_n hG 1285 rfl dL_law_1284 rfl 3 rfl ?_
  refine sl_arg hG (t := t) (j := 1) 1286 1288 1289 1290 1291 rfl rfl rfl rfl rfl 1 5 rfl rfl (by omega) hL rfl dL_law_1285 dL_law_1286 dL_law_1288 dL_law_1289 dL_law_1290 ?_
  refine sl_callV hG (x := .int y) (v' := m3 v2 w2 (oK kk (x) o)) (.inr (.inl 0)) [.int (P.2.2.2.2.2.2.2.2 (t + 1))] 1294 rfl (okm (lM_ok hP) (by decide)) meS_0 (ci := 7) rfl (lift_M hP (c_X7_ageOf (lM_ok hP) hF2)) gL_law_X7_ageOf rfl (by decide) (by decide) (n := 1) rfl (Nat.le_of_ble_eq_true rfl) (by decide) (cq hcs (by decide) (by decide)) rfl dL_law_1291 ?_
  refine sm_istore hG 1296 rfl dL_law_1294 (jlt hN rfl) [(6, .int y), (5, .int (nI (c1 kk))), (0, .ref P.2.2.2.2.2.2.1), (1, .ref (P.2.2.1 (0, 0, 0))), (2, .ref (P.2.2.2.1 0)), (3, .ref P.2.2.2.2.1), (4, .int (nI t))] rfl ?_
  refine sm_aload_n hG 1297 rfl dL_law_1296 rfl 4 rfl ?_
  refine sl_callV hG (x := .int (w2 0 12)) (v' := m3 v2 w2 (oK kk (x) o)) (.inr (.inl 0)) [] 1300 rfl (okm (lM_ok hP) (by decide)) meS_0 (ci := 7) rfl (lift_M hP (c_X7_thrown (lM_ok hP) rfl)) gL_law_X7_thrown rfl (by decide) (by decide) (n := 0) rfl (Nat.le_of_ble_eq_true rfl) (by decide) (cq hcs (by decide) (by decide)) rfl dL_law_1297 ?_
  refine sm_iload hG 1302 rfl dL_law_1300 1 rfl ?_
  refine sl_ieq hG 1307 hth dL_law_1302 (by decide) ?_
  refine sm_iload hG 1309 rfl dL_law_1307 1 rfl ?_
  refine sl_ne hG 1324 1312 rfl dL_law_1309 (by decide) (fun hz => ?_) (fun hz => ?_)
  · skip
    refine sm_goto hG 2743 dL_law_1324 (by decide) ?_
    refine sm_loc [2, 3, 4, 5, 6] (lsB P t) rfl ?_
    exact sl_wide (cqe (by decide) (by decide)) (k _ _ _ hI)
  · have hk0 : kk = 0 := hcd.mp (nI_z hz (by unfold c1; split <;> (try split) <;> omega))
    have hxy := hxy hk0
    subst hxy
    refine sm_aload_n hG 1313 rfl dL_law_1312 rfl 5 rfl ?_
    refine sm_iconst (x := (0 : Int32)) hG 1314 rfl dL_law_1313 rfl ?_
    refine sl_oin hG 1315 rfl dL_law_1314 ?_
    rw [oK_0 hk0]
    refine sm_iload hG 1317 rfl dL_law_1315 0 rfl ?_
    refine sl_i2l hG 1318 rfl dL_law_1317 ?_
    refine sl_lcmp hG 1319 rfl dL_law_1318 ?_
    refine sl_eq hG 1324 1322 rfl dL_law_1319 (by decide) (fun _ => ?_) (fun hz => absurd rfl hz)
    refine sm_goto hG 2743 dL_law_1324 (by decide) ?_
    refine sm_loc [2, 3, 4, 5, 6] (lsB P t) rfl ?_
    exact sl_wide (cqe (by decide) (by decide)) (k _ _ _ hI)
set_option maxRecDepth 100000 in
set_option maxHeartbeats 4000000 in
theorem law_19 {P : pS} (hP : Ap P) {Γ : jG Unit} (hG : jOk Γ (lS P) cL_law RL wsL_law room_1) (hN : Γ.2.1 = 7) (hfl : Γ.1.2.1.stackTraces = false) {cs : Nat × Nat} (hcs : cs.1 + 4 ≤ 601024 ∧ cs.2 + 24 ≤ 7293034) {t : Nat} (ht : t + 7 ≤ P.2.2.2.2.2.2.2.1) (hL : P.2.2.2.2.2.2.2.1 ≤ 3584) {v : mC} {w : mM} {o : Nat → Int32} (h : IV v w) (k : ∀ v' w' o', IV v' w' → Sm Γ (lS P) (cs.1 + 4, cs.2 + 24) 2743 (lsB P t) [] (m3 v' w' o') (some ())) : Sm Γ (lS P) cs 1327 (lsB P t) [] (m3 v w o) (some ()) := by
  have hop : Op c1 (f_X6_lowestNoteOf (P.2.2.2.2.2.2.2.2 (t + 1)) v) (f_X7_lowestNoteOf (P.2.2.2.2.2.2.2.2 (t + 1)) w) := op_lowestNoteOf h _
  obtain ⟨x, kk, v2, y, w2, hF, hF2, hk, hth, hcd, hxy, hI⟩ := hop
  refine sm_aload_n hG 1328 rfl dL_law_1327 rfl 1 rfl ?_
  refine sl_arg hG (t := t) (j := 1) 1329 1331 1332 1333 1334 rfl rfl rfl rfl rfl 0 4 rfl rfl (by omega) hL rfl dL_law_1328 dL_law_1329 dL_law_1331 dL_law_1332 dL_law_1333 ?_
  refine sm_aload_n hG 1335 rfl dL_law_1334 rfl 3 rfl ?_
  refine sl_callW hG (x := .int (nI (c1 kk))) (v' := m3 v2 w (oK kk (x) o)) [.ref (P.2.2.1 (0, 0, 0)), .int (P.2.2.2.2.2.2.2.2 (t + 1)), .ref P.2.2.2.2.1] 1338 rfl (c_L_lowestNoteOf hP hfl hF hk hcd) gL_law_L_lowestNoteOf rfl (by decide) (by decide) (n := 3) rfl (Nat.le_of_ble_eq_true rfl) (cs.1 + rmL_lowestNoteOf.cells, cs.2 + rmL_lowestNoteOf.slots) ⟨rfl, rfl⟩ (cq hcs (by decide) (by decide)) rfl dL_law_1335 ?_
  refine sm_istore hG 1340 rfl dL_law_1338 (jlt hN rfl) [(5, .int (nI (c1 kk))), (0, .ref P.2.2.2.2.2.2.1), (1, .ref (P.2.2.1 (0, 0, 0))), (2, .ref (P.2.2.2.1 0)), (3, .ref P.2.2.2.2.1), (4, .int (nI t))] rfl ?_
  refine sm_aload_n hG 1341 rfl dL_law_1340 rfl 3 rfl ?_
  refine sl_arg hG (t := t) (j := 1) 1342 1344 1345 1346 1347 rfl rfl rfl rfl rfl 1 5 rfl rfl (by omega) hL rfl dL_law_1341 dL_law_1342 dL_law_1344 dL_law_1345 dL_law_1346 ?_
  refine sl_callV hG (x := .int y) (v' := m3 v2 w2 (oK kk (x) o)) (.inr (.inl 0)) [.int (P.2.2.2.2.2.2.2.2 (t + 1))] 1350 rfl (okm (lM_ok hP) (by decide)) meS_0 (ci := 7) rfl (lift_M hP (c_X7_lowestNoteOf (lM_ok hP) hF2)) gL_law_X7_lowestNoteOf rfl (by decide) (by decide) (n := 1) rfl (Nat.le_of_ble_eq_true rfl) (by decide) (cq hcs (by decide) (by decide)) rfl dL_law_1347 ?_
  refine sm_istore hG 1352 rfl dL_law_1350 (jlt hN rfl) [(6, .int y), (5, .int (nI (c1 kk))), (0, .ref P.2.2.2.2.2.2.1), (1, .ref (P.2.2.1 (0, 0, 0))), (2, .ref (P.2.2.2.1 0)), (3, .ref P.2.2.2.2.1), (4, .int (nI t))] rfl ?_
  refine sm_aload_n hG 1353 rfl dL_law_1352 rfl 4 rfl ?_
  refine sl_callV hG (x := .int (w2 0 12)) (v' := m3 v2 w2 (oK kk (x) o)) (.inr (.inl 0)) [] 1356 rfl (okm (lM_ok hP) (by decide)) meS_0 (ci := 7) rfl (lift_M hP (c_X7_thrown (lM_ok hP) rfl)) gL_law_X7_thrown rfl (by decide) (by decide) (n := 0) rfl (Nat.le_of_ble_eq_true rfl) (by decide) (cq hcs (by decide) (by decide)) rfl dL_law_1353 ?_
  refine sm_iload hG 1358 rfl dL_law_1356 1 rfl ?_
  refine sl_ieq hG 1363 hth dL_law_1358 (by decide) ?_
  refine sm_iload hG 1365 rfl dL_law_1363 1 rfl ?_
  refine sl_ne hG 1380 1368 rfl dL_law_1365 (by decide) (fun hz => ?_) (fun hz => ?_)
  · skip
    refine sm_goto hG 2743 dL_law_1380 (by decide) ?_
    refine sm_loc [2, 3, 4, 5, 6] (lsB P t) rfl ?_
    exact sl_wide (cqe (by decide) (by decide)) (k _ _ _ hI)
  · have hk0 : kk = 0 := hcd.mp (nI_z hz (by unfold c1; split <;> (try split) <;> omega))
    have hxy := hxy hk0
    subst hxy
    refine sm_aload_n hG 1369 rfl dL_law_1368 rfl 5 rfl ?_
    refine sm_iconst (x := (0 : Int32)) hG 1370 rfl dL_law_1369 rfl ?_
    refine sl_oin hG 1371 rfl dL_law_1370 ?_
    rw [oK_0 hk0]
    refine sm_iload hG 1373 rfl dL_law_1371 0 rfl ?_
    refine sl_i2l hG 1374 rfl dL_law_1373 ?_
    refine sl_lcmp hG 1375 rfl dL_law_1374 ?_
    refine sl_eq hG 1380 1378 rfl dL_law_1375 (by decide) (fun _ => ?_) (fun hz => absurd rfl hz)
    refine sm_goto hG 2743 dL_law_1380 (by decide) ?_
    refine sm_loc [2, 3, 4, 5, 6] (lsB P t) rfl ?_
    exact sl_wide (cqe (by decide) (by decide)) (k _ _ _ hI)
set_option maxRecDepth 100000 in
set_option maxHeartbeats 4000000 in
theorem law_20 {P : pS} (hP : Ap P) {Γ : jG Unit} (hG : jOk Γ (lS P) cL_law RL wsL_law room_1) (hN : Γ.2.1 = 7) (hfl : Γ.1.2.1.stackTraces = false) {cs : Nat × Nat} (hcs : cs.1 + 4 ≤ 601024 ∧ cs.2 + 24 ≤ 7293034) {t : Nat} (ht : t + 7 ≤ P.2.2.2.2.2.2.2.1) (hL : P.2.2.2.2.2.2.2.1 ≤ 3584) {v : mC} {w : mM} {o : Nat → Int32} (h : IV v w) (k : ∀ v' w' o', IV v' w' → Sm Γ (lS P) (cs.1 + 4, cs.2 + 24) 2743 (lsB P t) [] (m3 v' w' o') (some ())) : Sm Γ (lS P) cs 1383 (lsB P t) [] (m3 v w o) (some ()) := by
  have hop : Op c1 (f_X6_highestNoteOf (P.2.2.2.2.2.2.2.2 (t + 1)) v) (f_X7_highestNoteOf (P.2.2.2.2.2.2.2.2 (t + 1)) w) := op_highestNoteOf h _
  obtain ⟨x, kk, v2, y, w2, hF, hF2, hk, hth, hcd, hxy, hI⟩ := hop
  refine sm_aload_n hG 1384 rfl dL_law_1383 rfl 1 rfl ?_
  refine sl_arg hG (t := t) (j := 1) 1385 1387 1388 1389 1390 rfl rfl rfl rfl rfl 0 4 rfl rfl (by omega) hL rfl dL_law_1384 dL_law_1385 dL_law_1387 dL_law_1388 dL_law_1389 ?_
  refine sm_aload_n hG 1391 rfl dL_law_1390 rfl 3 rfl ?_
  refine sl_callW hG (x := .int (nI (c1 kk))) (v' := m3 v2 w (oK kk (x) o)) [.ref (P.2.2.1 (0, 0, 0)), .int (P.2.2.2.2.2.2.2.2 (t + 1)), .ref P.2.2.2.2.1] 1394 rfl (c_L_highestNoteOf hP hfl hF hk hcd) gL_law_L_highestNoteOf rfl (by decide) (by decide) (n := 3) rfl (Nat.le_of_ble_eq_true rfl) (cs.1 + rmL_highestNoteOf.cells, cs.2 + rmL_highestNoteOf.slots) ⟨rfl, rfl⟩ (cq hcs (by decide) (by decide)) rfl dL_law_1391 ?_
  refine sm_istore hG 1396 rfl dL_law_1394 (jlt hN rfl) [(5, .int (nI (c1 kk))), (0, .ref P.2.2.2.2.2.2.1), (1, .ref (P.2.2.1 (0, 0, 0))), (2, .ref (P.2.2.2.1 0)), (3, .ref P.2.2.2.2.1), (4, .int (nI t))] rfl ?_
  refine sm_aload_n hG 1397 rfl dL_law_1396 rfl 3 rfl ?_
  refine sl_arg hG (t := t) (j := 1) 1398 1400 1401 1402 1403 rfl rfl rfl rfl rfl 1 5 rfl rfl (by omega) hL rfl dL_law_1397 dL_law_1398 dL_law_1400 dL_law_1401 dL_law_1402 ?_
  refine sl_callV hG (x := .int y) (v' := m3 v2 w2 (oK kk (x) o)) (.inr (.inl 0)) [.int (P.2.2.2.2.2.2.2.2 (t + 1))] 1406 rfl (okm (lM_ok hP) (by decide)) meS_0 (ci := 7) rfl (lift_M hP (c_X7_highestNoteOf (lM_ok hP) hF2)) gL_law_X7_highestNoteOf rfl (by decide) (by decide) (n := 1) rfl (Nat.le_of_ble_eq_true rfl) (by decide) (cq hcs (by decide) (by decide)) rfl dL_law_1403 ?_
  refine sm_istore hG 1408 rfl dL_law_1406 (jlt hN rfl) [(6, .int y), (5, .int (nI (c1 kk))), (0, .ref P.2.2.2.2.2.2.1), (1, .ref (P.2.2.1 (0, 0, 0))), (2, .ref (P.2.2.2.1 0)), (3, .ref P.2.2.2.2.1), (4, .int (nI t))] rfl ?_
  refine sm_aload_n hG 1409 rfl dL_law_1408 rfl 4 rfl ?_
  refine sl_callV hG (x := .int (w2 0 12)) (v' := m3 v2 w2 (oK kk (x) o)) (.inr (.inl 0)) [] 1412 rfl (okm (lM_ok hP) (by decide)) meS_0 (ci := 7) rfl (lift_M hP (c_X7_thrown (lM_ok hP) rfl)) gL_law_X7_thrown rfl (by decide) (by decide) (n := 0) rfl (Nat.le_of_ble_eq_true rfl) (by decide) (cq hcs (by decide) (by decide)) rfl dL_law_1409 ?_
  refine sm_iload hG 1414 rfl dL_law_1412 1 rfl ?_
  refine sl_ieq hG 1419 hth dL_law_1414 (by decide) ?_
  refine sm_iload hG 1421 rfl dL_law_1419 1 rfl ?_
  refine sl_ne hG 1436 1424 rfl dL_law_1421 (by decide) (fun hz => ?_) (fun hz => ?_)
  · skip
    refine sm_goto hG 2743 dL_law_1436 (by decide) ?_
    refine sm_loc [2, 3, 4, 5, 6] (lsB P t) rfl ?_
    exact sl_wide (cqe (by decide) (by decide)) (k _ _ _ hI)
  · have hk0 : kk = 0 := hcd.mp (nI_z hz (by unfold c1; split <;> (try split) <;> omega))
    have hxy := hxy hk0
    subst hxy
    refine sm_aload_n hG 1425 rfl dL_law_1424 rfl 5 rfl ?_
    refine sm_iconst (x := (0 : Int32)) hG 1426 rfl dL_law_1425 rfl ?_
    refine sl_oin hG 1427 rfl dL_law_1426 ?_
    rw [oK_0 hk0]
    refine sm_iload hG 1429 rfl dL_law_1427 0 rfl ?_
    refine sl_i2l hG 1430 rfl dL_law_1429 ?_
    refine sl_lcmp hG 1431 rfl dL_law_1430 ?_
    refine sl_eq hG 1436 1434 rfl dL_law_1431 (by decide) (fun _ => ?_) (fun hz => absurd rfl hz)
    refine sm_goto hG 2743 dL_law_1436 (by decide) ?_
    refine sm_loc [2, 3, 4, 5, 6] (lsB P t) rfl ?_
    exact sl_wide (cqe (by decide) (by decide)) (k _ _ _ hI)
set_option maxRecDepth 100000 in
set_option maxHeartbeats 4000000 in
theorem law_21 {P : pS} (hP : Ap P) {Γ : jG Unit} (hG : jOk Γ (lS P) cL_law RL wsL_law room_1) (hN : Γ.2.1 = 7) (hfl : Γ.1.2.1.stackTraces = false) {cs : Nat × Nat} (hcs : cs.1 + 4 ≤ 601024 ∧ cs.2 + 24 ≤ 7293034) {t : Nat} (ht : t + 7 ≤ P.2.2.2.2.2.2.2.1) (hL : P.2.2.2.2.2.2.2.1 ≤ 3584) {v : mC} {w : mM} {o : Nat → Int32} (h : IV v w) (k : ∀ v' w' o', IV v' w' → Sm Γ (lS P) (cs.1 + 4, cs.2 + 24) 2743 (lsB P t) [] (m3 v' w' o') (some ())) : Sm Γ (lS P) cs 1439 (lsB P t) [] (m3 v w o) (some ()) := by
  have hop : Op c1 (f_X6_breakDayOf (P.2.2.2.2.2.2.2.2 (t + 1)) v) (f_X7_breakDayOf (P.2.2.2.2.2.2.2.2 (t + 1)) w) := op_breakDayOf h _
  obtain ⟨x, kk, v2, y, w2, hF, hF2, hk, hth, hcd, hxy, hI⟩ := hop
  refine sm_aload_n hG 1440 rfl dL_law_1439 rfl 1 rfl ?_
  refine sl_arg hG (t := t) (j := 1) 1441 1443 1444 1445 1446 rfl rfl rfl rfl rfl 0 4 rfl rfl (by omega) hL rfl dL_law_1440 dL_law_1441 dL_law_1443 dL_law_1444 dL_law_1445 ?_
  refine sm_aload_n hG 1447 rfl dL_law_1446 rfl 3 rfl ?_
  refine sl_callW hG (x := .int (nI (c1 kk))) (v' := m3 v2 w (oK kk (x) o)) [.ref (P.2.2.1 (0, 0, 0)), .int (P.2.2.2.2.2.2.2.2 (t + 1)), .ref P.2.2.2.2.1] 1450 rfl (c_L_breakDayOf hP hfl hF hk hcd) gL_law_L_breakDayOf rfl (by decide) (by decide) (n := 3) rfl (Nat.le_of_ble_eq_true rfl) (cs.1 + rmL_breakDayOf.cells, cs.2 + rmL_breakDayOf.slots) ⟨rfl, rfl⟩ (cq hcs (by decide) (by decide)) rfl dL_law_1447 ?_
  refine sm_istore hG 1452 rfl dL_law_1450 (jlt hN rfl) [(5, .int (nI (c1 kk))), (0, .ref P.2.2.2.2.2.2.1), (1, .ref (P.2.2.1 (0, 0, 0))), (2, .ref (P.2.2.2.1 0)), (3, .ref P.2.2.2.2.1), (4, .int (nI t))] rfl ?_
  refine sm_aload_n hG 1453 rfl dL_law_1452 rfl 3 rfl ?_
  refine sl_arg hG (t := t) (j := 1) 1454 1456 1457 1458 1459 rfl rfl rfl rfl rfl 1 5 rfl rfl (by omega) hL rfl dL_law_1453 dL_law_1454 dL_law_1456 dL_law_1457 dL_law_1458 ?_
  refine sl_callV hG (x := .int y) (v' := m3 v2 w2 (oK kk (x) o)) (.inr (.inl 0)) [.int (P.2.2.2.2.2.2.2.2 (t + 1))] 1462 rfl (okm (lM_ok hP) (by decide)) meS_0 (ci := 7) rfl (lift_M hP (c_X7_breakDayOf (lM_ok hP) hF2)) gL_law_X7_breakDayOf rfl (by decide) (by decide) (n := 1) rfl (Nat.le_of_ble_eq_true rfl) (by decide) (cq hcs (by decide) (by decide)) rfl dL_law_1459 ?_
  refine sm_istore hG 1464 rfl dL_law_1462 (jlt hN rfl) [(6, .int y), (5, .int (nI (c1 kk))), (0, .ref P.2.2.2.2.2.2.1), (1, .ref (P.2.2.1 (0, 0, 0))), (2, .ref (P.2.2.2.1 0)), (3, .ref P.2.2.2.2.1), (4, .int (nI t))] rfl ?_
  refine sm_aload_n hG 1465 rfl dL_law_1464 rfl 4 rfl ?_
  refine sl_callV hG (x := .int (w2 0 12)) (v' := m3 v2 w2 (oK kk (x) o)) (.inr (.inl 0)) [] 1468 rfl (okm (lM_ok hP) (by decide)) meS_0 (ci := 7) rfl (lift_M hP (c_X7_thrown (lM_ok hP) rfl)) gL_law_X7_thrown rfl (by decide) (by decide) (n := 0) rfl (Nat.le_of_ble_eq_true rfl) (by decide) (cq hcs (by decide) (by decide)) rfl dL_law_1465 ?_
  refine sm_iload hG 1470 rfl dL_law_1468 1 rfl ?_
  refine sl_ieq hG 1475 hth dL_law_1470 (by decide) ?_
  refine sm_iload hG 1477 rfl dL_law_1475 1 rfl ?_
  refine sl_ne hG 1492 1480 rfl dL_law_1477 (by decide) (fun hz => ?_) (fun hz => ?_)
  · skip
    refine sm_goto hG 2743 dL_law_1492 (by decide) ?_
    refine sm_loc [2, 3, 4, 5, 6] (lsB P t) rfl ?_
    exact sl_wide (cqe (by decide) (by decide)) (k _ _ _ hI)
  · have hk0 : kk = 0 := hcd.mp (nI_z hz (by unfold c1; split <;> (try split) <;> omega))
    have hxy := hxy hk0
    subst hxy
    refine sm_aload_n hG 1481 rfl dL_law_1480 rfl 5 rfl ?_
    refine sm_iconst (x := (0 : Int32)) hG 1482 rfl dL_law_1481 rfl ?_
    refine sl_oin hG 1483 rfl dL_law_1482 ?_
    rw [oK_0 hk0]
    refine sm_iload hG 1485 rfl dL_law_1483 0 rfl ?_
    refine sl_i2l hG 1486 rfl dL_law_1485 ?_
    refine sl_lcmp hG 1487 rfl dL_law_1486 ?_
    refine sl_eq hG 1492 1490 rfl dL_law_1487 (by decide) (fun _ => ?_) (fun hz => absurd rfl hz)
    refine sm_goto hG 2743 dL_law_1492 (by decide) ?_
    refine sm_loc [2, 3, 4, 5, 6] (lsB P t) rfl ?_
    exact sl_wide (cqe (by decide) (by decide)) (k _ _ _ hI)
set_option maxRecDepth 100000 in
set_option maxHeartbeats 4000000 in
theorem law_22 {P : pS} (hP : Ap P) {Γ : jG Unit} (hG : jOk Γ (lS P) cL_law RL wsL_law room_1) (hN : Γ.2.1 = 7) (hfl : Γ.1.2.1.stackTraces = false) {cs : Nat × Nat} (hcs : cs.1 + 4 ≤ 601024 ∧ cs.2 + 24 ≤ 7293034) {t : Nat} (ht : t + 7 ≤ P.2.2.2.2.2.2.2.1) (hL : P.2.2.2.2.2.2.2.1 ≤ 3584) {v : mC} {w : mM} {o : Nat → Int32} (h : IV v w) (k : ∀ v' w' o', IV v' w' → Sm Γ (lS P) (cs.1 + 4, cs.2 + 24) 2743 (lsB P t) [] (m3 v' w' o') (some ())) : Sm Γ (lS P) cs 1495 (lsB P t) [] (m3 v w o) (some ()) := by
  obtain ⟨x, w2, hF, hF2, hI⟩ := op_nextToBreak h
  refine sm_aload_n hG 1496 rfl dL_law_1495 rfl 1 rfl ?_
  refine sl_callV hG (x := .int x) (v' := m3 v w o) (.inl (0, 0, 0)) [] 1499 rfl (ok0 (lC_ok hP)) ceS_0 (ci := 6) rfl (lift_C hP (c_X6_nextToBreak (lC_ok hP) hF)) gL_law_X6_nextToBreak rfl (by decide) (by decide) (n := 0) rfl (Nat.le_of_ble_eq_true rfl) (by decide) (cq0 hcs) rfl dL_law_1496 ?_
  refine sm_aload_n hG 1500 rfl dL_law_1499 rfl 2 rfl ?_
  refine sl_callV hG (x := .int x) (v' := m3 v w2 o) (.inr (.inl 0)) [] 1503 rfl (okm (lM_ok hP) (by decide)) meS_0 (ci := 7) rfl (lift_M hP (c_X7_nextToBreak (lM_ok hP) hF2)) gL_law_X7_nextToBreak rfl (by decide) (by decide) (n := 0) rfl (Nat.le_of_ble_eq_true rfl) (by decide) (cq0 hcs) rfl dL_law_1500 ?_
  refine sl_ieq hG 2743 rfl dL_law_1503 (by decide) ?_
  exact sl_wide ⟨Nat.le_add_right _ _, Nat.le_add_right _ _⟩ (k _ _ _ hI)
set_option maxRecDepth 100000 in
set_option maxHeartbeats 4000000 in
theorem law_23 {P : pS} (hP : Ap P) {Γ : jG Unit} (hG : jOk Γ (lS P) cL_law RL wsL_law room_1) (hN : Γ.2.1 = 7) (hfl : Γ.1.2.1.stackTraces = false) {cs : Nat × Nat} (hcs : cs.1 + 4 ≤ 601024 ∧ cs.2 + 24 ≤ 7293034) {t : Nat} (ht : t + 7 ≤ P.2.2.2.2.2.2.2.1) (hL : P.2.2.2.2.2.2.2.1 ≤ 3584) {v : mC} {w : mM} {o : Nat → Int32} (h : IV v w) (k : ∀ v' w' o', IV v' w' → Sm Γ (lS P) (cs.1 + 4, cs.2 + 24) 2743 (lsB P t) [] (m3 v' w' o') (some ())) : Sm Γ (lS P) cs 1508 (lsB P t) [] (m3 v w o) (some ()) := by
  have hop : Op c1 (f_X6_choirOf (P.2.2.2.2.2.2.2.2 (t + 1)) v) (f_X7_choirOf (P.2.2.2.2.2.2.2.2 (t + 1)) w) := op_choirOf h _
  obtain ⟨x, kk, v2, y, w2, hF, hF2, hk, hth, hcd, hxy, hI⟩ := hop
  refine sm_aload_n hG 1509 rfl dL_law_1508 rfl 1 rfl ?_
  refine sl_arg hG (t := t) (j := 1) 1510 1512 1513 1514 1515 rfl rfl rfl rfl rfl 0 4 rfl rfl (by omega) hL rfl dL_law_1509 dL_law_1510 dL_law_1512 dL_law_1513 dL_law_1514 ?_
  refine sm_aload_n hG 1516 rfl dL_law_1515 rfl 3 rfl ?_
  refine sl_callW hG (x := .int (nI (c1 kk))) (v' := m3 v2 w (oK kk (x) o)) [.ref (P.2.2.1 (0, 0, 0)), .int (P.2.2.2.2.2.2.2.2 (t + 1)), .ref P.2.2.2.2.1] 1519 rfl (c_L_choirOf hP hfl hF hk hcd) gL_law_L_choirOf rfl (by decide) (by decide) (n := 3) rfl (Nat.le_of_ble_eq_true rfl) (cs.1 + rmL_choirOf.cells, cs.2 + rmL_choirOf.slots) ⟨rfl, rfl⟩ (cq hcs (by decide) (by decide)) rfl dL_law_1516 ?_
  refine sm_istore hG 1521 rfl dL_law_1519 (jlt hN rfl) [(5, .int (nI (c1 kk))), (0, .ref P.2.2.2.2.2.2.1), (1, .ref (P.2.2.1 (0, 0, 0))), (2, .ref (P.2.2.2.1 0)), (3, .ref P.2.2.2.2.1), (4, .int (nI t))] rfl ?_
  refine sm_aload_n hG 1522 rfl dL_law_1521 rfl 3 rfl ?_
  refine sl_arg hG (t := t) (j := 1) 1523 1525 1526 1527 1528 rfl rfl rfl rfl rfl 1 5 rfl rfl (by omega) hL rfl dL_law_1522 dL_law_1523 dL_law_1525 dL_law_1526 dL_law_1527 ?_
  refine sl_callV hG (x := .int y) (v' := m3 v2 w2 (oK kk (x) o)) (.inr (.inl 0)) [.int (P.2.2.2.2.2.2.2.2 (t + 1))] 1531 rfl (okm (lM_ok hP) (by decide)) meS_0 (ci := 7) rfl (lift_M hP (c_X7_choirOf (lM_ok hP) hF2)) gL_law_X7_choirOf rfl (by decide) (by decide) (n := 1) rfl (Nat.le_of_ble_eq_true rfl) (by decide) (cq hcs (by decide) (by decide)) rfl dL_law_1528 ?_
  refine sm_istore hG 1533 rfl dL_law_1531 (jlt hN rfl) [(6, .int y), (5, .int (nI (c1 kk))), (0, .ref P.2.2.2.2.2.2.1), (1, .ref (P.2.2.1 (0, 0, 0))), (2, .ref (P.2.2.2.1 0)), (3, .ref P.2.2.2.2.1), (4, .int (nI t))] rfl ?_
  refine sm_aload_n hG 1534 rfl dL_law_1533 rfl 4 rfl ?_
  refine sl_callV hG (x := .int (w2 0 12)) (v' := m3 v2 w2 (oK kk (x) o)) (.inr (.inl 0)) [] 1537 rfl (okm (lM_ok hP) (by decide)) meS_0 (ci := 7) rfl (lift_M hP (c_X7_thrown (lM_ok hP) rfl)) gL_law_X7_thrown rfl (by decide) (by decide) (n := 0) rfl (Nat.le_of_ble_eq_true rfl) (by decide) (cq hcs (by decide) (by decide)) rfl dL_law_1534 ?_
  refine sm_iload hG 1539 rfl dL_law_1537 1 rfl ?_
  refine sl_ieq hG 1544 hth dL_law_1539 (by decide) ?_
  refine sm_iload hG 1546 rfl dL_law_1544 1 rfl ?_
  refine sl_ne hG 1561 1549 rfl dL_law_1546 (by decide) (fun hz => ?_) (fun hz => ?_)
  · skip
    refine sm_goto hG 2743 dL_law_1561 (by decide) ?_
    refine sm_loc [2, 3, 4, 5, 6] (lsB P t) rfl ?_
    exact sl_wide (cqe (by decide) (by decide)) (k _ _ _ hI)
  · have hk0 : kk = 0 := hcd.mp (nI_z hz (by unfold c1; split <;> (try split) <;> omega))
    have hxy := hxy hk0
    subst hxy
    refine sm_aload_n hG 1550 rfl dL_law_1549 rfl 5 rfl ?_
    refine sm_iconst (x := (0 : Int32)) hG 1551 rfl dL_law_1550 rfl ?_
    refine sl_oin hG 1552 rfl dL_law_1551 ?_
    rw [oK_0 hk0]
    refine sm_iload hG 1554 rfl dL_law_1552 0 rfl ?_
    refine sl_i2l hG 1555 rfl dL_law_1554 ?_
    refine sl_lcmp hG 1556 rfl dL_law_1555 ?_
    refine sl_eq hG 1561 1559 rfl dL_law_1556 (by decide) (fun _ => ?_) (fun hz => absurd rfl hz)
    refine sm_goto hG 2743 dL_law_1561 (by decide) ?_
    refine sm_loc [2, 3, 4, 5, 6] (lsB P t) rfl ?_
    exact sl_wide (cqe (by decide) (by decide)) (k _ _ _ hI)
set_option maxRecDepth 100000 in
set_option maxHeartbeats 4000000 in
theorem law_24 {P : pS} (hP : Ap P) {Γ : jG Unit} (hG : jOk Γ (lS P) cL_law RL wsL_law room_1) (hN : Γ.2.1 = 7) (hfl : Γ.1.2.1.stackTraces = false) {cs : Nat × Nat} (hcs : cs.1 + 4 ≤ 601024 ∧ cs.2 + 24 ≤ 7293034) {t : Nat} (ht : t + 7 ≤ P.2.2.2.2.2.2.2.1) (hL : P.2.2.2.2.2.2.2.1 ≤ 3584) {v : mC} {w : mM} {o : Nat → Int32} (h : IV v w) (k : ∀ v' w' o', IV v' w' → Sm Γ (lS P) (cs.1 + 4, cs.2 + 24) 2743 (lsB P t) [] (m3 v' w' o') (some ())) : Sm Γ (lS P) cs 1564 (lsB P t) [] (m3 v w o) (some ()) := by
  have hop : Op c1 (f_X6_awayUntil (P.2.2.2.2.2.2.2.2 (t + 1)) v) (f_X7_awayUntil (P.2.2.2.2.2.2.2.2 (t + 1)) w) := op_awayUntil h _
  obtain ⟨x, kk, v2, y, w2, hF, hF2, hk, hth, hcd, hxy, hI⟩ := hop
  refine sm_aload_n hG 1565 rfl dL_law_1564 rfl 1 rfl ?_
  refine sl_arg hG (t := t) (j := 1) 1566 1568 1569 1570 1571 rfl rfl rfl rfl rfl 0 4 rfl rfl (by omega) hL rfl dL_law_1565 dL_law_1566 dL_law_1568 dL_law_1569 dL_law_1570 ?_
  refine sm_aload_n hG 1572 rfl dL_law_1571 rfl 3 rfl ?_
  refine sl_callW hG (x := .int (nI (c1 kk))) (v' := m3 v2 w (oK kk (x) o)) [.ref (P.2.2.1 (0, 0, 0)), .int (P.2.2.2.2.2.2.2.2 (t + 1)), .ref P.2.2.2.2.1] 1575 rfl (c_L_awayUntil hP hfl hF hk hcd) gL_law_L_awayUntil rfl (by decide) (by decide) (n := 3) rfl (Nat.le_of_ble_eq_true rfl) (cs.1 + rmL_awayUntil.cells, cs.2 + rmL_awayUntil.slots) ⟨rfl, rfl⟩ (cq hcs (by decide) (by decide)) rfl dL_law_1572 ?_
  refine sm_istore hG 1577 rfl dL_law_1575 (jlt hN rfl) [(5, .int (nI (c1 kk))), (0, .ref P.2.2.2.2.2.2.1), (1, .ref (P.2.2.1 (0, 0, 0))), (2, .ref (P.2.2.2.1 0)), (3, .ref P.2.2.2.2.1), (4, .int (nI t))] rfl ?_
  refine sm_aload_n hG 1578 rfl dL_law_1577 rfl 3 rfl ?_
  refine sl_arg hG (t := t) (j := 1) 1579 1581 1582 1583 1584 rfl rfl rfl rfl rfl 1 5 rfl rfl (by omega) hL rfl dL_law_1578 dL_law_1579 dL_law_1581 dL_law_1582 dL_law_1583 ?_
  refine sl_callV hG (x := .int y) (v' := m3 v2 w2 (oK kk (x) o)) (.inr (.inl 0)) [.int (P.2.2.2.2.2.2.2.2 (t + 1))] 1587 rfl (okm (lM_ok hP) (by decide)) meS_0 (ci := 7) rfl (lift_M hP (c_X7_awayUntil (lM_ok hP) hF2)) gL_law_X7_awayUntil rfl (by decide) (by decide) (n := 1) rfl (Nat.le_of_ble_eq_true rfl) (by decide) (cq hcs (by decide) (by decide)) rfl dL_law_1584 ?_
  refine sm_istore hG 1589 rfl dL_law_1587 (jlt hN rfl) [(6, .int y), (5, .int (nI (c1 kk))), (0, .ref P.2.2.2.2.2.2.1), (1, .ref (P.2.2.1 (0, 0, 0))), (2, .ref (P.2.2.2.1 0)), (3, .ref P.2.2.2.2.1), (4, .int (nI t))] rfl ?_
  refine sm_aload_n hG 1590 rfl dL_law_1589 rfl 4 rfl ?_
  refine sl_callV hG (x := .int (w2 0 12)) (v' := m3 v2 w2 (oK kk (x) o)) (.inr (.inl 0)) [] 1593 rfl (okm (lM_ok hP) (by decide)) meS_0 (ci := 7) rfl (lift_M hP (c_X7_thrown (lM_ok hP) rfl)) gL_law_X7_thrown rfl (by decide) (by decide) (n := 0) rfl (Nat.le_of_ble_eq_true rfl) (by decide) (cq hcs (by decide) (by decide)) rfl dL_law_1590 ?_
  refine sm_iload hG 1595 rfl dL_law_1593 1 rfl ?_
  refine sl_ieq hG 1600 hth dL_law_1595 (by decide) ?_
  refine sm_iload hG 1602 rfl dL_law_1600 1 rfl ?_
  refine sl_ne hG 1617 1605 rfl dL_law_1602 (by decide) (fun hz => ?_) (fun hz => ?_)
  · skip
    refine sm_goto hG 2743 dL_law_1617 (by decide) ?_
    refine sm_loc [2, 3, 4, 5, 6] (lsB P t) rfl ?_
    exact sl_wide (cqe (by decide) (by decide)) (k _ _ _ hI)
  · have hk0 : kk = 0 := hcd.mp (nI_z hz (by unfold c1; split <;> (try split) <;> omega))
    have hxy := hxy hk0
    subst hxy
    refine sm_aload_n hG 1606 rfl dL_law_1605 rfl 5 rfl ?_
    refine sm_iconst (x := (0 : Int32)) hG 1607 rfl dL_law_1606 rfl ?_
    refine sl_oin hG 1608 rfl dL_law_1607 ?_
    rw [oK_0 hk0]
    refine sm_iload hG 1610 rfl dL_law_1608 0 rfl ?_
    refine sl_i2l hG 1611 rfl dL_law_1610 ?_
    refine sl_lcmp hG 1612 rfl dL_law_1611 ?_
    refine sl_eq hG 1617 1615 rfl dL_law_1612 (by decide) (fun _ => ?_) (fun hz => absurd rfl hz)
    refine sm_goto hG 2743 dL_law_1617 (by decide) ?_
    refine sm_loc [2, 3, 4, 5, 6] (lsB P t) rfl ?_
    exact sl_wide (cqe (by decide) (by decide)) (k _ _ _ hI)
set_option maxRecDepth 100000 in
set_option maxHeartbeats 4000000 in
theorem law_25 {P : pS} (hP : Ap P) {Γ : jG Unit} (hG : jOk Γ (lS P) cL_law RL wsL_law room_1) (hN : Γ.2.1 = 7) (hfl : Γ.1.2.1.stackTraces = false) {cs : Nat × Nat} (hcs : cs.1 + 4 ≤ 601024 ∧ cs.2 + 24 ≤ 7293034) {t : Nat} (ht : t + 7 ≤ P.2.2.2.2.2.2.2.1) (hL : P.2.2.2.2.2.2.2.1 ≤ 3584) {v : mC} {w : mM} {o : Nat → Int32} (h : IV v w) (k : ∀ v' w' o', IV v' w' → Sm Γ (lS P) (cs.1 + 4, cs.2 + 24) 2743 (lsB P t) [] (m3 v' w' o') (some ())) : Sm Γ (lS P) cs 1620 (lsB P t) [] (m3 v w o) (some ()) := by
  have hop : Op c12 (f_X6_isExcused (P.2.2.2.2.2.2.2.2 (t + 1)) (P.2.2.2.2.2.2.2.2 (t + 2)) v) (f_X7_isExcused (P.2.2.2.2.2.2.2.2 (t + 1)) (P.2.2.2.2.2.2.2.2 (t + 2)) w) := op_isExcused h _ _
  obtain ⟨x, kk, v2, y, w2, hF, hF2, hk, hth, hcd, hxy, hI⟩ := hop
  refine sm_aload_n hG 1621 rfl dL_law_1620 rfl 1 rfl ?_
  refine sl_arg hG (t := t) (j := 1) 1622 1624 1625 1626 1627 rfl rfl rfl rfl rfl 0 4 rfl rfl (by omega) hL rfl dL_law_1621 dL_law_1622 dL_law_1624 dL_law_1625 dL_law_1626 ?_
  refine sl_arg hG (t := t) (j := 2) 1628 1630 1631 1632 1633 rfl rfl rfl rfl rfl 0 4 rfl rfl (by omega) hL rfl dL_law_1627 dL_law_1628 dL_law_1630 dL_law_1631 dL_law_1632 ?_
  refine sm_aload_n hG 1634 rfl dL_law_1633 rfl 3 rfl ?_
  refine sl_callW hG (x := .int (nI (c12 kk))) (v' := m3 v2 w (oK kk (bz x) o)) [.ref (P.2.2.1 (0, 0, 0)), .int (P.2.2.2.2.2.2.2.2 (t + 1)), .int (P.2.2.2.2.2.2.2.2 (t + 2)), .ref P.2.2.2.2.1] 1637 rfl (c_L_isExcused hP hfl hF hk hcd) gL_law_L_isExcused rfl (by decide) (by decide) (n := 4) rfl (Nat.le_of_ble_eq_true rfl) (cs.1 + rmL_isExcused.cells, cs.2 + rmL_isExcused.slots) ⟨rfl, rfl⟩ (cq hcs (by decide) (by decide)) rfl dL_law_1634 ?_
  refine sm_istore hG 1639 rfl dL_law_1637 (jlt hN rfl) [(5, .int (nI (c12 kk))), (0, .ref P.2.2.2.2.2.2.1), (1, .ref (P.2.2.1 (0, 0, 0))), (2, .ref (P.2.2.2.1 0)), (3, .ref P.2.2.2.2.1), (4, .int (nI t))] rfl ?_
  refine sm_aload_n hG 1640 rfl dL_law_1639 rfl 3 rfl ?_
  refine sl_arg hG (t := t) (j := 1) 1641 1643 1644 1645 1646 rfl rfl rfl rfl rfl 1 5 rfl rfl (by omega) hL rfl dL_law_1640 dL_law_1641 dL_law_1643 dL_law_1644 dL_law_1645 ?_
  refine sl_arg hG (t := t) (j := 2) 1647 1649 1650 1651 1652 rfl rfl rfl rfl rfl 1 5 rfl rfl (by omega) hL rfl dL_law_1646 dL_law_1647 dL_law_1649 dL_law_1650 dL_law_1651 ?_
  refine sl_callV hG (x := .int y) (v' := m3 v2 w2 (oK kk (bz x) o)) (.inr (.inl 0)) [.int (P.2.2.2.2.2.2.2.2 (t + 1)), .int (P.2.2.2.2.2.2.2.2 (t + 2))] 1655 rfl (okm (lM_ok hP) (by decide)) meS_0 (ci := 7) rfl (lift_M hP (c_X7_isExcused (lM_ok hP) hF2)) gL_law_X7_isExcused rfl (by decide) (by decide) (n := 2) rfl (Nat.le_of_ble_eq_true rfl) (by decide) (cq hcs (by decide) (by decide)) rfl dL_law_1652 ?_
  refine sm_istore hG 1657 rfl dL_law_1655 (jlt hN rfl) [(6, .int y), (5, .int (nI (c12 kk))), (0, .ref P.2.2.2.2.2.2.1), (1, .ref (P.2.2.1 (0, 0, 0))), (2, .ref (P.2.2.2.1 0)), (3, .ref P.2.2.2.2.1), (4, .int (nI t))] rfl ?_
  refine sm_aload_n hG 1658 rfl dL_law_1657 rfl 4 rfl ?_
  refine sl_callV hG (x := .int (w2 0 12)) (v' := m3 v2 w2 (oK kk (bz x) o)) (.inr (.inl 0)) [] 1661 rfl (okm (lM_ok hP) (by decide)) meS_0 (ci := 7) rfl (lift_M hP (c_X7_thrown (lM_ok hP) rfl)) gL_law_X7_thrown rfl (by decide) (by decide) (n := 0) rfl (Nat.le_of_ble_eq_true rfl) (by decide) (cq hcs (by decide) (by decide)) rfl dL_law_1658 ?_
  refine sm_iload hG 1663 rfl dL_law_1661 1 rfl ?_
  refine sl_ieq hG 1668 hth dL_law_1663 (by decide) ?_
  refine sm_iload hG 1670 rfl dL_law_1668 1 rfl ?_
  refine sl_ne hG 1692 1673 rfl dL_law_1670 (by decide) (fun hz => ?_) (fun hz => ?_)
  · skip
    refine sm_goto hG 2743 dL_law_1692 (by decide) ?_
    refine sm_loc [2, 3, 4, 5, 6] (lsB P t) rfl ?_
    exact sl_wide (cqe (by decide) (by decide)) (k _ _ _ hI)
  · have hk0 : kk = 0 := hcd.mp (nI_z hz (by unfold c12; split <;> (try split) <;> omega))
    have hxy := hxy hk0
    subst hxy
    refine sm_aload_n hG 1674 rfl dL_law_1673 rfl 5 rfl ?_
    refine sm_iconst (x := (0 : Int32)) hG 1675 rfl dL_law_1674 rfl ?_
    refine sl_oin hG 1676 rfl dL_law_1675 ?_
    rw [oK_0 hk0]
    refine sm_iload hG 1678 rfl dL_law_1676 0 rfl ?_
    refine sl_eq hG 1685 1681 rfl dL_law_1678 (by decide) (fun hb => ?_) (fun hb => ?_)
    · rw [bz_0 hb]
      refine sl_lconst hG 0 1686 rfl dL_law_1685 rfl ?_
      refine sl_lcmp hG 1687 rfl dL_law_1686 ?_
      refine sl_eq hG 1692 1690 rfl dL_law_1687 (by decide) (fun _ => ?_) (fun hz => absurd rfl hz)
      refine sm_goto hG 2743 dL_law_1692 (by decide) ?_
      refine sm_loc [2, 3, 4, 5, 6] (lsB P t) rfl ?_
      exact sl_wide (cqe (by decide) (by decide)) (k _ _ _ hI)
    · rw [bz_1 hb]
      refine sl_lconst hG 1 1682 rfl dL_law_1681 rfl ?_
      refine sm_goto hG 1686 dL_law_1682 (by decide) ?_
      refine sl_lcmp hG 1687 rfl dL_law_1686 ?_
      refine sl_eq hG 1692 1690 rfl dL_law_1687 (by decide) (fun _ => ?_) (fun hz => absurd rfl hz)
      refine sm_goto hG 2743 dL_law_1692 (by decide) ?_
      refine sm_loc [2, 3, 4, 5, 6] (lsB P t) rfl ?_
      exact sl_wide (cqe (by decide) (by decide)) (k _ _ _ hI)
set_option maxRecDepth 100000 in
set_option maxHeartbeats 4000000 in
theorem law_26 {P : pS} (hP : Ap P) {Γ : jG Unit} (hG : jOk Γ (lS P) cL_law RL wsL_law room_1) (hN : Γ.2.1 = 7) (hfl : Γ.1.2.1.stackTraces = false) {cs : Nat × Nat} (hcs : cs.1 + 4 ≤ 601024 ∧ cs.2 + 24 ≤ 7293034) {t : Nat} (ht : t + 7 ≤ P.2.2.2.2.2.2.2.1) (hL : P.2.2.2.2.2.2.2.1 ≤ 3584) {v : mC} {w : mM} {o : Nat → Int32} (h : IV v w) (k : ∀ v' w' o', IV v' w' → Sm Γ (lS P) (cs.1 + 4, cs.2 + 24) 2743 (lsB P t) [] (m3 v' w' o') (some ())) : Sm Γ (lS P) cs 1695 (lsB P t) [] (m3 v w o) (some ()) := by
  have hop : Op c1 (f_X6_feastsOf (P.2.2.2.2.2.2.2.2 (t + 1)) v) (f_X7_feastsOf (P.2.2.2.2.2.2.2.2 (t + 1)) w) := op_feastsOf h _
  obtain ⟨x, kk, v2, y, w2, hF, hF2, hk, hth, hcd, hxy, hI⟩ := hop
  refine sm_aload_n hG 1696 rfl dL_law_1695 rfl 1 rfl ?_
  refine sl_arg hG (t := t) (j := 1) 1697 1699 1700 1701 1702 rfl rfl rfl rfl rfl 0 4 rfl rfl (by omega) hL rfl dL_law_1696 dL_law_1697 dL_law_1699 dL_law_1700 dL_law_1701 ?_
  refine sm_aload_n hG 1703 rfl dL_law_1702 rfl 3 rfl ?_
  refine sl_callW hG (x := .int (nI (c1 kk))) (v' := m3 v2 w (oK kk (x) o)) [.ref (P.2.2.1 (0, 0, 0)), .int (P.2.2.2.2.2.2.2.2 (t + 1)), .ref P.2.2.2.2.1] 1706 rfl (c_L_feastsOf hP hfl hF hk hcd) gL_law_L_feastsOf rfl (by decide) (by decide) (n := 3) rfl (Nat.le_of_ble_eq_true rfl) (cs.1 + rmL_feastsOf.cells, cs.2 + rmL_feastsOf.slots) ⟨rfl, rfl⟩ (cq hcs (by decide) (by decide)) rfl dL_law_1703 ?_
  refine sm_istore hG 1708 rfl dL_law_1706 (jlt hN rfl) [(5, .int (nI (c1 kk))), (0, .ref P.2.2.2.2.2.2.1), (1, .ref (P.2.2.1 (0, 0, 0))), (2, .ref (P.2.2.2.1 0)), (3, .ref P.2.2.2.2.1), (4, .int (nI t))] rfl ?_
  refine sm_aload_n hG 1709 rfl dL_law_1708 rfl 3 rfl ?_
  refine sl_arg hG (t := t) (j := 1) 1710 1712 1713 1714 1715 rfl rfl rfl rfl rfl 1 5 rfl rfl (by omega) hL rfl dL_law_1709 dL_law_1710 dL_law_1712 dL_law_1713 dL_law_1714 ?_
  refine sl_callV hG (x := .int y) (v' := m3 v2 w2 (oK kk (x) o)) (.inr (.inl 0)) [.int (P.2.2.2.2.2.2.2.2 (t + 1))] 1718 rfl (okm (lM_ok hP) (by decide)) meS_0 (ci := 7) rfl (lift_M hP (c_X7_feastsOf (lM_ok hP) hF2)) gL_law_X7_feastsOf rfl (by decide) (by decide) (n := 1) rfl (Nat.le_of_ble_eq_true rfl) (by decide) (cq hcs (by decide) (by decide)) rfl dL_law_1715 ?_
  refine sm_istore hG 1720 rfl dL_law_1718 (jlt hN rfl) [(6, .int y), (5, .int (nI (c1 kk))), (0, .ref P.2.2.2.2.2.2.1), (1, .ref (P.2.2.1 (0, 0, 0))), (2, .ref (P.2.2.2.1 0)), (3, .ref P.2.2.2.2.1), (4, .int (nI t))] rfl ?_
  refine sm_aload_n hG 1721 rfl dL_law_1720 rfl 4 rfl ?_
  refine sl_callV hG (x := .int (w2 0 12)) (v' := m3 v2 w2 (oK kk (x) o)) (.inr (.inl 0)) [] 1724 rfl (okm (lM_ok hP) (by decide)) meS_0 (ci := 7) rfl (lift_M hP (c_X7_thrown (lM_ok hP) rfl)) gL_law_X7_thrown rfl (by decide) (by decide) (n := 0) rfl (Nat.le_of_ble_eq_true rfl) (by decide) (cq hcs (by decide) (by decide)) rfl dL_law_1721 ?_
  refine sm_iload hG 1726 rfl dL_law_1724 1 rfl ?_
  refine sl_ieq hG 1731 hth dL_law_1726 (by decide) ?_
  refine sm_iload hG 1733 rfl dL_law_1731 1 rfl ?_
  refine sl_ne hG 1748 1736 rfl dL_law_1733 (by decide) (fun hz => ?_) (fun hz => ?_)
  · skip
    refine sm_goto hG 2743 dL_law_1748 (by decide) ?_
    refine sm_loc [2, 3, 4, 5, 6] (lsB P t) rfl ?_
    exact sl_wide (cqe (by decide) (by decide)) (k _ _ _ hI)
  · have hk0 : kk = 0 := hcd.mp (nI_z hz (by unfold c1; split <;> (try split) <;> omega))
    have hxy := hxy hk0
    subst hxy
    refine sm_aload_n hG 1737 rfl dL_law_1736 rfl 5 rfl ?_
    refine sm_iconst (x := (0 : Int32)) hG 1738 rfl dL_law_1737 rfl ?_
    refine sl_oin hG 1739 rfl dL_law_1738 ?_
    rw [oK_0 hk0]
    refine sm_iload hG 1741 rfl dL_law_1739 0 rfl ?_
    refine sl_i2l hG 1742 rfl dL_law_1741 ?_
    refine sl_lcmp hG 1743 rfl dL_law_1742 ?_
    refine sl_eq hG 1748 1746 rfl dL_law_1743 (by decide) (fun _ => ?_) (fun hz => absurd rfl hz)
    refine sm_goto hG 2743 dL_law_1748 (by decide) ?_
    refine sm_loc [2, 3, 4, 5, 6] (lsB P t) rfl ?_
    exact sl_wide (cqe (by decide) (by decide)) (k _ _ _ hI)
set_option maxRecDepth 100000 in
set_option maxHeartbeats 4000000 in
theorem law_27 {P : pS} (hP : Ap P) {Γ : jG Unit} (hG : jOk Γ (lS P) cL_law RL wsL_law room_1) (hN : Γ.2.1 = 7) (hfl : Γ.1.2.1.stackTraces = false) {cs : Nat × Nat} (hcs : cs.1 + 4 ≤ 601024 ∧ cs.2 + 24 ≤ 7293034) {t : Nat} (ht : t + 7 ≤ P.2.2.2.2.2.2.2.1) (hL : P.2.2.2.2.2.2.2.1 ≤ 3584) {v : mC} {w : mM} {o : Nat → Int32} (h : IV v w) (k : ∀ v' w' o', IV v' w' → Sm Γ (lS P) (cs.1 + 4, cs.2 + 24) 2743 (lsB P t) [] (m3 v' w' o') (some ())) : Sm Γ (lS P) cs 1751 (lsB P t) [] (m3 v w o) (some ()) := by
  have hop : Op c1 (f_X6_descantsOf (P.2.2.2.2.2.2.2.2 (t + 1)) v) (f_X7_descantsOf (P.2.2.2.2.2.2.2.2 (t + 1)) w) := op_descantsOf h _
  obtain ⟨x, kk, v2, y, w2, hF, hF2, hk, hth, hcd, hxy, hI⟩ := hop
  refine sm_aload_n hG 1752 rfl dL_law_1751 rfl 1 rfl ?_
  refine sl_arg hG (t := t) (j := 1) 1753 1755 1756 1757 1758 rfl rfl rfl rfl rfl 0 4 rfl rfl (by omega) hL rfl dL_law_1752 dL_law_1753 dL_law_1755 dL_law_1756 dL_law_1757 ?_
  refine sm_aload_n hG 1759 rfl dL_law_1758 rfl 3 rfl ?_
  refine sl_callW hG (x := .int (nI (c1 kk))) (v' := m3 v2 w (oK kk (x) o)) [.ref (P.2.2.1 (0, 0, 0)), .int (P.2.2.2.2.2.2.2.2 (t + 1)), .ref P.2.2.2.2.1] 1762 rfl (c_L_descantsOf hP hfl hF hk hcd) gL_law_L_descantsOf rfl (by decide) (by decide) (n := 3) rfl (Nat.le_of_ble_eq_true rfl) (cs.1 + rmL_descantsOf.cells, cs.2 + rmL_descantsOf.slots) ⟨rfl, rfl⟩ (cq hcs (by decide) (by decide)) rfl dL_law_1759 ?_
  refine sm_istore hG 1764 rfl dL_law_1762 (jlt hN rfl) [(5, .int (nI (c1 kk))), (0, .ref P.2.2.2.2.2.2.1), (1, .ref (P.2.2.1 (0, 0, 0))), (2, .ref (P.2.2.2.1 0)), (3, .ref P.2.2.2.2.1), (4, .int (nI t))] rfl ?_
  refine sm_aload_n hG 1765 rfl dL_law_1764 rfl 3 rfl ?_
  refine sl_arg hG (t := t) (j := 1) 1766 1768 1769 1770 1771 rfl rfl rfl rfl rfl 1 5 rfl rfl (by omega) hL rfl dL_law_1765 dL_law_1766 dL_law_1768 dL_law_1769 dL_law_1770 ?_
  refine sl_callV hG (x := .int y) (v' := m3 v2 w2 (oK kk (x) o)) (.inr (.inl 0)) [.int (P.2.2.2.2.2.2.2.2 (t + 1))] 1774 rfl (okm (lM_ok hP) (by decide)) meS_0 (ci := 7) rfl (lift_M hP (c_X7_descantsOf (lM_ok hP) hF2)) gL_law_X7_descantsOf rfl (by decide) (by decide) (n := 1) rfl (Nat.le_of_ble_eq_true rfl) (by decide) (cq hcs (by decide) (by decide)) rfl dL_law_1771 ?_
  refine sm_istore hG 1776 rfl dL_law_1774 (jlt hN rfl) [(6, .int y), (5, .int (nI (c1 kk))), (0, .ref P.2.2.2.2.2.2.1), (1, .ref (P.2.2.1 (0, 0, 0))), (2, .ref (P.2.2.2.1 0)), (3, .ref P.2.2.2.2.1), (4, .int (nI t))] rfl ?_
  refine sm_aload_n hG 1777 rfl dL_law_1776 rfl 4 rfl ?_
  refine sl_callV hG (x := .int (w2 0 12)) (v' := m3 v2 w2 (oK kk (x) o)) (.inr (.inl 0)) [] 1780 rfl (okm (lM_ok hP) (by decide)) meS_0 (ci := 7) rfl (lift_M hP (c_X7_thrown (lM_ok hP) rfl)) gL_law_X7_thrown rfl (by decide) (by decide) (n := 0) rfl (Nat.le_of_ble_eq_true rfl) (by decide) (cq hcs (by decide) (by decide)) rfl dL_law_1777 ?_
  refine sm_iload hG 1782 rfl dL_law_1780 1 rfl ?_
  refine sl_ieq hG 1787 hth dL_law_1782 (by decide) ?_
  refine sm_iload hG 1789 rfl dL_law_1787 1 rfl ?_
  refine sl_ne hG 1804 1792 rfl dL_law_1789 (by decide) (fun hz => ?_) (fun hz => ?_)
  · skip
    refine sm_goto hG 2743 dL_law_1804 (by decide) ?_
    refine sm_loc [2, 3, 4, 5, 6] (lsB P t) rfl ?_
    exact sl_wide (cqe (by decide) (by decide)) (k _ _ _ hI)
  · have hk0 : kk = 0 := hcd.mp (nI_z hz (by unfold c1; split <;> (try split) <;> omega))
    have hxy := hxy hk0
    subst hxy
    refine sm_aload_n hG 1793 rfl dL_law_1792 rfl 5 rfl ?_
    refine sm_iconst (x := (0 : Int32)) hG 1794 rfl dL_law_1793 rfl ?_
    refine sl_oin hG 1795 rfl dL_law_1794 ?_
    rw [oK_0 hk0]
    refine sm_iload hG 1797 rfl dL_law_1795 0 rfl ?_
    refine sl_i2l hG 1798 rfl dL_law_1797 ?_
    refine sl_lcmp hG 1799 rfl dL_law_1798 ?_
    refine sl_eq hG 1804 1802 rfl dL_law_1799 (by decide) (fun _ => ?_) (fun hz => absurd rfl hz)
    refine sm_goto hG 2743 dL_law_1804 (by decide) ?_
    refine sm_loc [2, 3, 4, 5, 6] (lsB P t) rfl ?_
    exact sl_wide (cqe (by decide) (by decide)) (k _ _ _ hI)
set_option maxRecDepth 100000 in
set_option maxHeartbeats 4000000 in
theorem law_28 {P : pS} (hP : Ap P) {Γ : jG Unit} (hG : jOk Γ (lS P) cL_law RL wsL_law room_1) (hN : Γ.2.1 = 7) (hfl : Γ.1.2.1.stackTraces = false) {cs : Nat × Nat} (hcs : cs.1 + 4 ≤ 601024 ∧ cs.2 + 24 ≤ 7293034) {t : Nat} (ht : t + 7 ≤ P.2.2.2.2.2.2.2.1) (hL : P.2.2.2.2.2.2.2.1 ≤ 3584) {v : mC} {w : mM} {o : Nat → Int32} (h : IV v w) (k : ∀ v' w' o', IV v' w' → Sm Γ (lS P) (cs.1 + 4, cs.2 + 24) 2743 (lsB P t) [] (m3 v' w' o') (some ())) : Sm Γ (lS P) cs 1807 (lsB P t) [] (m3 v w o) (some ()) := by
  obtain ⟨x, w2, hF, hF2, hI⟩ := op_feasts h
  refine sm_aload_n hG 1808 rfl dL_law_1807 rfl 1 rfl ?_
  refine sl_callV hG (x := .int x) (v' := m3 v w o) (.inl (0, 0, 0)) [] 1811 rfl (ok0 (lC_ok hP)) ceS_0 (ci := 6) rfl (lift_C hP (c_X6_feasts (lC_ok hP) hF)) gL_law_X6_feasts rfl (by decide) (by decide) (n := 0) rfl (Nat.le_of_ble_eq_true rfl) (by decide) (cq0 hcs) rfl dL_law_1808 ?_
  refine sm_aload_n hG 1812 rfl dL_law_1811 rfl 2 rfl ?_
  refine sl_callV hG (x := .int x) (v' := m3 v w2 o) (.inr (.inl 0)) [] 1815 rfl (okm (lM_ok hP) (by decide)) meS_0 (ci := 7) rfl (lift_M hP (c_X7_feasts (lM_ok hP) hF2)) gL_law_X7_feasts rfl (by decide) (by decide) (n := 0) rfl (Nat.le_of_ble_eq_true rfl) (by decide) (cq0 hcs) rfl dL_law_1812 ?_
  refine sl_ieq hG 2743 rfl dL_law_1815 (by decide) ?_
  exact sl_wide ⟨Nat.le_add_right _ _, Nat.le_add_right _ _⟩ (k _ _ _ hI)
set_option maxRecDepth 100000 in
set_option maxHeartbeats 4000000 in
theorem law_29 {P : pS} (hP : Ap P) {Γ : jG Unit} (hG : jOk Γ (lS P) cL_law RL wsL_law room_1) (hN : Γ.2.1 = 7) (hfl : Γ.1.2.1.stackTraces = false) {cs : Nat × Nat} (hcs : cs.1 + 4 ≤ 601024 ∧ cs.2 + 24 ≤ 7293034) {t : Nat} (ht : t + 7 ≤ P.2.2.2.2.2.2.2.1) (hL : P.2.2.2.2.2.2.2.1 ≤ 3584) {v : mC} {w : mM} {o : Nat → Int32} (h : IV v w) (k : ∀ v' w' o', IV v' w' → Sm Γ (lS P) (cs.1 + 4, cs.2 + 24) 2743 (lsB P t) [] (m3 v' w' o') (some ())) : Sm Γ (lS P) cs 1820 (lsB P t) [] (m3 v w o) (some ()) := by
  have hop : Op c1 (f_X6_dayOf (P.2.2.2.2.2.2.2.2 (t + 1)) v) (f_X7_dayOf (P.2.2.2.2.2.2.2.2 (t + 1)) w) := op_dayOf h _
  obtain ⟨x, kk, v2, y, w2, hF, hF2, hk, hth, hcd, hxy, hI⟩ := hop
  refine sm_aload_n hG 1821 rfl dL_law_1820 rfl 1 rfl ?_
  refine sl_arg hG (t := t) (j := 1) 1822 1824 1825 1826 1827 rfl rfl rfl rfl rfl 0 4 rfl rfl (by omega) hL rfl dL_law_1821 dL_law_1822 dL_law_1824 dL_law_1825 dL_law_1826 ?_
  refine sm_aload_n hG 1828 rfl dL_law_1827 rfl 3 rfl ?_
  refine sl_callW hG (x := .int (nI (c1 kk))) (v' := m3 v2 w (oK kk (x) o)) [.ref (P.2.2.1 (0, 0, 0)), .int (P.2.2.2.2.2.2.2.2 (t + 1)), .ref P.2.2.2.2.1] 1831 rfl (c_L_dayOf hP hfl hF hk hcd) gL_law_L_dayOf rfl (by decide) (by decide) (n := 3) rfl (Nat.le_of_ble_eq_true rfl) (cs.1 + rmL_dayOf.cells, cs.2 + rmL_dayOf.slots) ⟨rfl, rfl⟩ (cq hcs (by decide) (by decide)) rfl dL_law_1828 ?_
  refine sm_istore hG 1833 rfl dL_law_1831 (jlt hN rfl) [(5, .int (nI (c1 kk))), (0, .ref P.2.2.2.2.2.2.1), (1, .ref (P.2.2.1 (0, 0, 0))), (2, .ref (P.2.2.2.1 0)), (3, .ref P.2.2.2.2.1), (4, .int (nI t))] rfl ?_
  refine sm_aload_n hG 1834 rfl dL_law_1833 rfl 3 rfl ?_
  refine sl_arg hG (t := t) (j := 1) 1835 1837 1838 1839 1840 rfl rfl rfl rfl rfl 1 5 rfl rfl (by omega) hL rfl dL_law_1834 dL_law_1835 dL_law_1837 dL_law_1838 dL_law_1839 ?_
  refine sl_callV hG (x := .int y) (v' := m3 v2 w2 (oK kk (x) o)) (.inr (.inl 0)) [.int (P.2.2.2.2.2.2.2.2 (t + 1))] 1843 rfl (okm (lM_ok hP) (by decide)) meS_0 (ci := 7) rfl (lift_M hP (c_X7_dayOf (lM_ok hP) hF2)) gL_law_X7_dayOf rfl (by decide) (by decide) (n := 1) rfl (Nat.le_of_ble_eq_true rfl) (by decide) (cq hcs (by decide) (by decide)) rfl dL_law_1840 ?_
  refine sm_istore hG 1845 rfl dL_law_1843 (jlt hN rfl) [(6, .int y), (5, .int (nI (c1 kk))), (0, .ref P.2.2.2.2.2.2.1), (1, .ref (P.2.2.1 (0, 0, 0))), (2, .ref (P.2.2.2.1 0)), (3, .ref P.2.2.2.2.1), (4, .int (nI t))] rfl ?_
  refine sm_aload_n hG 1846 rfl dL_law_1845 rfl 4 rfl ?_
  refine sl_callV hG (x := .int (w2 0 12)) (v' := m3 v2 w2 (oK kk (x) o)) (.inr (.inl 0)) [] 1849 rfl (okm (lM_ok hP) (by decide)) meS_0 (ci := 7) rfl (lift_M hP (c_X7_thrown (lM_ok hP) rfl)) gL_law_X7_thrown rfl (by decide) (by decide) (n := 0) rfl (Nat.le_of_ble_eq_true rfl) (by decide) (cq hcs (by decide) (by decide)) rfl dL_law_1846 ?_
  refine sm_iload hG 1851 rfl dL_law_1849 1 rfl ?_
  refine sl_ieq hG 1856 hth dL_law_1851 (by decide) ?_
  refine sm_iload hG 1858 rfl dL_law_1856 1 rfl ?_
  refine sl_ne hG 1873 1861 rfl dL_law_1858 (by decide) (fun hz => ?_) (fun hz => ?_)
  · skip
    refine sm_goto hG 2743 dL_law_1873 (by decide) ?_
    refine sm_loc [2, 3, 4, 5, 6] (lsB P t) rfl ?_
    exact sl_wide (cqe (by decide) (by decide)) (k _ _ _ hI)
  · have hk0 : kk = 0 := hcd.mp (nI_z hz (by unfold c1; split <;> (try split) <;> omega))
    have hxy := hxy hk0
    subst hxy
    refine sm_aload_n hG 1862 rfl dL_law_1861 rfl 5 rfl ?_
    refine sm_iconst (x := (0 : Int32)) hG 1863 rfl dL_law_1862 rfl ?_
    refine sl_oin hG 1864 rfl dL_law_1863 ?_
    rw [oK_0 hk0]
    refine sm_iload hG 1866 rfl dL_law_1864 0 rfl ?_
    refine sl_i2l hG 1867 rfl dL_law_1866 ?_
    refine sl_lcmp hG 1868 rfl dL_law_1867 ?_
    refine sl_eq hG 1873 1871 rfl dL_law_1868 (by decide) (fun _ => ?_) (fun hz => absurd rfl hz)
    refine sm_goto hG 2743 dL_law_1873 (by decide) ?_
    refine sm_loc [2, 3, 4, 5, 6] (lsB P t) rfl ?_
    exact sl_wide (cqe (by decide) (by decide)) (k _ _ _ hI)
set_option maxRecDepth 100000 in
set_option maxHeartbeats 4000000 in
theorem law_30 {P : pS} (hP : Ap P) {Γ : jG Unit} (hG : jOk Γ (lS P) cL_law RL wsL_law room_1) (hN : Γ.2.1 = 7) (hfl : Γ.1.2.1.stackTraces = false) {cs : Nat × Nat} (hcs : cs.1 + 4 ≤ 601024 ∧ cs.2 + 24 ≤ 7293034) {t : Nat} (ht : t + 7 ≤ P.2.2.2.2.2.2.2.1) (hL : P.2.2.2.2.2.2.2.1 ≤ 3584) {v : mC} {w : mM} {o : Nat → Int32} (h : IV v w) (k : ∀ v' w' o', IV v' w' → Sm Γ (lS P) (cs.1 + 4, cs.2 + 24) 2743 (lsB P t) [] (m3 v' w' o') (some ())) : Sm Γ (lS P) cs 1876 (lsB P t) [] (m3 v w o) (some ()) := by
  have hop : Op c1 (f_X6_isHeld (P.2.2.2.2.2.2.2.2 (t + 1)) v) (f_X7_isHeld (P.2.2.2.2.2.2.2.2 (t + 1)) w) := op_isHeld h _
  obtain ⟨x, kk, v2, y, w2, hF, hF2, hk, hth, hcd, hxy, hI⟩ := hop
  refine sm_aload_n hG 1877 rfl dL_law_1876 rfl 1 rfl ?_
  refine sl_arg hG (t := t) (j := 1) 1878 1880 1881 1882 1883 rfl rfl rfl rfl rfl 0 4 rfl rfl (by omega) hL rfl dL_law_1877 dL_law_1878 dL_law_1880 dL_law_1881 dL_law_1882 ?_
  refine sm_aload_n hG 1884 rfl dL_law_1883 rfl 3 rfl ?_
  refine sl_callW hG (x := .int (nI (c1 kk))) (v' := m3 v2 w (oK kk (bz x) o)) [.ref (P.2.2.1 (0, 0, 0)), .int (P.2.2.2.2.2.2.2.2 (t + 1)), .ref P.2.2.2.2.1] 1887 rfl (c_L_isHeld hP hfl hF hk hcd) gL_law_L_isHeld rfl (by decide) (by decide) (n := 3) rfl (Nat.le_of_ble_eq_true rfl) (cs.1 + rmL_isHeld.cells, cs.2 + rmL_isHeld.slots) ⟨rfl, rfl⟩ (cq hcs (by decide) (by decide)) rfl dL_law_1884 ?_
  refine sm_istore hG 1889 rfl dL_law_1887 (jlt hN rfl) [(5, .int (nI (c1 kk))), (0, .ref P.2.2.2.2.2.2.1), (1, .ref (P.2.2.1 (0, 0, 0))), (2, .ref (P.2.2.2.1 0)), (3, .ref P.2.2.2.2.1), (4, .int (nI t))] rfl ?_
  refine sm_aload_n hG 1890 rfl dL_law_1889 rfl 3 rfl ?_
  refine sl_arg hG (t := t) (j := 1) 1891 1893 1894 1895 1896 rfl rfl rfl rfl rfl 1 5 rfl rfl (by omega) hL rfl dL_law_1890 dL_law_1891 dL_law_1893 dL_law_1894 dL_law_1895 ?_
  refine sl_callV hG (x := .int y) (v' := m3 v2 w2 (oK kk (bz x) o)) (.inr (.inl 0)) [.int (P.2.2.2.2.2.2.2.2 (t + 1))] 1899 rfl (okm (lM_ok hP) (by decide)) meS_0 (ci := 7) rfl (lift_M hP (c_X7_isHeld (lM_ok hP) hF2)) gL_law_X7_isHeld rfl (by decide) (by decide) (n := 1) rfl (Nat.le_of_ble_eq_true rfl) (by decide) (cq hcs (by decide) (by decide)) rfl dL_law_1896 ?_
  refine sm_istore hG 1901 rfl dL_law_1899 (jlt hN rfl) [(6, .int y), (5, .int (nI (c1 kk))), (0, .ref P.2.2.2.2.2.2.1), (1, .ref (P.2.2.1 (0, 0, 0))), (2, .ref (P.2.2.2.1 0)), (3, .ref P.2.2.2.2.1), (4, .int (nI t))] rfl ?_
  refine sm_aload_n hG 1902 rfl dL_law_1901 rfl 4 rfl ?_
  refine sl_callV hG (x := .int (w2 0 12)) (v' := m3 v2 w2 (oK kk (bz x) o)) (.inr (.inl 0)) [] 1905 rfl (okm (lM_ok hP) (by decide)) meS_0 (ci := 7) rfl (lift_M hP (c_X7_thrown (lM_ok hP) rfl)) gL_law_X7_thrown rfl (by decide) (by decide) (n := 0) rfl (Nat.le_of_ble_eq_true rfl) (by decide) (cq hcs (by decide) (by decide)) rfl dL_law_1902 ?_
  refine sm_iload hG 1907 rfl dL_law_1905 1 rfl ?_
  refine sl_ieq hG 1912 hth dL_law_1907 (by decide) ?_
  refine sm_iload hG 1914 rfl dL_law_1912 1 rfl ?_
  refine sl_ne hG 1936 1917 rfl dL_law_1914 (by decide) (fun hz => ?_) (fun hz => ?_)
  · skip
    refine sm_goto hG 2743 dL_law_1936 (by decide) ?_
    refine sm_loc [2, 3, 4, 5, 6] (lsB P t) rfl ?_
    exact sl_wide (cqe (by decide) (by decide)) (k _ _ _ hI)
  · have hk0 : kk = 0 := hcd.mp (nI_z hz (by unfold c1; split <;> (try split) <;> omega))
    have hxy := hxy hk0
    subst hxy
    refine sm_aload_n hG 1918 rfl dL_law_1917 rfl 5 rfl ?_
    refine sm_iconst (x := (0 : Int32)) hG 1919 rfl dL_law_1918 rfl ?_
    refine sl_oin hG 1920 rfl dL_law_1919 ?_
    rw [oK_0 hk0]
    refine sm_iload hG 1922 rfl dL_law_1920 0 rfl ?_
    refine sl_eq hG 1929 1925 rfl dL_law_1922 (by decide) (fun hb => ?_) (fun hb => ?_)
    · rw [bz_0 hb]
      refine sl_lconst hG 0 1930 rfl dL_law_1929 rfl ?_
      refine sl_lcmp hG 1931 rfl dL_law_1930 ?_
      refine sl_eq hG 1936 1934 rfl dL_law_1931 (by decide) (fun _ => ?_) (fun hz => absurd rfl hz)
      refine sm_goto hG 2743 dL_law_1936 (by decide) ?_
      refine sm_loc [2, 3, 4, 5, 6] (lsB P t) rfl ?_
      exact sl_wide (cqe (by decide) (by decide)) (k _ _ _ hI)
    · rw [bz_1 hb]
      refine sl_lconst hG 1 1926 rfl dL_law_1925 rfl ?_
      refine sm_goto hG 1930 dL_law_1926 (by decide) ?_
      refine sl_lcmp hG 1931 rfl dL_law_1930 ?_
      refine sl_eq hG 1936 1934 rfl dL_law_1931 (by decide) (fun _ => ?_) (fun hz => absurd rfl hz)
      refine sm_goto hG 2743 dL_law_1936 (by decide) ?_
      refine sm_loc [2, 3, 4, 5, 6] (lsB P t) rfl ?_
      exact sl_wide (cqe (by decide) (by decide)) (k _ _ _ hI)
set_option maxRecDepth 100000 in
set_option maxHeartbeats 4000000 in
theorem law_31 {P : pS} (hP : Ap P) {Γ : jG Unit} (hG : jOk Γ (lS P) cL_law RL wsL_law room_1) (hN : Γ.2.1 = 7) (hfl : Γ.1.2.1.stackTraces = false) {cs : Nat × Nat} (hcs : cs.1 + 4 ≤ 601024 ∧ cs.2 + 24 ≤ 7293034) {t : Nat} (ht : t + 7 ≤ P.2.2.2.2.2.2.2.1) (hL : P.2.2.2.2.2.2.2.1 ≤ 3584) {v : mC} {w : mM} {o : Nat → Int32} (h : IV v w) (k : ∀ v' w' o', IV v' w' → Sm Γ (lS P) (cs.1 + 4, cs.2 + 24) 2743 (lsB P t) [] (m3 v' w' o') (some ())) : Sm Γ (lS P) cs 1939 (lsB P t) [] (m3 v w o) (some ()) := by
  have hop : Op c1 (f_X6_placesIn (P.2.2.2.2.2.2.2.2 (t + 1)) (P.2.2.2.2.2.2.2.2 (t + 2)) v) (f_X7_placesIn (P.2.2.2.2.2.2.2.2 (t + 1)) (P.2.2.2.2.2.2.2.2 (t + 2)) w) := op_placesIn h _ _
  obtain ⟨x, kk, v2, y, w2, hF, hF2, hk, hth, hcd, hxy, hI⟩ := hop
  refine sm_aload_n hG 1940 rfl dL_law_1939 rfl 1 rfl ?_
  refine sl_arg hG (t := t) (j := 1) 1941 1943 1944 1945 1946 rfl rfl rfl rfl rfl 0 4 rfl rfl (by omega) hL rfl dL_law_1940 dL_law_1941 dL_law_1943 dL_law_1944 dL_law_1945 ?_
  refine sl_arg hG (t := t) (j := 2) 1947 1949 1950 1951 1952 rfl rfl rfl rfl rfl 0 4 rfl rfl (by omega) hL rfl dL_law_1946 dL_law_1947 dL_law_1949 dL_law_1950 dL_law_1951 ?_
  refine sm_aload_n hG 1953 rfl dL_law_1952 rfl 3 rfl ?_
  refine sl_callW hG (x := .int (nI (c1 kk))) (v' := m3 v2 w (oK kk (x) o)) [.ref (P.2.2.1 (0, 0, 0)), .int (P.2.2.2.2.2.2.2.2 (t + 1)), .int (P.2.2.2.2.2.2.2.2 (t + 2)), .ref P.2.2.2.2.1] 1956 rfl (c_L_placesIn hP hfl hF hk hcd) gL_law_L_placesIn rfl (by decide) (by decide) (n := 4) rfl (Nat.le_of_ble_eq_true rfl) (cs.1 + rmL_placesIn.cells, cs.2 + rmL_placesIn.slots) ⟨rfl, rfl⟩ (cq hcs (by decide) (by decide)) rfl dL_law_1953 ?_
  refine sm_istore hG 1958 rfl dL_law_1956 (jlt hN rfl) [(5, .int (nI (c1 kk))), (0, .ref P.2.2.2.2.2.2.1), (1, .ref (P.2.2.1 (0, 0, 0))), (2, .ref (P.2.2.2.1 0)), (3, .ref P.2.2.2.2.1), (4, .int (nI t))] rfl ?_
  refine sm_aload_n hG 1959 rfl dL_law_1958 rfl 3 rfl ?_
  refine sl_arg hG (t := t) (j := 1) 1960 1962 1963 1964 1965 rfl rfl rfl rfl rfl 1 5 rfl rfl (by omega) hL rfl dL_law_1959 dL_law_1960 dL_law_1962 dL_law_1963 dL_law_1964 ?_
  refine sl_arg hG (t := t) (j := 2) 1966 1968 1969 1970 1971 rfl rfl rfl rfl rfl 1 5 rfl rfl (by omega) hL rfl dL_law_1965 dL_law_1966 dL_law_1968 dL_law_1969 dL_law_1970 ?_
  refine sl_callV hG (x := .int y) (v' := m3 v2 w2 (oK kk (x) o)) (.inr (.inl 0)) [.int (P.2.2.2.2.2.2.2.2 (t + 1)), .int (P.2.2.2.2.2.2.2.2 (t + 2))] 1974 rfl (okm (lM_ok hP) (by decide)) meS_0 (ci := 7) rfl (lift_M hP (c_X7_placesIn (lM_ok hP) hF2)) gL_law_X7_placesIn rfl (by decide) (by decide) (n := 2) rfl (Nat.le_of_ble_eq_true rfl) (by decide) (cq hcs (by decide) (by decide)) rfl dL_law_1971 ?_
  refine sm_istore hG 1976 rfl dL_law_1974 (jlt hN rfl) [(6, .int y), (5, .int (nI (c1 kk))), (0, .ref P.2.2.2.2.2.2.1), (1, .ref (P.2.2.1 (0, 0, 0))), (2, .ref (P.2.2.2.1 0)), (3, .ref P.2.2.2.2.1), (4, .int (nI t))] rfl ?_
  refine sm_aload_n hG 1977 rfl dL_law_1976 rfl 4 rfl ?_
  refine sl_callV hG (x := .int (w2 0 12)) (v' := m3 v2 w2 (oK kk (x) o)) (.inr (.inl 0)) [] 1980 rfl (okm (lM_ok hP) (by decide)) meS_0 (ci := 7) rfl (lift_M hP (c_X7_thrown (lM_ok hP) rfl)) gL_law_X7_thrown rfl (by decide) (by decide) (n := 0) rfl (Nat.le_of_ble_eq_true rfl) (by decide) (cq hcs (by decide) (by decide)) rfl dL_law_1977 ?_
  refine sm_iload hG 1982 rfl dL_law_1980 1 rfl ?_
  refine sl_ieq hG 1987 hth dL_law_1982 (by decide) ?_
  refine sm_iload hG 1989 rfl dL_law_1987 1 rfl ?_
  refine sl_ne hG 2004 1992 rfl dL_law_1989 (by decide) (fun hz => ?_) (fun hz => ?_)
  · skip
    refine sm_goto hG 2743 dL_law_2004 (by decide) ?_
    refine sm_loc [2, 3, 4, 5, 6] (lsB P t) rfl ?_
    exact sl_wide (cqe (by decide) (by decide)) (k _ _ _ hI)
  · have hk0 : kk = 0 := hcd.mp (nI_z hz (by unfold c1; split <;> (try split) <;> omega))
    have hxy := hxy hk0
    subst hxy
    refine sm_aload_n hG 1993 rfl dL_law_1992 rfl 5 rfl ?_
    refine sm_iconst (x := (0 : Int32)) hG 1994 rfl dL_law_1993 rfl ?_
    refine sl_oin hG 1995 rfl dL_law_1994 ?_
    rw [oK_0 hk0]
    refine sm_iload hG 1997 rfl dL_law_1995 0 rfl ?_
    refine sl_i2l hG 1998 rfl dL_law_1997 ?_
    refine sl_lcmp hG 1999 rfl dL_law_1998 ?_
    refine sl_eq hG 2004 2002 rfl dL_law_1999 (by decide) (fun _ => ?_) (fun hz => absurd rfl hz)
    refine sm_goto hG 2743 dL_law_2004 (by decide) ?_
    refine sm_loc [2, 3, 4, 5, 6] (lsB P t) rfl ?_
    exact sl_wide (cqe (by decide) (by decide)) (k _ _ _ hI)
set_option maxRecDepth 100000 in
set_option maxHeartbeats 4000000 in
theorem law_32 {P : pS} (hP : Ap P) {Γ : jG Unit} (hG : jOk Γ (lS P) cL_law RL wsL_law room_1) (hN : Γ.2.1 = 7) (hfl : Γ.1.2.1.stackTraces = false) {cs : Nat × Nat} (hcs : cs.1 + 4 ≤ 601024 ∧ cs.2 + 24 ≤ 7293034) {t : Nat} (ht : t + 7 ≤ P.2.2.2.2.2.2.2.1) (hL : P.2.2.2.2.2.2.2.1 ≤ 3584) {v : mC} {w : mM} {o : Nat → Int32} (h : IV v w) (k : ∀ v' w' o', IV v' w' → Sm Γ (lS P) (cs.1 + 4, cs.2 + 24) 2743 (lsB P t) [] (m3 v' w' o') (some ())) : Sm Γ (lS P) cs 2007 (lsB P t) [] (m3 v w o) (some ()) := by
  have hop : Op c13 (f_X6_whyNot (P.2.2.2.2.2.2.2.2 (t + 1)) (P.2.2.2.2.2.2.2.2 (t + 2)) (P.2.2.2.2.2.2.2.2 (t + 3)) v) (f_X7_whyNot (P.2.2.2.2.2.2.2.2 (t + 1)) (P.2.2.2.2.2.2.2.2 (t + 2)) (P.2.2.2.2.2.2.2.2 (t + 3)) w) := op_whyNot h _ _ _
  obtain ⟨x, kk, v2, y, w2, hF, hF2, hk, hth, hcd, hxy, hI⟩ := hop
  refine sm_aload_n hG 2008 rfl dL_law_2007 rfl 1 rfl ?_
  refine sl_arg hG (t := t) (j := 1) 2009 2011 2012 2013 2014 rfl rfl rfl rfl rfl 0 4 rfl rfl (by omega) hL rfl dL_law_2008 dL_law_2009 dL_law_2011 dL_law_2012 dL_law_2013 ?_
  refine sl_arg hG (t := t) (j := 2) 2015 2017 2018 2019 2020 rfl rfl rfl rfl rfl 0 4 rfl rfl (by omega) hL rfl dL_law_2014 dL_law_2015 dL_law_2017 dL_law_2018 dL_law_2019 ?_
  refine sl_arg hG (t := t) (j := 3) 2021 2023 2024 2025 2026 rfl rfl rfl rfl rfl 0 4 rfl rfl (by omega) hL rfl dL_law_2020 dL_law_2021 dL_law_2023 dL_law_2024 dL_law_2025 ?_
  refine sm_aload_n hG 2027 rfl dL_law_2026 rfl 3 rfl ?_
  refine sl_callW hG (x := .int (nI (c13 kk))) (v' := m3 v2 w (oK kk (x) o)) [.ref (P.2.2.1 (0, 0, 0)), .int (P.2.2.2.2.2.2.2.2 (t + 1)), .int (P.2.2.2.2.2.2.2.2 (t + 2)), .int (P.2.2.2.2.2.2.2.2 (t + 3)), .ref P.2.2.2.2.1] 2030 rfl (c_L_whyNot hP hfl hF hk hcd) gL_law_L_whyNot rfl (by decide) (by decide) (n := 5) rfl (Nat.le_of_ble_eq_true rfl) (cs.1 + rmL_whyNot.cells, cs.2 + rmL_whyNot.slots) ⟨rfl, rfl⟩ (cq hcs (by decide) (by decide)) rfl dL_law_2027 ?_
  refine sm_istore hG 2032 rfl dL_law_2030 (jlt hN rfl) [(5, .int (nI (c13 kk))), (0, .ref P.2.2.2.2.2.2.1), (1, .ref (P.2.2.1 (0, 0, 0))), (2, .ref (P.2.2.2.1 0)), (3, .ref P.2.2.2.2.1), (4, .int (nI t))] rfl ?_
  refine sm_aload_n hG 2033 rfl dL_law_2032 rfl 3 rfl ?_
  refine sl_arg hG (t := t) (j := 1) 2034 2036 2037 2038 2039 rfl rfl rfl rfl rfl 1 5 rfl rfl (by omega) hL rfl dL_law_2033 dL_law_2034 dL_law_2036 dL_law_2037 dL_law_2038 ?_
  refine sl_arg hG (t := t) (j := 2) 2040 2042 2043 2044 2045 rfl rfl rfl rfl rfl 1 5 rfl rfl (by omega) hL rfl dL_law_2039 dL_law_2040 dL_law_2042 dL_law_2043 dL_law_2044 ?_
  refine sl_arg hG (t := t) (j := 3) 2046 2048 2049 2050 2051 rfl rfl rfl rfl rfl 1 5 rfl rfl (by omega) hL rfl dL_law_2045 dL_law_2046 dL_law_2048 dL_law_2049 dL_law_2050 ?_
  refine sl_callV hG (x := .int y) (v' := m3 v2 w2 (oK kk (x) o)) (.inr (.inl 0)) [.int (P.2.2.2.2.2.2.2.2 (t + 1)), .int (P.2.2.2.2.2.2.2.2 (t + 2)), .int (P.2.2.2.2.2.2.2.2 (t + 3))] 2054 rfl (okm (lM_ok hP) (by decide)) meS_0 (ci := 7) rfl (lift_M hP (c_X7_whyNot (lM_ok hP) hF2)) gL_law_X7_whyNot rfl (by decide) (by decide) (n := 3) rfl (Nat.le_of_ble_eq_true rfl) (by decide) (cq hcs (by decide) (by decide)) rfl dL_law_2051 ?_
  refine sm_istore hG 2056 rfl dL_law_2054 (jlt hN rfl) [(6, .int y), (5, .int (nI (c13 kk))), (0, .ref P.2.2.2.2.2.2.1), (1, .ref (P.2.2.1 (0, 0, 0))), (2, .ref (P.2.2.2.1 0)), (3, .ref P.2.2.2.2.1), (4, .int (nI t))] rfl ?_
  refine sm_aload_n hG 2057 rfl dL_law_2056 rfl 4 rfl ?_
  refine sl_callV hG (x := .int (w2 0 12)) (v' := m3 v2 w2 (oK kk (x) o)) (.inr (.inl 0)) [] 2060 rfl (okm (lM_ok hP) (by decide)) meS_0 (ci := 7) rfl (lift_M hP (c_X7_thrown (lM_ok hP) rfl)) gL_law_X7_thrown rfl (by decide) (by decide) (n := 0) rfl (Nat.le_of_ble_eq_true rfl) (by decide) (cq hcs (by decide) (by decide)) rfl dL_law_2057 ?_
  refine sm_iload hG 2062 rfl dL_law_2060 1 rfl ?_
  refine sl_ieq hG 2067 hth dL_law_2062 (by decide) ?_
  refine sm_iload hG 2069 rfl dL_law_2067 1 rfl ?_
  refine sl_ne hG 2084 2072 rfl dL_law_2069 (by decide) (fun hz => ?_) (fun hz => ?_)
  · skip
    refine sm_goto hG 2743 dL_law_2084 (by decide) ?_
    refine sm_loc [2, 3, 4, 5, 6] (lsB P t) rfl ?_
    exact sl_wide (cqe (by decide) (by decide)) (k _ _ _ hI)
  · have hk0 : kk = 0 := hcd.mp (nI_z hz (by unfold c13; split <;> (try split) <;> omega))
    have hxy := hxy hk0
    subst hxy
    refine sm_aload_n hG 2073 rfl dL_law_2072 rfl 5 rfl ?_
    refine sm_iconst (x := (0 : Int32)) hG 2074 rfl dL_law_2073 rfl ?_
    refine sl_oin hG 2075 rfl dL_law_2074 ?_
    rw [oK_0 hk0]
    refine sm_iload hG 2077 rfl dL_law_2075 0 rfl ?_
    refine sl_i2l hG 2078 rfl dL_law_2077 ?_
    refine sl_lcmp hG 2079 rfl dL_law_2078 ?_
    refine sl_eq hG 2084 2082 rfl dL_law_2079 (by decide) (fun _ => ?_) (fun hz => absurd rfl hz)
    refine sm_goto hG 2743 dL_law_2084 (by decide) ?_
    refine sm_loc [2, 3, 4, 5, 6] (lsB P t) rfl ?_
    exact sl_wide (cqe (by decide) (by decide)) (k _ _ _ hI)
set_option maxRecDepth 100000 in
set_option maxHeartbeats 4000000 in
theorem law_33 {P : pS} (hP : Ap P) {Γ : jG Unit} (hG : jOk Γ (lS P) cL_law RL wsL_law room_1) (hN : Γ.2.1 = 7) (hfl : Γ.1.2.1.stackTraces = false) {cs : Nat × Nat} (hcs : cs.1 + 4 ≤ 601024 ∧ cs.2 + 24 ≤ 7293034) {t : Nat} (ht : t + 7 ≤ P.2.2.2.2.2.2.2.1) (hL : P.2.2.2.2.2.2.2.1 ≤ 3584) {v : mC} {w : mM} {o : Nat → Int32} (h : IV v w) (k : ∀ v' w' o', IV v' w' → Sm Γ (lS P) (cs.1 + 4, cs.2 + 24) 2743 (lsB P t) [] (m3 v' w' o') (some ())) : Sm Γ (lS P) cs 2087 (lsB P t) [] (m3 v w o) (some ()) := by
  have hop : Op c1 (f_X6_lineOf (P.2.2.2.2.2.2.2.2 (t + 1)) (P.2.2.2.2.2.2.2.2 (t + 2)) v) (f_X7_lineOf (P.2.2.2.2.2.2.2.2 (t + 1)) (P.2.2.2.2.2.2.2.2 (t + 2)) w) := op_lineOf h _ _
  obtain ⟨x, kk, v2, y, w2, hF, hF2, hk, hth, hcd, hxy, hI⟩ := hop
  refine sm_aload_n hG 2088 rfl dL_law_2087 rfl 1 rfl ?_
  refine sl_arg hG (t := t) (j := 1) 2089 2091 2092 2093 2094 rfl rfl rfl rfl rfl 0 4 rfl rfl (by omega) hL rfl dL_law_2088 dL_law_2089 dL_law_2091 dL_law_2092 dL_law_2093 ?_
  refine sl_arg hG (t := t) (j := 2) 2095 2097 2098 2099 2100 rfl rfl rfl rfl rfl 0 4 rfl rfl (by omega) hL rfl dL_law_2094 dL_law_2095 dL_law_2097 dL_law_2098 dL_law_2099 ?_
  refine sm_aload_n hG 2101 rfl dL_law_2100 rfl 3 rfl ?_
  refine sl_callW hG (x := .int (nI (c1 kk))) (v' := m3 v2 w (oK kk (x) o)) [.ref (P.2.2.1 (0, 0, 0)), .int (P.2.2.2.2.2.2.2.2 (t + 1)), .int (P.2.2.2.2.2.2.2.2 (t + 2)), .ref P.2.2.2.2.1] 2104 rfl (c_L_lineOf hP hfl hF hk hcd) gL_law_L_lineOf rfl (by decide) (by decide) (n := 4) rfl (Nat.le_of_ble_eq_true rfl) (cs.1 + rmL_lineOf.cells, cs.2 + rmL_lineOf.slots) ⟨rfl, rfl⟩ (cq hcs (by decide) (by decide)) rfl dL_law_2101 ?_
  refine sm_istore hG 2106 rfl dL_law_2104 (jlt hN rfl) [(5, .int (nI (c1 kk))), (0, .ref P.2.2.2.2.2.2.1), (1, .ref (P.2.2.1 (0, 0, 0))), (2, .ref (P.2.2.2.1 0)), (3, .ref P.2.2.2.2.1), (4, .int (nI t))] rfl ?_
  refine sm_aload_n hG 2107 rfl dL_law_2106 rfl 3 rfl ?_
  refine sl_arg hG (t := t) (j := 1) 2108 2110 2111 2112 2113 rfl rfl rfl rfl rfl 1 5 rfl rfl (by omega) hL rfl dL_law_2107 dL_law_2108 dL_law_2110 dL_law_2111 dL_law_2112 ?_
  refine sl_arg hG (t := t) (j := 2) 2114 2116 2117 2118 2119 rfl rfl rfl rfl rfl 1 5 rfl rfl (by omega) hL rfl dL_law_2113 dL_law_2114 dL_law_2116 dL_law_2117 dL_law_2118 ?_
  refine sl_callV hG (x := .int y) (v' := m3 v2 w2 (oK kk (x) o)) (.inr (.inl 0)) [.int (P.2.2.2.2.2.2.2.2 (t + 1)), .int (P.2.2.2.2.2.2.2.2 (t + 2))] 2122 rfl (okm (lM_ok hP) (by decide)) meS_0 (ci := 7) rfl (lift_M hP (c_X7_lineOf (lM_ok hP) hF2)) gL_law_X7_lineOf rfl (by decide) (by decide) (n := 2) rfl (Nat.le_of_ble_eq_true rfl) (by decide) (cq hcs (by decide) (by decide)) rfl dL_law_2119 ?_
  refine sm_istore hG 2124 rfl dL_law_2122 (jlt hN rfl) [(6, .int y), (5, .int (nI (c1 kk))), (0, .ref P.2.2.2.2.2.2.1), (1, .ref (P.2.2.1 (0, 0, 0))), (2, .ref (P.2.2.2.1 0)), (3, .ref P.2.2.2.2.1), (4, .int (nI t))] rfl ?_
  refine sm_aload_n hG 2125 rfl dL_law_2124 rfl 4 rfl ?_
  refine sl_callV hG (x := .int (w2 0 12)) (v' := m3 v2 w2 (oK kk (x) o)) (.inr (.inl 0)) [] 2128 rfl (okm (lM_ok hP) (by decide)) meS_0 (ci := 7) rfl (lift_M hP (c_X7_thrown (lM_ok hP) rfl)) gL_law_X7_thrown rfl (by decide) (by decide) (n := 0) rfl (Nat.le_of_ble_eq_true rfl) (by decide) (cq hcs (by decide) (by decide)) rfl dL_law_2125 ?_
  refine sm_iload hG 2130 rfl dL_law_2128 1 rfl ?_
  refine sl_ieq hG 2135 hth dL_law_2130 (by decide) ?_
  refine sm_iload hG 2137 rfl dL_law_2135 1 rfl ?_
  refine sl_ne hG 2152 2140 rfl dL_law_2137 (by decide) (fun hz => ?_) (fun hz => ?_)
  · skip
    refine sm_goto hG 2743 dL_law_2152 (by decide) ?_
    refine sm_loc [2, 3, 4, 5, 6] (lsB P t) rfl ?_
    exact sl_wide (cqe (by decide) (by decide)) (k _ _ _ hI)
  · have hk0 : kk = 0 := hcd.mp (nI_z hz (by unfold c1; split <;> (try split) <;> omega))
    have hxy := hxy hk0
    subst hxy
    refine sm_aload_n hG 2141 rfl dL_law_2140 rfl 5 rfl ?_
    refine sm_iconst (x := (0 : Int32)) hG 2142 rfl dL_law_2141 rfl ?_
    refine sl_oin hG 2143 rfl dL_law_2142 ?_
    rw [oK_0 hk0]
    refine sm_iload hG 2145 rfl dL_law_2143 0 rfl ?_
    refine sl_i2l hG 2146 rfl dL_law_2145 ?_
    refine sl_lcmp hG 2147 rfl dL_law_2146 ?_
    refine sl_eq hG 2152 2150 rfl dL_law_2147 (by decide) (fun _ => ?_) (fun hz => absurd rfl hz)
    refine sm_goto hG 2743 dL_law_2152 (by decide) ?_
    refine sm_loc [2, 3, 4, 5, 6] (lsB P t) rfl ?_
    exact sl_wide (cqe (by decide) (by decide)) (k _ _ _ hI)
set_option maxRecDepth 100000 in
set_option maxHeartbeats 4000000 in
theorem law_34 {P : pS} (hP : Ap P) {Γ : jG Unit} (hG : jOk Γ (lS P) cL_law RL wsL_law room_1) (hN : Γ.2.1 = 7) (hfl : Γ.1.2.1.stackTraces = false) {cs : Nat × Nat} (hcs : cs.1 + 4 ≤ 601024 ∧ cs.2 + 24 ≤ 7293034) {t : Nat} (ht : t + 7 ≤ P.2.2.2.2.2.2.2.1) (hL : P.2.2.2.2.2.2.2.1 ≤ 3584) {v : mC} {w : mM} {o : Nat → Int32} (h : IV v w) (k : ∀ v' w' o', IV v' w' → Sm Γ (lS P) (cs.1 + 4, cs.2 + 24) 2743 (lsB P t) [] (m3 v' w' o') (some ())) : Sm Γ (lS P) cs 2155 (lsB P t) [] (m3 v w o) (some ()) := by
  have hop : Op c1 (f_X6_singersIn (P.2.2.2.2.2.2.2.2 (t + 1)) (P.2.2.2.2.2.2.2.2 (t + 2)) v) (f_X7_singersIn (P.2.2.2.2.2.2.2.2 (t + 1)) (P.2.2.2.2.2.2.2.2 (t + 2)) w) := op_singersIn h _ _
  obtain ⟨x, kk, v2, y, w2, hF, hF2, hk, hth, hcd, hxy, hI⟩ := hop
  refine sm_aload_n hG 2156 rfl dL_law_2155 rfl 1 rfl ?_
  refine sl_arg hG (t := t) (j := 1) 2157 2159 2160 2161 2162 rfl rfl rfl rfl rfl 0 4 rfl rfl (by omega) hL rfl dL_law_2156 dL_law_2157 dL_law_2159 dL_law_2160 dL_law_2161 ?_
  refine sl_arg hG (t := t) (j := 2) 2163 2165 2166 2167 2168 rfl rfl rfl rfl rfl 0 4 rfl rfl (by omega) hL rfl dL_law_2162 dL_law_2163 dL_law_2165 dL_law_2166 dL_law_2167 ?_
  refine sm_aload_n hG 2169 rfl dL_law_2168 rfl 3 rfl ?_
  refine sl_callW hG (x := .int (nI (c1 kk))) (v' := m3 v2 w (oK kk (x) o)) [.ref (P.2.2.1 (0, 0, 0)), .int (P.2.2.2.2.2.2.2.2 (t + 1)), .int (P.2.2.2.2.2.2.2.2 (t + 2)), .ref P.2.2.2.2.1] 2172 rfl (c_L_singersIn hP hfl hF hk hcd) gL_law_L_singersIn rfl (by decide) (by decide) (n := 4) rfl (Nat.le_of_ble_eq_true rfl) (cs.1 + rmL_singersIn.cells, cs.2 + rmL_singersIn.slots) ⟨rfl, rfl⟩ (cq hcs (by decide) (by decide)) rfl dL_law_2169 ?_
  refine sm_istore hG 2174 rfl dL_law_2172 (jlt hN rfl) [(5, .int (nI (c1 kk))), (0, .ref P.2.2.2.2.2.2.1), (1, .ref (P.2.2.1 (0, 0, 0))), (2, .ref (P.2.2.2.1 0)), (3, .ref P.2.2.2.2.1), (4, .int (nI t))] rfl ?_
  refine sm_aload_n hG 2175 rfl dL_law_2174 rfl 3 rfl ?_
  refine sl_arg hG (t := t) (j := 1) 2176 2178 2179 2180 2181 rfl rfl rfl rfl rfl 1 5 rfl rfl (by omega) hL rfl dL_law_2175 dL_law_2176 dL_law_2178 dL_law_2179 dL_law_2180 ?_
  refine sl_arg hG (t := t) (j := 2) 2182 2184 2185 2186 2187 rfl rfl rfl rfl rfl 1 5 rfl rfl (by omega) hL rfl dL_law_2181 dL_law_2182 dL_law_2184 dL_law_2185 dL_law_2186 ?_
  refine sl_callV hG (x := .int y) (v' := m3 v2 w2 (oK kk (x) o)) (.inr (.inl 0)) [.int (P.2.2.2.2.2.2.2.2 (t + 1)), .int (P.2.2.2.2.2.2.2.2 (t + 2))] 2190 rfl (okm (lM_ok hP) (by decide)) meS_0 (ci := 7) rfl (lift_M hP (c_X7_singersIn (lM_ok hP) hF2)) gL_law_X7_singersIn rfl (by decide) (by decide) (n := 2) rfl (Nat.le_of_ble_eq_true rfl) (by decide) (cq hcs (by decide) (by decide)) rfl dL_law_2187 ?_
  refine sm_istore hG 2192 rfl dL_law_2190 (jlt hN rfl) [(6, .int y), (5, .int (nI (c1 kk))), (0, .ref P.2.2.2.2.2.2.1), (1, .ref (P.2.2.1 (0, 0, 0))), (2, .ref (P.2.2.2.1 0)), (3, .ref P.2.2.2.2.1), (4, .int (nI t))] rfl ?_
  refine sm_aload_n hG 2193 rfl dL_law_2192 rfl 4 rfl ?_
  refine sl_callV hG (x := .int (w2 0 12)) (v' := m3 v2 w2 (oK kk (x) o)) (.inr (.inl 0)) [] 2196 rfl (okm (lM_ok hP) (by decide)) meS_0 (ci := 7) rfl (lift_M hP (c_X7_thrown (lM_ok hP) rfl)) gL_law_X7_thrown rfl (by decide) (by decide) (n := 0) rfl (Nat.le_of_ble_eq_true rfl) (by decide) (cq hcs (by decide) (by decide)) rfl dL_law_2193 ?_
  refine sm_iload hG 2198 rfl dL_law_2196 1 rfl ?_
  refine sl_ieq hG 2203 hth dL_law_2198 (by decide) ?_
  refine sm_iload hG 2205 rfl dL_law_2203 1 rfl ?_
  refine sl_ne hG 2220 2208 rfl dL_law_2205 (by decide) (fun hz => ?_) (fun hz => ?_)
  · skip
    refine sm_goto hG 2743 dL_law_2220 (by decide) ?_
    refine sm_loc [2, 3, 4, 5, 6] (lsB P t) rfl ?_
    exact sl_wide (cqe (by decide) (by decide)) (k _ _ _ hI)
  · have hk0 : kk = 0 := hcd.mp (nI_z hz (by unfold c1; split <;> (try split) <;> omega))
    have hxy := hxy hk0
    subst hxy
    refine sm_aload_n hG 2209 rfl dL_law_2208 rfl 5 rfl ?_
    refine sm_iconst (x := (0 : Int32)) hG 2210 rfl dL_law_2209 rfl ?_
    refine sl_oin hG 2211 rfl dL_law_2210 ?_
    rw [oK_0 hk0]
    refine sm_iload hG 2213 rfl dL_law_2211 0 rfl ?_
    refine sl_i2l hG 2214 rfl dL_law_2213 ?_
    refine sl_lcmp hG 2215 rfl dL_law_2214 ?_
    refine sl_eq hG 2220 2218 rfl dL_law_2215 (by decide) (fun _ => ?_) (fun hz => absurd rfl hz)
    refine sm_goto hG 2743 dL_law_2220 (by decide) ?_
    refine sm_loc [2, 3, 4, 5, 6] (lsB P t) rfl ?_
    exact sl_wide (cqe (by decide) (by decide)) (k _ _ _ hI)
set_option maxRecDepth 100000 in
set_option maxHeartbeats 4000000 in
theorem law_35 {P : pS} (hP : Ap P) {Γ : jG Unit} (hG : jOk Γ (lS P) cL_law RL wsL_law room_1) (hN : Γ.2.1 = 7) (hfl : Γ.1.2.1.stackTraces = false) {cs : Nat × Nat} (hcs : cs.1 + 4 ≤ 601024 ∧ cs.2 + 24 ≤ 7293034) {t : Nat} (ht : t + 7 ≤ P.2.2.2.2.2.2.2.1) (hL : P.2.2.2.2.2.2.2.1 ≤ 3584) {v : mC} {w : mM} {o : Nat → Int32} (h : IV v w) (k : ∀ v' w' o', IV v' w' → Sm Γ (lS P) (cs.1 + 4, cs.2 + 24) 2743 (lsB P t) [] (m3 v' w' o') (some ())) : Sm Γ (lS P) cs 2223 (lsB P t) [] (m3 v w o) (some ()) := by
  have hop : Op c1 (f_X6_shortfall (P.2.2.2.2.2.2.2.2 (t + 1)) v) (f_X7_shortfall (P.2.2.2.2.2.2.2.2 (t + 1)) w) := op_shortfall h _
  obtain ⟨x, kk, v2, y, w2, hF, hF2, hk, hth, hcd, hxy, hI⟩ := hop
  refine sm_aload_n hG 2224 rfl dL_law_2223 rfl 1 rfl ?_
  refine sl_arg hG (t := t) (j := 1) 2225 2227 2228 2229 2230 rfl rfl rfl rfl rfl 0 4 rfl rfl (by omega) hL rfl dL_law_2224 dL_law_2225 dL_law_2227 dL_law_2228 dL_law_2229 ?_
  refine sm_aload_n hG 2231 rfl dL_law_2230 rfl 3 rfl ?_
  refine sl_callW hG (x := .int (nI (c1 kk))) (v' := m3 v2 w (oK kk (x) o)) [.ref (P.2.2.1 (0, 0, 0)), .int (P.2.2.2.2.2.2.2.2 (t + 1)), .ref P.2.2.2.2.1] 2234 rfl (c_L_shortfall hP hfl hF hk hcd) gL_law_L_shortfall rfl (by decide) (by decide) (n := 3) rfl (Nat.le_of_ble_eq_true rfl) (cs.1 + rmL_shortfall.cells, cs.2 + rmL_shortfall.slots) ⟨rfl, rfl⟩ (cq hcs (by decide) (by decide)) rfl dL_law_2231 ?_
  refine sm_istore hG 2236 rfl dL_law_2234 (jlt hN rfl) [(5, .int (nI (c1 kk))), (0, .ref P.2.2.2.2.2.2.1), (1, .ref (P.2.2.1 (0, 0, 0))), (2, .ref (P.2.2.2.1 0)), (3, .ref P.2.2.2.2.1), (4, .int (nI t))] rfl ?_
  refine sm_aload_n hG 2237 rfl dL_law_2236 rfl 3 rfl ?_
  refine sl_arg hG (t := t) (j := 1) 2238 2240 2241 2242 2243 rfl rfl rfl rfl rfl 1 5 rfl rfl (by omega) hL rfl dL_law_2237 dL_law_2238 dL_law_2240 dL_law_2241 dL_law_2242 ?_
  refine sl_callV hG (x := .int y) (v' := m3 v2 w2 (oK kk (x) o)) (.inr (.inl 0)) [.int (P.2.2.2.2.2.2.2.2 (t + 1))] 2246 rfl (okm (lM_ok hP) (by decide)) meS_0 (ci := 7) rfl (lift_M hP (c_X7_shortfall (lM_ok hP) hF2)) gL_law_X7_shortfall rfl (by decide) (by decide) (n := 1) rfl (Nat.le_of_ble_eq_true rfl) (by decide) (cq hcs (by decide) (by decide)) rfl dL_law_2243 ?_
  refine sm_istore hG 2248 rfl dL_law_2246 (jlt hN rfl) [(6, .int y), (5, .int (nI (c1 kk))), (0, .ref P.2.2.2.2.2.2.1), (1, .ref (P.2.2.1 (0, 0, 0))), (2, .ref (P.2.2.2.1 0)), (3, .ref P.2.2.2.2.1), (4, .int (nI t))] rfl ?_
  refine sm_aload_n hG 2249 rfl dL_law_2248 rfl 4 rfl ?_
  refine sl_callV hG (x := .int (w2 0 12)) (v' := m3 v2 w2 (oK kk (x) o)) (.inr (.inl 0)) [] 2252 rfl (okm (lM_ok hP) (by decide)) meS_0 (ci := 7) rfl (lift_M hP (c_X7_thrown (lM_ok hP) rfl)) gL_law_X7_thrown rfl (by decide) (by decide) (n := 0) rfl (Nat.le_of_ble_eq_true rfl) (by decide) (cq hcs (by decide) (by decide)) rfl dL_law_2249 ?_
  refine sm_iload hG 2254 rfl dL_law_2252 1 rfl ?_
  refine sl_ieq hG 2259 hth dL_law_2254 (by decide) ?_
  refine sm_iload hG 2261 rfl dL_law_2259 1 rfl ?_
  refine sl_ne hG 2276 2264 rfl dL_law_2261 (by decide) (fun hz => ?_) (fun hz => ?_)
  · skip
    refine sm_goto hG 2743 dL_law_2276 (by decide) ?_
    refine sm_loc [2, 3, 4, 5, 6] (lsB P t) rfl ?_
    exact sl_wide (cqe (by decide) (by decide)) (k _ _ _ hI)
  · have hk0 : kk = 0 := hcd.mp (nI_z hz (by unfold c1; split <;> (try split) <;> omega))
    have hxy := hxy hk0
    subst hxy
    refine sm_aload_n hG 2265 rfl dL_law_2264 rfl 5 rfl ?_
    refine sm_iconst (x := (0 : Int32)) hG 2266 rfl dL_law_2265 rfl ?_
    refine sl_oin hG 2267 rfl dL_law_2266 ?_
    rw [oK_0 hk0]
    refine sm_iload hG 2269 rfl dL_law_2267 0 rfl ?_
    refine sl_i2l hG 2270 rfl dL_law_2269 ?_
    refine sl_lcmp hG 2271 rfl dL_law_2270 ?_
    refine sl_eq hG 2276 2274 rfl dL_law_2271 (by decide) (fun _ => ?_) (fun hz => absurd rfl hz)
    refine sm_goto hG 2743 dL_law_2276 (by decide) ?_
    refine sm_loc [2, 3, 4, 5, 6] (lsB P t) rfl ?_
    exact sl_wide (cqe (by decide) (by decide)) (k _ _ _ hI)
set_option maxRecDepth 100000 in
set_option maxHeartbeats 4000000 in
theorem law_36 {P : pS} (hP : Ap P) {Γ : jG Unit} (hG : jOk Γ (lS P) cL_law RL wsL_law room_1) (hN : Γ.2.1 = 7) (hfl : Γ.1.2.1.stackTraces = false) {cs : Nat × Nat} (hcs : cs.1 + 4 ≤ 601024 ∧ cs.2 + 24 ≤ 7293034) {t : Nat} (ht : t + 7 ≤ P.2.2.2.2.2.2.2.1) (hL : P.2.2.2.2.2.2.2.1 ≤ 3584) {v : mC} {w : mM} {o : Nat → Int32} (h : IV v w) (k : ∀ v' w' o', IV v' w' → Sm Γ (lS P) (cs.1 + 4, cs.2 + 24) 2743 (lsB P t) [] (m3 v' w' o') (some ())) : Sm Γ (lS P) cs 2279 (lsB P t) [] (m3 v w o) (some ()) := by
  have hop : Op c13 (f_X6_shortfallBySets (P.2.2.2.2.2.2.2.2 (t + 1)) v) (f_X7_shortfallBySets (P.2.2.2.2.2.2.2.2 (t + 1)) w) := op_shortfallBySets h _
  obtain ⟨x, kk, v2, y, w2, hF, hF2, hk, hth, hcd, hxy, hI⟩ := hop
  refine sm_aload_n hG 2280 rfl dL_law_2279 rfl 1 rfl ?_
  refine sl_arg hG (t := t) (j := 1) 2281 2283 2284 2285 2286 rfl rfl rfl rfl rfl 0 4 rfl rfl (by omega) hL rfl dL_law_2280 dL_law_2281 dL_law_2283 dL_law_2284 dL_law_2285 ?_
  refine sm_aload_n hG 2287 rfl dL_law_2286 rfl 3 rfl ?_
  refine sl_callW hG (x := .int (nI (c13 kk))) (v' := m3 v2 w (oK kk (x) o)) [.ref (P.2.2.1 (0, 0, 0)), .int (P.2.2.2.2.2.2.2.2 (t + 1)), .ref P.2.2.2.2.1] 2290 rfl (c_L_shortfallBySets hP hfl hF hk hcd) gL_law_L_shortfallBySets rfl (by decide) (by decide) (n := 3) rfl (Nat.le_of_ble_eq_true rfl) (cs.1 + rmL_shortfallBySets.cells, cs.2 + rmL_shortfallBySets.slots) ⟨rfl, rfl⟩ (cq hcs (by decide) (by decide)) rfl dL_law_2287 ?_
  refine sm_istore hG 2292 rfl dL_law_2290 (jlt hN rfl) [(5, .int (nI (c13 kk))), (0, .ref P.2.2.2.2.2.2.1), (1, .ref (P.2.2.1 (0, 0, 0))), (2, .ref (P.2.2.2.1 0)), (3, .ref P.2.2.2.2.1), (4, .int (nI t))] rfl ?_
  refine sm_aload_n hG 2293 rfl dL_law_2292 rfl 3 rfl ?_
  refine sl_arg hG (t := t) (j := 1) 2294 2296 2297 2298 2299 rfl rfl rfl rfl rfl 1 5 rfl rfl (by omega) hL rfl dL_law_2293 dL_law_2294 dL_law_2296 dL_law_2297 dL_law_2298 ?_
  refine sl_callV hG (x := .int y) (v' := m3 v2 w2 (oK kk (x) o)) (.inr (.inl 0)) [.int (P.2.2.2.2.2.2.2.2 (t + 1))] 2302 rfl (okm (lM_ok hP) (by decide)) meS_0 (ci := 7) rfl (lift_M hP (c_X7_shortfallBySets (lM_ok hP) hF2)) gL_law_X7_shortfallBySets rfl (by decide) (by decide) (n := 1) rfl (Nat.le_of_ble_eq_true rfl) (by decide) (cq hcs (by decide) (by decide)) rfl dL_law_2299 ?_
  refine sm_istore hG 2304 rfl dL_law_2302 (jlt hN rfl) [(6, .int y), (5, .int (nI (c13 kk))), (0, .ref P.2.2.2.2.2.2.1), (1, .ref (P.2.2.1 (0, 0, 0))), (2, .ref (P.2.2.2.1 0)), (3, .ref P.2.2.2.2.1), (4, .int (nI t))] rfl ?_
  refine sm_aload_n hG 2305 rfl dL_law_2304 rfl 4 rfl ?_
  refine sl_callV hG (x := .int (w2 0 12)) (v' := m3 v2 w2 (oK kk (x) o)) (.inr (.inl 0)) [] 2308 rfl (okm (lM_ok hP) (by decide)) meS_0 (ci := 7) rfl (lift_M hP (c_X7_thrown (lM_ok hP) rfl)) gL_law_X7_thrown rfl (by decide) (by decide) (n := 0) rfl (Nat.le_of_ble_eq_true rfl) (by decide) (cq hcs (by decide) (by decide)) rfl dL_law_2305 ?_
  refine sm_iload hG 2310 rfl dL_law_2308 1 rfl ?_
  refine sl_ieq hG 2315 hth dL_law_2310 (by decide) ?_
  refine sm_iload hG 2317 rfl dL_law_2315 1 rfl ?_
  refine sl_ne hG 2332 2320 rfl dL_law_2317 (by decide) (fun hz => ?_) (fun hz => ?_)
  · skip
    refine sm_goto hG 2743 dL_law_2332 (by decide) ?_
    refine sm_loc [2, 3, 4, 5, 6] (lsB P t) rfl ?_
    exact sl_wide (cqe (by decide) (by decide)) (k _ _ _ hI)
  · have hk0 : kk = 0 := hcd.mp (nI_z hz (by unfold c13; split <;> (try split) <;> omega))
    have hxy := hxy hk0
    subst hxy
    refine sm_aload_n hG 2321 rfl dL_law_2320 rfl 5 rfl ?_
    refine sm_iconst (x := (0 : Int32)) hG 2322 rfl dL_law_2321 rfl ?_
    refine sl_oin hG 2323 rfl dL_law_2322 ?_
    rw [oK_0 hk0]
    refine sm_iload hG 2325 rfl dL_law_2323 0 rfl ?_
    refine sl_i2l hG 2326 rfl dL_law_2325 ?_
    refine sl_lcmp hG 2327 rfl dL_law_2326 ?_
    refine sl_eq hG 2332 2330 rfl dL_law_2327 (by decide) (fun _ => ?_) (fun hz => absurd rfl hz)
    refine sm_goto hG 2743 dL_law_2332 (by decide) ?_
    refine sm_loc [2, 3, 4, 5, 6] (lsB P t) rfl ?_
    exact sl_wide (cqe (by decide) (by decide)) (k _ _ _ hI)
set_option maxRecDepth 100000 in
set_option maxHeartbeats 4000000 in
theorem law_37 {P : pS} (hP : Ap P) {Γ : jG Unit} (hG : jOk Γ (lS P) cL_law RL wsL_law room_1) (hN : Γ.2.1 = 7) (hfl : Γ.1.2.1.stackTraces = false) {cs : Nat × Nat} (hcs : cs.1 + 4 ≤ 601024 ∧ cs.2 + 24 ≤ 7293034) {t : Nat} (ht : t + 7 ≤ P.2.2.2.2.2.2.2.1) (hL : P.2.2.2.2.2.2.2.1 ≤ 3584) {v : mC} {w : mM} {o : Nat → Int32} (h : IV v w) (k : ∀ v' w' o', IV v' w' → Sm Γ (lS P) (cs.1 + 4, cs.2 + 24) 2743 (lsB P t) [] (m3 v' w' o') (some ())) : Sm Γ (lS P) cs 2335 (lsB P t) [] (m3 v w o) (some ()) := by
  have hop : Op c13 (f_X6_neededLine (P.2.2.2.2.2.2.2.2 (t + 1)) v) (f_X7_neededLine (P.2.2.2.2.2.2.2.2 (t + 1)) w) := op_neededLine h _
  obtain ⟨x, kk, v2, y, w2, hF, hF2, hk, hth, hcd, hxy, hI⟩ := hop
  refine sm_aload_n hG 2336 rfl dL_law_2335 rfl 1 rfl ?_
  refine sl_arg hG (t := t) (j := 1) 2337 2339 2340 2341 2342 rfl rfl rfl rfl rfl 0 4 rfl rfl (by omega) hL rfl dL_law_2336 dL_law_2337 dL_law_2339 dL_law_2340 dL_law_2341 ?_
  refine sm_aload_n hG 2343 rfl dL_law_2342 rfl 3 rfl ?_
  refine sl_callW hG (x := .int (nI (c13 kk))) (v' := m3 v2 w (oK kk (x) o)) [.ref (P.2.2.1 (0, 0, 0)), .int (P.2.2.2.2.2.2.2.2 (t + 1)), .ref P.2.2.2.2.1] 2346 rfl (c_L_neededLine hP hfl hF hk hcd) gL_law_L_neededLine rfl (by decide) (by decide) (n := 3) rfl (Nat.le_of_ble_eq_true rfl) (cs.1 + rmL_neededLine.cells, cs.2 + rmL_neededLine.slots) ⟨rfl, rfl⟩ (cq hcs (by decide) (by decide)) rfl dL_law_2343 ?_
  refine sm_istore hG 2348 rfl dL_law_2346 (jlt hN rfl) [(5, .int (nI (c13 kk))), (0, .ref P.2.2.2.2.2.2.1), (1, .ref (P.2.2.1 (0, 0, 0))), (2, .ref (P.2.2.2.1 0)), (3, .ref P.2.2.2.2.1), (4, .int (nI t))] rfl ?_
  refine sm_aload_n hG 2349 rfl dL_law_2348 rfl 3 rfl ?_
  refine sl_arg hG (t := t) (j := 1) 2350 2352 2353 2354 2355 rfl rfl rfl rfl rfl 1 5 rfl rfl (by omega) hL rfl dL_law_2349 dL_law_2350 dL_law_2352 dL_law_2353 dL_law_2354 ?_
  refine sl_callV hG (x := .int y) (v' := m3 v2 w2 (oK kk (x) o)) (.inr (.inl 0)) [.int (P.2.2.2.2.2.2.2.2 (t + 1))] 2358 rfl (okm (lM_ok hP) (by decide)) meS_0 (ci := 7) rfl (lift_M hP (c_X7_neededLine (lM_ok hP) hF2)) gL_law_X7_neededLine rfl (by decide) (by decide) (n := 1) rfl (Nat.le_of_ble_eq_true rfl) (by decide) (cq hcs (by decide) (by decide)) rfl dL_law_2355 ?_
  refine sm_istore hG 2360 rfl dL_law_2358 (jlt hN rfl) [(6, .int y), (5, .int (nI (c13 kk))), (0, .ref P.2.2.2.2.2.2.1), (1, .ref (P.2.2.1 (0, 0, 0))), (2, .ref (P.2.2.2.1 0)), (3, .ref P.2.2.2.2.1), (4, .int (nI t))] rfl ?_
  refine sm_aload_n hG 2361 rfl dL_law_2360 rfl 4 rfl ?_
  refine sl_callV hG (x := .int (w2 0 12)) (v' := m3 v2 w2 (oK kk (x) o)) (.inr (.inl 0)) [] 2364 rfl (okm (lM_ok hP) (by decide)) meS_0 (ci := 7) rfl (lift_M hP (c_X7_thrown (lM_ok hP) rfl)) gL_law_X7_thrown rfl (by decide) (by decide) (n := 0) rfl (Nat.le_of_ble_eq_true rfl) (by decide) (cq hcs (by decide) (by decide)) rfl dL_law_2361 ?_
  refine sm_iload hG 2366 rfl dL_law_2364 1 rfl ?_
  refine sl_ieq hG 2371 hth dL_law_2366 (by decide) ?_
  refine sm_iload hG 2373 rfl dL_law_2371 1 rfl ?_
  refine sl_ne hG 2388 2376 rfl dL_law_2373 (by decide) (fun hz => ?_) (fun hz => ?_)
  · skip
    refine sm_goto hG 2743 dL_law_2388 (by decide) ?_
    refine sm_loc [2, 3, 4, 5, 6] (lsB P t) rfl ?_
    exact sl_wide (cqe (by decide) (by decide)) (k _ _ _ hI)
  · have hk0 : kk = 0 := hcd.mp (nI_z hz (by unfold c13; split <;> (try split) <;> omega))
    have hxy := hxy hk0
    subst hxy
    refine sm_aload_n hG 2377 rfl dL_law_2376 rfl 5 rfl ?_
    refine sm_iconst (x := (0 : Int32)) hG 2378 rfl dL_law_2377 rfl ?_
    refine sl_oin hG 2379 rfl dL_law_2378 ?_
    rw [oK_0 hk0]
    refine sm_iload hG 2381 rfl dL_law_2379 0 rfl ?_
    refine sl_i2l hG 2382 rfl dL_law_2381 ?_
    refine sl_lcmp hG 2383 rfl dL_law_2382 ?_
    refine sl_eq hG 2388 2386 rfl dL_law_2383 (by decide) (fun _ => ?_) (fun hz => absurd rfl hz)
    refine sm_goto hG 2743 dL_law_2388 (by decide) ?_
    refine sm_loc [2, 3, 4, 5, 6] (lsB P t) rfl ?_
    exact sl_wide (cqe (by decide) (by decide)) (k _ _ _ hI)
set_option maxRecDepth 100000 in
set_option maxHeartbeats 4000000 in
theorem law_38 {P : pS} (hP : Ap P) {Γ : jG Unit} (hG : jOk Γ (lS P) cL_law RL wsL_law room_1) (hN : Γ.2.1 = 7) (hfl : Γ.1.2.1.stackTraces = false) {cs : Nat × Nat} (hcs : cs.1 + 4 ≤ 601024 ∧ cs.2 + 24 ≤ 7293034) {t : Nat} (ht : t + 7 ≤ P.2.2.2.2.2.2.2.1) (hL : P.2.2.2.2.2.2.2.1 ≤ 3584) {v : mC} {w : mM} {o : Nat → Int32} (h : IV v w) (k : ∀ v' w' o', IV v' w' → Sm Γ (lS P) (cs.1 + 4, cs.2 + 24) 2743 (lsB P t) [] (m3 v' w' o') (some ())) : Sm Γ (lS P) cs 2391 (lsB P t) [] (m3 v w o) (some ()) := by
  have hop : Op c1 (f_X6_descantIn (P.2.2.2.2.2.2.2.2 (t + 1)) v) (f_X7_descantIn (P.2.2.2.2.2.2.2.2 (t + 1)) w) := op_descantIn h _
  obtain ⟨x, kk, v2, y, w2, hF, hF2, hk, hth, hcd, hxy, hI⟩ := hop
  refine sm_aload_n hG 2392 rfl dL_law_2391 rfl 1 rfl ?_
  refine sl_arg hG (t := t) (j := 1) 2393 2395 2396 2397 2398 rfl rfl rfl rfl rfl 0 4 rfl rfl (by omega) hL rfl dL_law_2392 dL_law_2393 dL_law_2395 dL_law_2396 dL_law_2397 ?_
  refine sm_aload_n hG 2399 rfl dL_law_2398 rfl 3 rfl ?_
  refine sl_callW hG (x := .int (nI (c1 kk))) (v' := m3 v2 w (oK kk (x) o)) [.ref (P.2.2.1 (0, 0, 0)), .int (P.2.2.2.2.2.2.2.2 (t + 1)), .ref P.2.2.2.2.1] 2402 rfl (c_L_descantIn hP hfl hF hk hcd) gL_law_L_descantIn rfl (by decide) (by decide) (n := 3) rfl (Nat.le_of_ble_eq_true rfl) (cs.1 + rmL_descantIn.cells, cs.2 + rmL_descantIn.slots) ⟨rfl, rfl⟩ (cq hcs (by decide) (by decide)) rfl dL_law_2399 ?_
  refine sm_istore hG 2404 rfl dL_law_2402 (jlt hN rfl) [(5, .int (nI (c1 kk))), (0, .ref P.2.2.2.2.2.2.1), (1, .ref (P.2.2.1 (0, 0, 0))), (2, .ref (P.2.2.2.1 0)), (3, .ref P.2.2.2.2.1), (4, .int (nI t))] rfl ?_
  refine sm_aload_n hG 2405 rfl dL_law_2404 rfl 3 rfl ?_
  refine sl_arg hG (t := t) (j := 1) 2406 2408 2409 2410 2411 rfl rfl rfl rfl rfl 1 5 rfl rfl (by omega) hL rfl dL_law_2405 dL_law_2406 dL_law_2408 dL_law_2409 dL_law_2410 ?_
  refine sl_callV hG (x := .int y) (v' := m3 v2 w2 (oK kk (x) o)) (.inr (.inl 0)) [.int (P.2.2.2.2.2.2.2.2 (t + 1))] 2414 rfl (okm (lM_ok hP) (by decide)) meS_0 (ci := 7) rfl (lift_M hP (c_X7_descantIn (lM_ok hP) hF2)) gL_law_X7_descantIn rfl (by decide) (by decide) (n := 1) rfl (Nat.le_of_ble_eq_true rfl) (by decide) (cq hcs (by decide) (by decide)) rfl dL_law_2411 ?_
  refine sm_istore hG 2416 rfl dL_law_2414 (jlt hN rfl) [(6, .int y), (5, .int (nI (c1 kk))), (0, .ref P.2.2.2.2.2.2.1), (1, .ref (P.2.2.1 (0, 0, 0))), (2, .ref (P.2.2.2.1 0)), (3, .ref P.2.2.2.2.1), (4, .int (nI t))] rfl ?_
  refine sm_aload_n hG 2417 rfl dL_law_2416 rfl 4 rfl ?_
  refine sl_callV hG (x := .int (w2 0 12)) (v' := m3 v2 w2 (oK kk (x) o)) (.inr (.inl 0)) [] 2420 rfl (okm (lM_ok hP) (by decide)) meS_0 (ci := 7) rfl (lift_M hP (c_X7_thrown (lM_ok hP) rfl)) gL_law_X7_thrown rfl (by decide) (by decide) (n := 0) rfl (Nat.le_of_ble_eq_true rfl) (by decide) (cq hcs (by decide) (by decide)) rfl dL_law_2417 ?_
  refine sm_iload hG 2422 rfl dL_law_2420 1 rfl ?_
  refine sl_ieq hG 2427 hth dL_law_2422 (by decide) ?_
  refine sm_iload hG 2429 rfl dL_law_2427 1 rfl ?_
  refine sl_ne hG 2444 2432 rfl dL_law_2429 (by decide) (fun hz => ?_) (fun hz => ?_)
  · skip
    refine sm_goto hG 2743 dL_law_2444 (by decide) ?_
    refine sm_loc [2, 3, 4, 5, 6] (lsB P t) rfl ?_
    exact sl_wide (cqe (by decide) (by decide)) (k _ _ _ hI)
  · have hk0 : kk = 0 := hcd.mp (nI_z hz (by unfold c1; split <;> (try split) <;> omega))
    have hxy := hxy hk0
    subst hxy
    refine sm_aload_n hG 2433 rfl dL_law_2432 rfl 5 rfl ?_
    refine sm_iconst (x := (0 : Int32)) hG 2434 rfl dL_law_2433 rfl ?_
    refine sl_oin hG 2435 rfl dL_law_2434 ?_
    rw [oK_0 hk0]
    refine sm_iload hG 2437 rfl dL_law_2435 0 rfl ?_
    refine sl_i2l hG 2438 rfl dL_law_2437 ?_
    refine sl_lcmp hG 2439 rfl dL_law_2438 ?_
    refine sl_eq hG 2444 2442 rfl dL_law_2439 (by decide) (fun _ => ?_) (fun hz => absurd rfl hz)
    refine sm_goto hG 2743 dL_law_2444 (by decide) ?_
    refine sm_loc [2, 3, 4, 5, 6] (lsB P t) rfl ?_
    exact sl_wide (cqe (by decide) (by decide)) (k _ _ _ hI)
set_option maxRecDepth 100000 in
set_option maxHeartbeats 4000000 in
theorem law_39 {P : pS} (hP : Ap P) {Γ : jG Unit} (hG : jOk Γ (lS P) cL_law RL wsL_law room_1) (hN : Γ.2.1 = 7) (hfl : Γ.1.2.1.stackTraces = false) {cs : Nat × Nat} (hcs : cs.1 + 4 ≤ 601024 ∧ cs.2 + 24 ≤ 7293034) {t : Nat} (ht : t + 7 ≤ P.2.2.2.2.2.2.2.1) (hL : P.2.2.2.2.2.2.2.1 ≤ 3584) {v : mC} {w : mM} {o : Nat → Int32} (h : IV v w) (k : ∀ v' w' o', IV v' w' → Sm Γ (lS P) (cs.1 + 4, cs.2 + 24) 2743 (lsB P t) [] (m3 v' w' o') (some ())) : Sm Γ (lS P) cs 2447 (lsB P t) [] (m3 v w o) (some ()) := by
  have hop : Op c1 (f_X6_pewOf (P.2.2.2.2.2.2.2.2 (t + 1)) (P.2.2.2.2.2.2.2.2 (t + 2)) v) (f_X7_pewOf (P.2.2.2.2.2.2.2.2 (t + 1)) (P.2.2.2.2.2.2.2.2 (t + 2)) w) := op_pewOf h _ _
  obtain ⟨x, kk, v2, y, w2, hF, hF2, hk, hth, hcd, hxy, hI⟩ := hop
  refine sm_aload_n hG 2448 rfl dL_law_2447 rfl 1 rfl ?_
  refine sl_arg hG (t := t) (j := 1) 2449 2451 2452 2453 2454 rfl rfl rfl rfl rfl 0 4 rfl rfl (by omega) hL rfl dL_law_2448 dL_law_2449 dL_law_2451 dL_law_2452 dL_law_2453 ?_
  refine sl_arg hG (t := t) (j := 2) 2455 2457 2458 2459 2460 rfl rfl rfl rfl rfl 0 4 rfl rfl (by omega) hL rfl dL_law_2454 dL_law_2455 dL_law_2457 dL_law_2458 dL_law_2459 ?_
  refine sm_aload_n hG 2461 rfl dL_law_2460 rfl 3 rfl ?_
  refine sl_callW hG (x := .int (nI (c1 kk))) (v' := m3 v2 w (oK kk (x) o)) [.ref (P.2.2.1 (0, 0, 0)), .int (P.2.2.2.2.2.2.2.2 (t + 1)), .int (P.2.2.2.2.2.2.2.2 (t + 2)), .ref P.2.2.2.2.1] 2464 rfl (c_L_pewOf hP hfl hF hk hcd) gL_law_L_pewOf rfl (by decide) (by decide) (n := 4) rfl (Nat.le_of_ble_eq_true rfl) (cs.1 + rmL_pewOf.cells, cs.2 + rmL_pewOf.slots) ⟨rfl, rfl⟩ (cq hcs (by decide) (by decide)) rfl dL_law_2461 ?_
  refine sm_istore hG 2466 rfl dL_law_2464 (jlt hN rfl) [(5, .int (nI (c1 kk))), (0, .ref P.2.2.2.2.2.2.1), (1, .ref (P.2.2.1 (0, 0, 0))), (2, .ref (P.2.2.2.1 0)), (3, .ref P.2.2.2.2.1), (4, .int (nI t))] rfl ?_
  refine sm_aload_n hG 2467 rfl dL_law_2466 rfl 3 rfl ?_
  refine sl_arg hG (t := t) (j := 1) 2468 2470 2471 2472 2473 rfl rfl rfl rfl rfl 1 5 rfl rfl (by omega) hL rfl dL_law_2467 dL_law_2468 dL_law_2470 dL_law_2471 dL_law_2472 ?_
  refine sl_arg hG (t := t) (j := 2) 2474 2476 2477 2478 2479 rfl rfl rfl rfl rfl 1 5 rfl rfl (by omega) hL rfl dL_law_2473 dL_law_2474 dL_law_2476 dL_law_2477 dL_law_2478 ?_
  refine sl_callV hG (x := .int y) (v' := m3 v2 w2 (oK kk (x) o)) (.inr (.inl 0)) [.int (P.2.2.2.2.2.2.2.2 (t + 1)), .int (P.2.2.2.2.2.2.2.2 (t + 2))] 2482 rfl (okm (lM_ok hP) (by decide)) meS_0 (ci := 7) rfl (lift_M hP (c_X7_pewOf (lM_ok hP) hF2)) gL_law_X7_pewOf rfl (by decide) (by decide) (n := 2) rfl (Nat.le_of_ble_eq_true rfl) (by decide) (cq hcs (by decide) (by decide)) rfl dL_law_2479 ?_
  refine sm_istore hG 2484 rfl dL_law_2482 (jlt hN rfl) [(6, .int y), (5, .int (nI (c1 kk))), (0, .ref P.2.2.2.2.2.2.1), (1, .ref (P.2.2.1 (0, 0, 0))), (2, .ref (P.2.2.2.1 0)), (3, .ref P.2.2.2.2.1), (4, .int (nI t))] rfl ?_
  refine sm_aload_n hG 2485 rfl dL_law_2484 rfl 4 rfl ?_
  refine sl_callV hG (x := .int (w2 0 12)) (v' := m3 v2 w2 (oK kk (x) o)) (.inr (.inl 0)) [] 2488 rfl (okm (lM_ok hP) (by decide)) meS_0 (ci := 7) rfl (lift_M hP (c_X7_thrown (lM_ok hP) rfl)) gL_law_X7_thrown rfl (by decide) (by decide) (n := 0) rfl (Nat.le_of_ble_eq_true rfl) (by decide) (cq hcs (by decide) (by decide)) rfl dL_law_2485 ?_
  refine sm_iload hG 2490 rfl dL_law_2488 1 rfl ?_
  refine sl_ieq hG 2495 hth dL_law_2490 (by decide) ?_
  refine sm_iload hG 2497 rfl dL_law_2495 1 rfl ?_
  refine sl_ne hG 2512 2500 rfl dL_law_2497 (by decide) (fun hz => ?_) (fun hz => ?_)
  · skip
    refine sm_goto hG 2743 dL_law_2512 (by decide) ?_
    refine sm_loc [2, 3, 4, 5, 6] (lsB P t) rfl ?_
    exact sl_wide (cqe (by decide) (by decide)) (k _ _ _ hI)
  · have hk0 : kk = 0 := hcd.mp (nI_z hz (by unfold c1; split <;> (try split) <;> omega))
    have hxy := hxy hk0
    subst hxy
    refine sm_aload_n hG 2501 rfl dL_law_2500 rfl 5 rfl ?_
    refine sm_iconst (x := (0 : Int32)) hG 2502 rfl dL_law_2501 rfl ?_
    refine sl_oin hG 2503 rfl dL_law_2502 ?_
    rw [oK_0 hk0]
    refine sm_iload hG 2505 rfl dL_law_2503 0 rfl ?_
    refine sl_i2l hG 2506 rfl dL_law_2505 ?_
    refine sl_lcmp hG 2507 rfl dL_law_2506 ?_
    refine sl_eq hG 2512 2510 rfl dL_law_2507 (by decide) (fun _ => ?_) (fun hz => absurd rfl hz)
    refine sm_goto hG 2743 dL_law_2512 (by decide) ?_
    refine sm_loc [2, 3, 4, 5, 6] (lsB P t) rfl ?_
    exact sl_wide (cqe (by decide) (by decide)) (k _ _ _ hI)
set_option maxRecDepth 100000 in
set_option maxHeartbeats 4000000 in
theorem law_40 {P : pS} (hP : Ap P) {Γ : jG Unit} (hG : jOk Γ (lS P) cL_law RL wsL_law room_1) (hN : Γ.2.1 = 7) (hfl : Γ.1.2.1.stackTraces = false) {cs : Nat × Nat} (hcs : cs.1 + 4 ≤ 601024 ∧ cs.2 + 24 ≤ 7293034) {t : Nat} (ht : t + 7 ≤ P.2.2.2.2.2.2.2.1) (hL : P.2.2.2.2.2.2.2.1 ≤ 3584) {v : mC} {w : mM} {o : Nat → Int32} (h : IV v w) (k : ∀ v' w' o', IV v' w' → Sm Γ (lS P) (cs.1 + 4, cs.2 + 24) 2743 (lsB P t) [] (m3 v' w' o') (some ())) : Sm Γ (lS P) cs 2515 (lsB P t) [] (m3 v w o) (some ()) := by
  have hop : Op c1 (f_X6_seatOf (P.2.2.2.2.2.2.2.2 (t + 1)) (P.2.2.2.2.2.2.2.2 (t + 2)) v) (f_X7_seatOf (P.2.2.2.2.2.2.2.2 (t + 1)) (P.2.2.2.2.2.2.2.2 (t + 2)) w) := op_seatOf h _ _
  obtain ⟨x, kk, v2, y, w2, hF, hF2, hk, hth, hcd, hxy, hI⟩ := hop
  refine sm_aload_n hG 2516 rfl dL_law_2515 rfl 1 rfl ?_
  refine sl_arg hG (t := t) (j := 1) 2517 2519 2520 2521 2522 rfl rfl rfl rfl rfl 0 4 rfl rfl (by omega) hL rfl dL_law_2516 dL_law_2517 dL_law_2519 dL_law_2520 dL_law_2521 ?_
  refine sl_arg hG (t := t) (j := 2) 2523 2525 2526 2527 2528 rfl rfl rfl rfl rfl 0 4 rfl rfl (by omega) hL rfl dL_law_2522 dL_law_2523 dL_law_2525 dL_law_2526 dL_law_2527 ?_
  refine sm_aload_n hG 2529 rfl dL_law_2528 rfl 3 rfl ?_
  refine sl_callW hG (x := .int (nI (c1 kk))) (v' := m3 v2 w (oK kk (x) o)) [.ref (P.2.2.1 (0, 0, 0)), .int (P.2.2.2.2.2.2.2.2 (t + 1)), .int (P.2.2.2.2.2.2.2.2 (t + 2)), .ref P.2.2.2.2.1] 2532 rfl (c_L_seatOf hP hfl hF hk hcd) gL_law_L_seatOf rfl (by decide) (by decide) (n := 4) rfl (Nat.le_of_ble_eq_true rfl) (cs.1 + rmL_seatOf.cells, cs.2 + rmL_seatOf.slots) ⟨rfl, rfl⟩ (cq hcs (by decide) (by decide)) rfl dL_law_2529 ?_
  refine sm_istore hG 2534 rfl dL_law_2532 (jlt hN rfl) [(5, .int (nI (c1 kk))), (0, .ref P.2.2.2.2.2.2.1), (1, .ref (P.2.2.1 (0, 0, 0))), (2, .ref (P.2.2.2.1 0)), (3, .ref P.2.2.2.2.1), (4, .int (nI t))] rfl ?_
  refine sm_aload_n hG 2535 rfl dL_law_2534 rfl 3 rfl ?_
  refine sl_arg hG (t := t) (j := 1) 2536 2538 2539 2540 2541 rfl rfl rfl rfl rfl 1 5 rfl rfl (by omega) hL rfl dL_law_2535 dL_law_2536 dL_law_2538 dL_law_2539 dL_law_2540 ?_
  refine sl_arg hG (t := t) (j := 2) 2542 2544 2545 2546 2547 rfl rfl rfl rfl rfl 1 5 rfl rfl (by omega) hL rfl dL_law_2541 dL_law_2542 dL_law_2544 dL_law_2545 dL_law_2546 ?_
  refine sl_callV hG (x := .int y) (v' := m3 v2 w2 (oK kk (x) o)) (.inr (.inl 0)) [.int (P.2.2.2.2.2.2.2.2 (t + 1)), .int (P.2.2.2.2.2.2.2.2 (t + 2))] 2550 rfl (okm (lM_ok hP) (by decide)) meS_0 (ci := 7) rfl (lift_M hP (c_X7_seatOf (lM_ok hP) hF2)) gL_law_X7_seatOf rfl (by decide) (by decide) (n := 2) rfl (Nat.le_of_ble_eq_true rfl) (by decide) (cq hcs (by decide) (by decide)) rfl dL_law_2547 ?_
  refine sm_istore hG 2552 rfl dL_law_2550 (jlt hN rfl) [(6, .int y), (5, .int (nI (c1 kk))), (0, .ref P.2.2.2.2.2.2.1), (1, .ref (P.2.2.1 (0, 0, 0))), (2, .ref (P.2.2.2.1 0)), (3, .ref P.2.2.2.2.1), (4, .int (nI t))] rfl ?_
  refine sm_aload_n hG 2553 rfl dL_law_2552 rfl 4 rfl ?_
  refine sl_callV hG (x := .int (w2 0 12)) (v' := m3 v2 w2 (oK kk (x) o)) (.inr (.inl 0)) [] 2556 rfl (okm (lM_ok hP) (by decide)) meS_0 (ci := 7) rfl (lift_M hP (c_X7_thrown (lM_ok hP) rfl)) gL_law_X7_thrown rfl (by decide) (by decide) (n := 0) rfl (Nat.le_of_ble_eq_true rfl) (by decide) (cq hcs (by decide) (by decide)) rfl dL_law_2553 ?_
  refine sm_iload hG 2558 rfl dL_law_2556 1 rfl ?_
  refine sl_ieq hG 2563 hth dL_law_2558 (by decide) ?_
  refine sm_iload hG 2565 rfl dL_law_2563 1 rfl ?_
  refine sl_ne hG 2580 2568 rfl dL_law_2565 (by decide) (fun hz => ?_) (fun hz => ?_)
  · skip
    refine sm_goto hG 2743 dL_law_2580 (by decide) ?_
    refine sm_loc [2, 3, 4, 5, 6] (lsB P t) rfl ?_
    exact sl_wide (cqe (by decide) (by decide)) (k _ _ _ hI)
  · have hk0 : kk = 0 := hcd.mp (nI_z hz (by unfold c1; split <;> (try split) <;> omega))
    have hxy := hxy hk0
    subst hxy
    refine sm_aload_n hG 2569 rfl dL_law_2568 rfl 5 rfl ?_
    refine sm_iconst (x := (0 : Int32)) hG 2570 rfl dL_law_2569 rfl ?_
    refine sl_oin hG 2571 rfl dL_law_2570 ?_
    rw [oK_0 hk0]
    refine sm_iload hG 2573 rfl dL_law_2571 0 rfl ?_
    refine sl_i2l hG 2574 rfl dL_law_2573 ?_
    refine sl_lcmp hG 2575 rfl dL_law_2574 ?_
    refine sl_eq hG 2580 2578 rfl dL_law_2575 (by decide) (fun _ => ?_) (fun hz => absurd rfl hz)
    refine sm_goto hG 2743 dL_law_2580 (by decide) ?_
    refine sm_loc [2, 3, 4, 5, 6] (lsB P t) rfl ?_
    exact sl_wide (cqe (by decide) (by decide)) (k _ _ _ hI)
set_option maxRecDepth 100000 in
set_option maxHeartbeats 4000000 in
theorem law_41 {P : pS} (hP : Ap P) {Γ : jG Unit} (hG : jOk Γ (lS P) cL_law RL wsL_law room_1) (hN : Γ.2.1 = 7) (hfl : Γ.1.2.1.stackTraces = false) {cs : Nat × Nat} (hcs : cs.1 + 4 ≤ 601024 ∧ cs.2 + 24 ≤ 7293034) {t : Nat} (ht : t + 7 ≤ P.2.2.2.2.2.2.2.1) (hL : P.2.2.2.2.2.2.2.1 ≤ 3584) {v : mC} {w : mM} {o : Nat → Int32} (h : IV v w) (k : ∀ v' w' o', IV v' w' → Sm Γ (lS P) (cs.1 + 4, cs.2 + 24) 2743 (lsB P t) [] (m3 v' w' o') (some ())) : Sm Γ (lS P) cs 2583 (lsB P t) [] (m3 v w o) (some ()) := by
  obtain ⟨x, v2, w2, hF, hF2, hI⟩ := op_firstShortFeast h
  refine sm_aload_n hG 2584 rfl dL_law_2583 rfl 1 rfl ?_
  refine sl_callV hG (x := .int x) (v' := m3 v2 w o) (.inl (0, 0, 0)) [] 2587 rfl (ok0 (lC_ok hP)) ceS_0 (ci := 6) rfl (lift_C hP (c_X6_firstShortFeast (lC_ok hP) hF)) gL_law_X6_firstShortFeast rfl (by decide) (by decide) (n := 0) rfl (Nat.le_of_ble_eq_true rfl) (by decide) (cq0 hcs) rfl dL_law_2584 ?_
  refine sm_aload_n hG 2588 rfl dL_law_2587 rfl 2 rfl ?_
  refine sl_callV hG (x := .int x) (v' := m3 v2 w2 o) (.inr (.inl 0)) [] 2591 rfl (okm (lM_ok hP) (by decide)) meS_0 (ci := 7) rfl (lift_M hP (c_X7_firstShortFeast (lM_ok hP) hF2)) gL_law_X7_firstShortFeast rfl (by decide) (by decide) (n := 0) rfl (Nat.le_of_ble_eq_true rfl) (by decide) (cq0 hcs) rfl dL_law_2588 ?_
  refine sl_ieq hG 2743 rfl dL_law_2591 (by decide) ?_
  exact sl_wide ⟨Nat.le_add_right _ _, Nat.le_add_right _ _⟩ (k _ _ _ hI)
set_option maxRecDepth 100000 in
set_option maxHeartbeats 4000000 in
theorem law_42 {P : pS} (hP : Ap P) {Γ : jG Unit} (hG : jOk Γ (lS P) cL_law RL wsL_law room_1) (hN : Γ.2.1 = 7) (hfl : Γ.1.2.1.stackTraces = false) {cs : Nat × Nat} (hcs : cs.1 + 4 ≤ 601024 ∧ cs.2 + 24 ≤ 7293034) {t : Nat} (ht : t + 7 ≤ P.2.2.2.2.2.2.2.1) (hL : P.2.2.2.2.2.2.2.1 ≤ 3584) {v : mC} {w : mM} {o : Nat → Int32} (h : IV v w) (k : ∀ v' w' o', IV v' w' → Sm Γ (lS P) (cs.1 + 4, cs.2 + 24) 2743 (lsB P t) [] (m3 v' w' o') (some ())) : Sm Γ (lS P) cs 2596 (lsB P t) [] (m3 v w o) (some ()) := by
  have hop : Op c1 (f_X6_favoursOf (P.2.2.2.2.2.2.2.2 (t + 1)) v) (f_X7_favoursOf (P.2.2.2.2.2.2.2.2 (t + 1)) w) := op_favoursOf h _
  obtain ⟨x, kk, v2, y, w2, hF, hF2, hk, hth, hcd, hxy, hI⟩ := hop
  refine sm_aload_n hG 2597 rfl dL_law_2596 rfl 1 rfl ?_
  refine sl_arg hG (t := t) (j := 1) 2598 2600 2601 2602 2603 rfl rfl rfl rfl rfl 0 4 rfl rfl (by omega) hL rfl dL_law_2597 dL_law_2598 dL_law_2600 dL_law_2601 dL_law_2602 ?_
  refine sm_aload_n hG 2604 rfl dL_law_2603 rfl 3 rfl ?_
  refine sl_callW hG (x := .int (nI (c1 kk))) (v' := m3 v2 w (oK kk (x) o)) [.ref (P.2.2.1 (0, 0, 0)), .int (P.2.2.2.2.2.2.2.2 (t + 1)), .ref P.2.2.2.2.1] 2607 rfl (c_L_favoursOf hP hfl hF hk hcd) gL_law_L_favoursOf rfl (by decide) (by decide) (n := 3) rfl (Nat.le_of_ble_eq_true rfl) (cs.1 + rmL_favoursOf.cells, cs.2 + rmL_favoursOf.slots) ⟨rfl, rfl⟩ (cq hcs (by decide) (by decide)) rfl dL_law_2604 ?_
  refine sm_istore hG 2609 rfl dL_law_2607 (jlt hN rfl) [(5, .int (nI (c1 kk))), (0, .ref P.2.2.2.2.2.2.1), (1, .ref (P.2.2.1 (0, 0, 0))), (2, .ref (P.2.2.2.1 0)), (3, .ref P.2.2.2.2.1), (4, .int (nI t))] rfl ?_
  refine sm_aload_n hG 2610 rfl dL_law_2609 rfl 3 rfl ?_
  refine sl_arg hG (t := t) (j := 1) 2611 2613 2614 2615 2616 rfl rfl rfl rfl rfl 1 5 rfl rfl (by omega) hL rfl dL_law_2610 dL_law_2611 dL_law_2613 dL_law_2614 dL_law_2615 ?_
  refine sl_callV hG (x := .int y) (v' := m3 v2 w2 (oK kk (x) o)) (.inr (.inl 0)) [.int (P.2.2.2.2.2.2.2.2 (t + 1))] 2619 rfl (okm (lM_ok hP) (by decide)) meS_0 (ci := 7) rfl (lift_M hP (c_X7_favoursOf (lM_ok hP) hF2)) gL_law_X7_favoursOf rfl (by decide) (by decide) (n := 1) rfl (Nat.le_of_ble_eq_true rfl) (by decide) (cq hcs (by decide) (by decide)) rfl dL_law_2616 ?_
  refine sm_istore hG 2621 rfl dL_law_2619 (jlt hN rfl) [(6, .int y), (5, .int (nI (c1 kk))), (0, .ref P.2.2.2.2.2.2.1), (1, .ref (P.2.2.1 (0, 0, 0))), (2, .ref (P.2.2.2.1 0)), (3, .ref P.2.2.2.2.1), (4, .int (nI t))] rfl ?_
  refine sm_aload_n hG 2622 rfl dL_law_2621 rfl 4 rfl ?_
  refine sl_callV hG (x := .int (w2 0 12)) (v' := m3 v2 w2 (oK kk (x) o)) (.inr (.inl 0)) [] 2625 rfl (okm (lM_ok hP) (by decide)) meS_0 (ci := 7) rfl (lift_M hP (c_X7_thrown (lM_ok hP) rfl)) gL_law_X7_thrown rfl (by decide) (by decide) (n := 0) rfl (Nat.le_of_ble_eq_true rfl) (by decide) (cq hcs (by decide) (by decide)) rfl dL_law_2622 ?_
  refine sm_iload hG 2627 rfl dL_law_2625 1 rfl ?_
  refine sl_ieq hG 2632 hth dL_law_2627 (by decide) ?_
  refine sm_iload hG 2634 rfl dL_law_2632 1 rfl ?_
  refine sl_ne hG 2649 2637 rfl dL_law_2634 (by decide) (fun hz => ?_) (fun hz => ?_)
  · skip
    refine sm_goto hG 2743 dL_law_2649 (by decide) ?_
    refine sm_loc [2, 3, 4, 5, 6] (lsB P t) rfl ?_
    exact sl_wide (cqe (by decide) (by decide)) (k _ _ _ hI)
  · have hk0 : kk = 0 := hcd.mp (nI_z hz (by unfold c1; split <;> (try split) <;> omega))
    have hxy := hxy hk0
    subst hxy
    refine sm_aload_n hG 2638 rfl dL_law_2637 rfl 5 rfl ?_
    refine sm_iconst (x := (0 : Int32)) hG 2639 rfl dL_law_2638 rfl ?_
    refine sl_oin hG 2640 rfl dL_law_2639 ?_
    rw [oK_0 hk0]
    refine sm_iload hG 2642 rfl dL_law_2640 0 rfl ?_
    refine sl_i2l hG 2643 rfl dL_law_2642 ?_
    refine sl_lcmp hG 2644 rfl dL_law_2643 ?_
    refine sl_eq hG 2649 2647 rfl dL_law_2644 (by decide) (fun _ => ?_) (fun hz => absurd rfl hz)
    refine sm_goto hG 2743 dL_law_2649 (by decide) ?_
    refine sm_loc [2, 3, 4, 5, 6] (lsB P t) rfl ?_
    exact sl_wide (cqe (by decide) (by decide)) (k _ _ _ hI)
set_option maxRecDepth 100000 in
set_option maxHeartbeats 4000000 in
theorem law_43 {P : pS} (hP : Ap P) {Γ : jG Unit} (hG : jOk Γ (lS P) cL_law RL wsL_law room_1) (hN : Γ.2.1 = 7) (hfl : Γ.1.2.1.stackTraces = false) {cs : Nat × Nat} (hcs : cs.1 + 4 ≤ 601024 ∧ cs.2 + 24 ≤ 7293034) {t : Nat} (ht : t + 7 ≤ P.2.2.2.2.2.2.2.1) (hL : P.2.2.2.2.2.2.2.1 ≤ 3584) {v : mC} {w : mM} {o : Nat → Int32} (h : IV v w) (k : ∀ v' w' o', IV v' w' → Sm Γ (lS P) (cs.1 + 4, cs.2 + 24) 2743 (lsB P t) [] (m3 v' w' o') (some ())) : Sm Γ (lS P) cs 2652 (lsB P t) [] (m3 v w o) (some ()) := by
  obtain ⟨x, w2, hF, hF2, hI⟩ := op_purse h
  refine sm_aload_n hG 2653 rfl dL_law_2652 rfl 1 rfl ?_
  refine sl_callV hG (x := .int x) (v' := m3 v w o) (.inl (0, 0, 0)) [] 2656 rfl (ok0 (lC_ok hP)) ceS_0 (ci := 6) rfl (lift_C hP (c_X6_purse (lC_ok hP) hF)) gL_law_X6_purse rfl (by decide) (by decide) (n := 0) rfl (Nat.le_of_ble_eq_true rfl) (by decide) (cq0 hcs) rfl dL_law_2653 ?_
  refine sm_aload_n hG 2657 rfl dL_law_2656 rfl 2 rfl ?_
  refine sl_callV hG (x := .int x) (v' := m3 v w2 o) (.inr (.inl 0)) [] 2660 rfl (okm (lM_ok hP) (by decide)) meS_0 (ci := 7) rfl (lift_M hP (c_X7_purse (lM_ok hP) hF2)) gL_law_X7_purse rfl (by decide) (by decide) (n := 0) rfl (Nat.le_of_ble_eq_true rfl) (by decide) (cq0 hcs) rfl dL_law_2657 ?_
  refine sl_ieq hG 2743 rfl dL_law_2660 (by decide) ?_
  exact sl_wide ⟨Nat.le_add_right _ _, Nat.le_add_right _ _⟩ (k _ _ _ hI)
set_option maxRecDepth 100000 in
set_option maxHeartbeats 4000000 in
theorem law_44 {P : pS} (hP : Ap P) {Γ : jG Unit} (hG : jOk Γ (lS P) cL_law RL wsL_law room_1) (hN : Γ.2.1 = 7) (hfl : Γ.1.2.1.stackTraces = false) {cs : Nat × Nat} (hcs : cs.1 + 4 ≤ 601024 ∧ cs.2 + 24 ≤ 7293034) {t : Nat} (ht : t + 7 ≤ P.2.2.2.2.2.2.2.1) (hL : P.2.2.2.2.2.2.2.1 ≤ 3584) {v : mC} {w : mM} {o : Nat → Int32} (h : IV v w) (k : ∀ v' w' o', IV v' w' → Sm Γ (lS P) (cs.1 + 4, cs.2 + 24) 2743 (lsB P t) [] (m3 v' w' o') (some ())) : Sm Γ (lS P) cs 2665 (lsB P t) [] (m3 v w o) (some ()) := by
  obtain ⟨x, w2, hF, hF2, hI⟩ := op_purseByAccounts h
  refine sm_aload_n hG 2666 rfl dL_law_2665 rfl 1 rfl ?_
  refine sl_callV hG (x := .int x) (v' := m3 v w o) (.inl (0, 0, 0)) [] 2669 rfl (ok0 (lC_ok hP)) ceS_0 (ci := 6) rfl (lift_C hP (c_X6_purseByAccounts (lC_ok hP) hF)) gL_law_X6_purseByAccounts rfl (by decide) (by decide) (n := 0) rfl (Nat.le_of_ble_eq_true rfl) (by decide) (cq0 hcs) rfl dL_law_2666 ?_
  refine sm_aload_n hG 2670 rfl dL_law_2669 rfl 2 rfl ?_
  refine sl_callV hG (x := .int x) (v' := m3 v w2 o) (.inr (.inl 0)) [] 2673 rfl (okm (lM_ok hP) (by decide)) meS_0 (ci := 7) rfl (lift_M hP (c_X7_purseByAccounts (lM_ok hP) hF2)) gL_law_X7_purseByAccounts rfl (by decide) (by decide) (n := 0) rfl (Nat.le_of_ble_eq_true rfl) (by decide) (cq0 hcs) rfl dL_law_2670 ?_
  refine sl_ieq hG 2743 rfl dL_law_2673 (by decide) ?_
  exact sl_wide ⟨Nat.le_add_right _ _, Nat.le_add_right _ _⟩ (k _ _ _ hI)
set_option maxRecDepth 100000 in
set_option maxHeartbeats 4000000 in
theorem law_45 {P : pS} (hP : Ap P) {Γ : jG Unit} (hG : jOk Γ (lS P) cL_law RL wsL_law room_1) (hN : Γ.2.1 = 7) (hfl : Γ.1.2.1.stackTraces = false) {cs : Nat × Nat} (hcs : cs.1 + 4 ≤ 601024 ∧ cs.2 + 24 ≤ 7293034) {t : Nat} (ht : t + 7 ≤ P.2.2.2.2.2.2.2.1) (hL : P.2.2.2.2.2.2.2.1 ≤ 3584) {v : mC} {w : mM} {o : Nat → Int32} (h : IV v w) (k : ∀ v' w' o', IV v' w' → Sm Γ (lS P) (cs.1 + 4, cs.2 + 24) 2743 (lsB P t) [] (m3 v' w' o') (some ())) : Sm Γ (lS P) cs 2678 (lsB P t) [] (m3 v w o) (some ()) := by
  obtain ⟨x, w2, hF, hF2, hI⟩ := op_collected h
  refine sm_aload_n hG 2679 rfl dL_law_2678 rfl 1 rfl ?_
  refine sl_callV hG (x := .int x) (v' := m3 v w o) (.inl (0, 0, 0)) [] 2682 rfl (ok0 (lC_ok hP)) ceS_0 (ci := 6) rfl (lift_C hP (c_X6_collected (lC_ok hP) hF)) gL_law_X6_collected rfl (by decide) (by decide) (n := 0) rfl (Nat.le_of_ble_eq_true rfl) (by decide) (cq0 hcs) rfl dL_law_2679 ?_
  refine sm_aload_n hG 2683 rfl dL_law_2682 rfl 2 rfl ?_
  refine sl_callV hG (x := .int x) (v' := m3 v w2 o) (.inr (.inl 0)) [] 2686 rfl (okm (lM_ok hP) (by decide)) meS_0 (ci := 7) rfl (lift_M hP (c_X7_collected (lM_ok hP) hF2)) gL_law_X7_collected rfl (by decide) (by decide) (n := 0) rfl (Nat.le_of_ble_eq_true rfl) (by decide) (cq0 hcs) rfl dL_law_2683 ?_
  refine sl_ieq hG 2743 rfl dL_law_2686 (by decide) ?_
  exact sl_wide ⟨Nat.le_add_right _ _, Nat.le_add_right _ _⟩ (k _ _ _ hI)
set_option maxRecDepth 100000 in
set_option maxHeartbeats 4000000 in
theorem law_46 {P : pS} (hP : Ap P) {Γ : jG Unit} (hG : jOk Γ (lS P) cL_law RL wsL_law room_1) (hN : Γ.2.1 = 7) (hfl : Γ.1.2.1.stackTraces = false) {cs : Nat × Nat} (hcs : cs.1 + 4 ≤ 601024 ∧ cs.2 + 24 ≤ 7293034) {t : Nat} (ht : t + 7 ≤ P.2.2.2.2.2.2.2.1) (hL : P.2.2.2.2.2.2.2.1 ≤ 3584) {v : mC} {w : mM} {o : Nat → Int32} (h : IV v w) (k : ∀ v' w' o', IV v' w' → Sm Γ (lS P) (cs.1 + 4, cs.2 + 24) 2743 (lsB P t) [] (m3 v' w' o') (some ())) : Sm Γ (lS P) cs 2691 (lsB P t) [] (m3 v w o) (some ()) := by
  obtain ⟨x, w2, hF, hF2, hI⟩ := op_fees h
  refine sm_aload_n hG 2692 rfl dL_law_2691 rfl 1 rfl ?_
  refine sl_callV hG (x := .int x) (v' := m3 v w o) (.inl (0, 0, 0)) [] 2695 rfl (ok0 (lC_ok hP)) ceS_0 (ci := 6) rfl (lift_C hP (c_X6_fees (lC_ok hP) hF)) gL_law_X6_fees rfl (by decide) (by decide) (n := 0) rfl (Nat.le_of_ble_eq_true rfl) (by decide) (cq0 hcs) rfl dL_law_2692 ?_
  refine sm_aload_n hG 2696 rfl dL_law_2695 rfl 2 rfl ?_
  refine sl_callV hG (x := .int x) (v' := m3 v w2 o) (.inr (.inl 0)) [] 2699 rfl (okm (lM_ok hP) (by decide)) meS_0 (ci := 7) rfl (lift_M hP (c_X7_fees (lM_ok hP) hF2)) gL_law_X7_fees rfl (by decide) (by decide) (n := 0) rfl (Nat.le_of_ble_eq_true rfl) (by decide) (cq0 hcs) rfl dL_law_2696 ?_
  refine sl_ieq hG 2743 rfl dL_law_2699 (by decide) ?_
  exact sl_wide ⟨Nat.le_add_right _ _, Nat.le_add_right _ _⟩ (k _ _ _ hI)
set_option maxRecDepth 100000 in
set_option maxHeartbeats 4000000 in
theorem law_47 {P : pS} (hP : Ap P) {Γ : jG Unit} (hG : jOk Γ (lS P) cL_law RL wsL_law room_1) (hN : Γ.2.1 = 7) (hfl : Γ.1.2.1.stackTraces = false) {cs : Nat × Nat} (hcs : cs.1 + 4 ≤ 601024 ∧ cs.2 + 24 ≤ 7293034) {t : Nat} (ht : t + 7 ≤ P.2.2.2.2.2.2.2.1) (hL : P.2.2.2.2.2.2.2.1 ≤ 3584) {v : mC} {w : mM} {o : Nat → Int32} (h : IV v w) (k : ∀ v' w' o', IV v' w' → Sm Γ (lS P) (cs.1 + 4, cs.2 + 24) 2743 (lsB P t) [] (m3 v' w' o') (some ())) : Sm Γ (lS P) cs 2704 (lsB P t) [] (m3 v w o) (some ()) := by
  obtain ⟨x, w2, hF, hF2, hI⟩ := op_fines h
  refine sm_aload_n hG 2705 rfl dL_law_2704 rfl 1 rfl ?_
  refine sl_callV hG (x := .int x) (v' := m3 v w o) (.inl (0, 0, 0)) [] 2708 rfl (ok0 (lC_ok hP)) ceS_0 (ci := 6) rfl (lift_C hP (c_X6_fines (lC_ok hP) hF)) gL_law_X6_fines rfl (by decide) (by decide) (n := 0) rfl (Nat.le_of_ble_eq_true rfl) (by decide) (cq0 hcs) rfl dL_law_2705 ?_
  refine sm_aload_n hG 2709 rfl dL_law_2708 rfl 2 rfl ?_
  refine sl_callV hG (x := .int x) (v' := m3 v w2 o) (.inr (.inl 0)) [] 2712 rfl (okm (lM_ok hP) (by decide)) meS_0 (ci := 7) rfl (lift_M hP (c_X7_fines (lM_ok hP) hF2)) gL_law_X7_fines rfl (by decide) (by decide) (n := 0) rfl (Nat.le_of_ble_eq_true rfl) (by decide) (cq0 hcs) rfl dL_law_2709 ?_
  refine sl_ieq hG 2743 rfl dL_law_2712 (by decide) ?_
  exact sl_wide ⟨Nat.le_add_right _ _, Nat.le_add_right _ _⟩ (k _ _ _ hI)
set_option maxRecDepth 100000 in
set_option maxHeartbeats 4000000 in
theorem law_48 {P : pS} (hP : Ap P) {Γ : jG Unit} (hG : jOk Γ (lS P) cL_law RL wsL_law room_1) (hN : Γ.2.1 = 7) (hfl : Γ.1.2.1.stackTraces = false) {cs : Nat × Nat} (hcs : cs.1 + 4 ≤ 601024 ∧ cs.2 + 24 ≤ 7293034) {t : Nat} (ht : t + 7 ≤ P.2.2.2.2.2.2.2.1) (hL : P.2.2.2.2.2.2.2.1 ≤ 3584) {v : mC} {w : mM} {o : Nat → Int32} (h : IV v w) (k : ∀ v' w' o', IV v' w' → Sm Γ (lS P) (cs.1 + 4, cs.2 + 24) 2743 (lsB P t) [] (m3 v' w' o') (some ())) : Sm Γ (lS P) cs 2717 (lsB P t) [] (m3 v w o) (some ()) := by
  obtain ⟨x, w2, hF, hF2, hI⟩ := op_day h
  refine sm_aload_n hG 2718 rfl dL_law_2717 rfl 1 rfl ?_
  refine sl_callV hG (x := .int x) (v' := m3 v w o) (.inl (0, 0, 0)) [] 2721 rfl (ok0 (lC_ok hP)) ceS_0 (ci := 6) rfl (lift_C hP (c_X6_day (lC_ok hP) hF)) gL_law_X6_day rfl (by decide) (by decide) (n := 0) rfl (Nat.le_of_ble_eq_true rfl) (by decide) (cq0 hcs) rfl dL_law_2718 ?_
  refine sm_aload_n hG 2722 rfl dL_law_2721 rfl 2 rfl ?_
  refine sl_callV hG (x := .int x) (v' := m3 v w2 o) (.inr (.inl 0)) [] 2725 rfl (okm (lM_ok hP) (by decide)) meS_0 (ci := 7) rfl (lift_M hP (c_X7_day (lM_ok hP) hF2)) gL_law_X7_day rfl (by decide) (by decide) (n := 0) rfl (Nat.le_of_ble_eq_true rfl) (by decide) (cq0 hcs) rfl dL_law_2722 ?_
  refine sl_ieq hG 2743 rfl dL_law_2725 (by decide) ?_
  exact sl_wide ⟨Nat.le_add_right _ _, Nat.le_add_right _ _⟩ (k _ _ _ hI)
set_option maxRecDepth 100000 in
set_option maxHeartbeats 4000000 in
theorem law_49 {P : pS} (hP : Ap P) {Γ : jG Unit} (hG : jOk Γ (lS P) cL_law RL wsL_law room_1) (hN : Γ.2.1 = 7) (hfl : Γ.1.2.1.stackTraces = false) {cs : Nat × Nat} (hcs : cs.1 + 4 ≤ 601024 ∧ cs.2 + 24 ≤ 7293034) {t : Nat} (ht : t + 7 ≤ P.2.2.2.2.2.2.2.1) (hL : P.2.2.2.2.2.2.2.1 ≤ 3584) {v : mC} {w : mM} {o : Nat → Int32} (h : IV v w) (k : ∀ v' w' o', IV v' w' → Sm Γ (lS P) (cs.1 + 4, cs.2 + 24) 2743 (lsB P t) [] (m3 v' w' o') (some ())) : Sm Γ (lS P) cs 2730 (lsB P t) [] (m3 v w o) (some ()) := by
  obtain ⟨x, w2, hF, hF2, hI⟩ := op_recordedStates h
  refine sm_aload_n hG 2731 rfl dL_law_2730 rfl 1 rfl ?_
  refine sl_callV hG (x := .int x) (v' := m3 v w o) (.inl (0, 0, 0)) [] 2734 rfl (ok0 (lC_ok hP)) ceS_0 (ci := 6) rfl (lift_C hP (c_X6_recordedStates (lC_ok hP) hF)) gL_law_X6_recordedStates rfl (by decide) (by decide) (n := 0) rfl (Nat.le_of_ble_eq_true rfl) (by decide) (cq0 hcs) rfl dL_law_2731 ?_
  refine sm_aload_n hG 2735 rfl dL_law_2734 rfl 2 rfl ?_
  refine sl_callV hG (x := .int x) (v' := m3 v w2 o) (.inr (.inl 0)) [] 2738 rfl (okm (lM_ok hP) (by decide)) meS_0 (ci := 7) rfl (lift_M hP (c_X7_recordedStates (lM_ok hP) hF2)) gL_law_X7_recordedStates rfl (by decide) (by decide) (n := 0) rfl (Nat.le_of_ble_eq_true rfl) (by decide) (cq0 hcs) rfl dL_law_2735 ?_
  refine sl_ieq hG 2743 rfl dL_law_2738 (by decide) ?_
  exact sl_wide ⟨Nat.le_add_right _ _, Nat.le_add_right _ _⟩ (k _ _ _ hI)
