/-! printed by wip/p53/jgen.py out of the bytecode: the walks that do not throw -/
abbrev rnX6_register : Room := { frames := 4, cells := 0, slots := 0, locals := 90 }
set_option maxRecDepth 100000 in
set_option maxHeartbeats 4000000 in
theorem c0_X6_register {Λ : jL kC} (hC : LC Λ) {x1 : Int32} {x2 : Int32} {x3 : Int32} {x4 : Int32} {x5 : Int32} {l : Launch} {v : mC} {r : Int32 × Nat × mC} (hr_ : f_X6_register x1 x2 x3 x4 x5 v = some r) (h0_ : r.2.1 = 0) : Ct l yX6_register wsX6_register rnX6_register Λ [.ref (Λ.2.2.2.1 (0, 0, 0)), .int x1, .int x2, .int x3, .int x4, .int x5] v (some (.int r.1)) r.2.2 := by
  refine ct0_of (cc := cX6_register) (maxL := 6) (ret := (some .int)) (fun (q : Int32 × Nat × mC) => (some (Value.int q.1), q.2)) (fun _ => rfl) hC.1 hr_ h0_ (by decide) rfl (Nat.le_of_ble_eq_true rfl) (fun Γ hG hT hN hl => ?_)
  subst hl
  have f10 : Cond.fieldLink RX6 10 "ChoirRegister" "book" "LChoirRegister$Book;" ∈ wsX6_register := by decide +kernel
  have u6 : ∀ w ∈ wsX60, w ∈ wsX6_register := by decide +kernel
  show Sm Γ Λ (0, 0) 0 [(0, .ref (Λ.2.2.2.1 (0, 0, 0))), (1, .int x1), (2, .int x2), (3, .int x3), (4, .int x4), (5, .int x5)] [] v _
  unfold f_X6_register
  refine sm_aload_n hG 1 rfl dX6_register_0 rfl 0 rfl ?_
  refine gC0_0 hG hC  4 rfl u6 f10 dX6_register_1 ?_
  refine sm_iload_n hG 5 rfl dX6_register_4 rfl 1 rfl ?_
  refine sm_iload_n hG 6 rfl dX6_register_5 rfl 2 rfl ?_
  refine sm_iload_n hG 7 rfl dX6_register_6 rfl 3 rfl ?_
  refine sm_iload hG 9 rfl dX6_register_7 4 rfl ?_
  refine sm_iload hG 11 rfl dX6_register_9 5 rfl ?_
  refine sm_callV hG (fun (q : Int32) => (some (Value.int q), v)) (1, 0, 0) [.int x1, .int x2, .int x3, .int x4, .int x5] 14 rfl (okb hC (by decide) (by decide)) (ce_1 hC _) (ci := 0) rfl (fun r_ hr_ => c_X0_refusalToEnrol hC (by decide)  hr_) gX6_register_X0_refusalToEnrol rfl (by decide) (by decide) (n := 5) rfl (Nat.le_of_ble_eq_true rfl) (by decide) (by decide) rfl dX6_register_11 (fun r_11 => ?_)
  refine sm_ncallS hG hT (finc := (fun (q : Int32 × Nat × mC) => ((none : Option Value), q.2))) (fun _ => rfl) [.int r_11] 17 rfl (fun r_ hr_ h0_ => c0_X6_refuseIf hC hr_ h0_) gX6_register_X6_refuseIf rfl (by decide) (by decide) (n := 1) rfl (Nat.le_of_ble_eq_true rfl) ⟨rfl, rfl⟩ (by decide) rfl dX6_register_14 (fun r_14 w_14 => ?_)
  refine sm_aload_n hG 18 rfl dX6_register_17 rfl 0 rfl ?_
  refine sm_callV hG (fun (w : mC) => ((none : Option Value), w)) (0, 0, 0) [] 21 rfl (ok0 hC) (ce_0 hC _) (ci := 6) rfl (fun r_ hr_ => c_X6_keepState hC   hr_) gX6_register_X6_keepState rfl (by decide) (by decide) (n := 0) rfl (Nat.le_of_ble_eq_true rfl) (by decide) (by decide) rfl dX6_register_18 (fun r_18 => ?_)
  refine sm_aload_n hG 22 rfl dX6_register_21 rfl 0 rfl ?_
  refine gC0_0 hG hC  25 rfl u6 f10 dX6_register_22 ?_
  refine sm_iload_n hG 26 rfl dX6_register_25 rfl 1 rfl ?_
  refine sm_iload_n hG 27 rfl dX6_register_26 rfl 2 rfl ?_
  refine sm_iload_n hG 28 rfl dX6_register_27 rfl 3 rfl ?_
  refine sm_iload hG 30 rfl dX6_register_28 4 rfl ?_
  refine sm_iload hG 32 rfl dX6_register_30 5 rfl ?_
  refine sm_callV hG (fun (q : Int32 × mC) => (some (Value.int q.1), q.2)) (1, 0, 0) [.int x1, .int x2, .int x3, .int x4, .int x5] 35 rfl (okb hC (by decide) (by decide)) (ce_1 hC _) (ci := 0) rfl (fun r_ hr_ => c_X0_enrol hC (by decide)  hr_) gX6_register_X0_enrol rfl (by decide) (by decide) (n := 5) rfl (Nat.le_of_ble_eq_true rfl) (by decide) (by decide) rfl dX6_register_32 (fun r_32 => ?_)
  exact sm_niret hG hT (by decide) dX6_register_35 rfl
theorem c0n_X6_register {Λ : jL kC} (hC : LC Λ) {x1 : Int32} {x2 : Int32} {x3 : Int32} {x4 : Int32} {x5 : Int32} {l : Launch} {v : mC} {r : Int32 × mC} (hr_ : nn (f_X6_register x1 x2 x3 x4 x5 v) = some r) : Ct l yX6_register wsX6_register rnX6_register Λ [.ref (Λ.2.2.2.1 (0, 0, 0)), .int x1, .int x2, .int x3, .int x4, .int x5] v (some (.int r.1)) r.2 := by
  obtain ⟨q, h1, h2, h3⟩ := nn_s hr_
  subst h3
  exact c0_X6_register hC h1 h2
abbrev rnX6_leave : Room := { frames := 4, cells := 0, slots := 0, locals := 89 }
set_option maxRecDepth 100000 in
set_option maxHeartbeats 4000000 in
theorem c0_X6_leave {Λ : jL kC} (hC : LC Λ) {x1 : Int32} {l : Launch} {v : mC} {r : Int32 × Nat × mC} (hr_ : f_X6_leave x1 v = some r) (h0_ : r.2.1 = 0) : Ct l yX6_leave wsX6_leave rnX6_leave Λ [.ref (Λ.2.2.2.1 (0, 0, 0)), .int x1] v (some (.int r.1)) r.2.2 := by
  refine ct0_of (cc := cX6_leave) (maxL := 2) (ret := (some .int)) (fun (q : Int32 × Nat × mC) => (some (Value.int q.1), q.2)) (fun _ => rfl) hC.1 hr_ h0_ (by decide) rfl (Nat.le_of_ble_eq_true rfl) (fun Γ hG hT hN hl => ?_)
  subst hl
  have f10 : Cond.fieldLink RX6 10 "ChoirRegister" "book" "LChoirRegister$Book;" ∈ wsX6_leave := by decide +kernel
  have u6 : ∀ w ∈ wsX60, w ∈ wsX6_leave := by decide +kernel
  show Sm Γ Λ (0, 0) 0 [(0, .ref (Λ.2.2.2.1 (0, 0, 0))), (1, .int x1)] [] v _
  unfold f_X6_leave
  refine sm_aload_n hG 1 rfl dX6_leave_0 rfl 0 rfl ?_
  refine gC0_0 hG hC  4 rfl u6 f10 dX6_leave_1 ?_
  refine sm_iload_n hG 5 rfl dX6_leave_4 rfl 1 rfl ?_
  refine sm_callV hG (fun (q : Int32) => (some (Value.int q), v)) (1, 0, 0) [.int x1] 8 rfl (okb hC (by decide) (by decide)) (ce_1 hC _) (ci := 0) rfl (fun r_ hr_ => c_X0_refusalToDismiss hC (by decide)  hr_) gX6_leave_X0_refusalToDismiss rfl (by decide) (by decide) (n := 1) rfl (Nat.le_of_ble_eq_true rfl) (by decide) (by decide) rfl dX6_leave_5 (fun r_5 => ?_)
  refine sm_ncallS hG hT (finc := (fun (q : Int32 × Nat × mC) => ((none : Option Value), q.2))) (fun _ => rfl) [.int r_5] 11 rfl (fun r_ hr_ h0_ => c0_X6_refuseIf hC hr_ h0_) gX6_leave_X6_refuseIf rfl (by decide) (by decide) (n := 1) rfl (Nat.le_of_ble_eq_true rfl) ⟨rfl, rfl⟩ (by decide) rfl dX6_leave_8 (fun r_8 w_8 => ?_)
  refine sm_aload_n hG 12 rfl dX6_leave_11 rfl 0 rfl ?_
  refine sm_callV hG (fun (w : mC) => ((none : Option Value), w)) (0, 0, 0) [] 15 rfl (ok0 hC) (ce_0 hC _) (ci := 6) rfl (fun r_ hr_ => c_X6_keepState hC   hr_) gX6_leave_X6_keepState rfl (by decide) (by decide) (n := 0) rfl (Nat.le_of_ble_eq_true rfl) (by decide) (by decide) rfl dX6_leave_12 (fun r_12 => ?_)
  refine sm_aload_n hG 16 rfl dX6_leave_15 rfl 0 rfl ?_
  refine gC0_0 hG hC  19 rfl u6 f10 dX6_leave_16 ?_
  refine sm_iload_n hG 20 rfl dX6_leave_19 rfl 1 rfl ?_
  refine sm_callV hG (fun (q : Int32 × mC) => (some (Value.int q.1), q.2)) (1, 0, 0) [.int x1] 23 rfl (okb hC (by decide) (by decide)) (ce_1 hC _) (ci := 0) rfl (fun r_ hr_ => c_X0_dismiss hC (by decide)  hr_) gX6_leave_X0_dismiss rfl (by decide) (by decide) (n := 1) rfl (Nat.le_of_ble_eq_true rfl) (by decide) (by decide) rfl dX6_leave_20 (fun r_20 => ?_)
  exact sm_niret hG hT (by decide) dX6_leave_23 rfl
theorem c0n_X6_leave {Λ : jL kC} (hC : LC Λ) {x1 : Int32} {l : Launch} {v : mC} {r : Int32 × mC} (hr_ : nn (f_X6_leave x1 v) = some r) : Ct l yX6_leave wsX6_leave rnX6_leave Λ [.ref (Λ.2.2.2.1 (0, 0, 0)), .int x1] v (some (.int r.1)) r.2 := by
  obtain ⟨q, h1, h2, h3⟩ := nn_s hr_
  subst h3
  exact c0_X6_leave hC h1 h2
abbrev rnX6_borrow : Room := { frames := 4, cells := 0, slots := 0, locals := 92 }
set_option maxRecDepth 100000 in
set_option maxHeartbeats 4000000 in
theorem c0_X6_borrow {Λ : jL kC} (hC : LC Λ) {x1 : Int32} {x2 : Int32} {x3 : Int32} {x4 : Int32} {x5 : Int32} {x6 : Int32} {l : Launch} {v : mC} {r : Int32 × Nat × mC} (hr_ : f_X6_borrow x1 x2 x3 x4 x5 x6 v = some r) (h0_ : r.2.1 = 0) : Ct l yX6_borrow wsX6_borrow rnX6_borrow Λ [.ref (Λ.2.2.2.1 (0, 0, 0)), .int x1, .int x2, .int x3, .int x4, .int x5, .int x6] v (some (.int r.1)) r.2.2 := by
  refine ct0_of (cc := cX6_borrow) (maxL := 7) (ret := (some .int)) (fun (q : Int32 × Nat × mC) => (some (Value.int q.1), q.2)) (fun _ => rfl) hC.1 hr_ h0_ (by decide) rfl (Nat.le_of_ble_eq_true rfl) (fun Γ hG hT hN hl => ?_)
  subst hl
  have f10 : Cond.fieldLink RX6 10 "ChoirRegister" "book" "LChoirRegister$Book;" ∈ wsX6_borrow := by decide +kernel
  have u6 : ∀ w ∈ wsX60, w ∈ wsX6_borrow := by decide +kernel
  show Sm Γ Λ (0, 0) 0 [(0, .ref (Λ.2.2.2.1 (0, 0, 0))), (1, .int x1), (2, .int x2), (3, .int x3), (4, .int x4), (5, .int x5), (6, .int x6)] [] v _
  unfold f_X6_borrow
  refine sm_aload_n hG 1 rfl dX6_borrow_0 rfl 0 rfl ?_
  refine gC0_0 hG hC  4 rfl u6 f10 dX6_borrow_1 ?_
  refine sm_iload_n hG 5 rfl dX6_borrow_4 rfl 1 rfl ?_
  refine sm_iload_n hG 6 rfl dX6_borrow_5 rfl 2 rfl ?_
  refine sm_iload_n hG 7 rfl dX6_borrow_6 rfl 3 rfl ?_
  refine sm_iload hG 9 rfl dX6_borrow_7 4 rfl ?_
  refine sm_iload hG 11 rfl dX6_borrow_9 5 rfl ?_
  refine sm_iload hG 13 rfl dX6_borrow_11 6 rfl ?_
  refine sm_callV hG (fun (q : Int32) => (some (Value.int q), v)) (1, 0, 0) [.int x1, .int x2, .int x3, .int x4, .int x5, .int x6] 16 rfl (okb hC (by decide) (by decide)) (ce_1 hC _) (ci := 0) rfl (fun r_ hr_ => c_X0_refusalToHire hC (by decide)  hr_) gX6_borrow_X0_refusalToHire rfl (by decide) (by decide) (n := 6) rfl (Nat.le_of_ble_eq_true rfl) (by decide) (by decide) rfl dX6_borrow_13 (fun r_13 => ?_)
  refine sm_ncallS hG hT (finc := (fun (q : Int32 × Nat × mC) => ((none : Option Value), q.2))) (fun _ => rfl) [.int r_13] 19 rfl (fun r_ hr_ h0_ => c0_X6_refuseIf hC hr_ h0_) gX6_borrow_X6_refuseIf rfl (by decide) (by decide) (n := 1) rfl (Nat.le_of_ble_eq_true rfl) ⟨rfl, rfl⟩ (by decide) rfl dX6_borrow_16 (fun r_16 w_16 => ?_)
  refine sm_aload_n hG 20 rfl dX6_borrow_19 rfl 0 rfl ?_
  refine sm_callV hG (fun (w : mC) => ((none : Option Value), w)) (0, 0, 0) [] 23 rfl (ok0 hC) (ce_0 hC _) (ci := 6) rfl (fun r_ hr_ => c_X6_keepState hC   hr_) gX6_borrow_X6_keepState rfl (by decide) (by decide) (n := 0) rfl (Nat.le_of_ble_eq_true rfl) (by decide) (by decide) rfl dX6_borrow_20 (fun r_20 => ?_)
  refine sm_aload_n hG 24 rfl dX6_borrow_23 rfl 0 rfl ?_
  refine gC0_0 hG hC  27 rfl u6 f10 dX6_borrow_24 ?_
  refine sm_iload_n hG 28 rfl dX6_borrow_27 rfl 1 rfl ?_
  refine sm_iload_n hG 29 rfl dX6_borrow_28 rfl 2 rfl ?_
  refine sm_iload_n hG 30 rfl dX6_borrow_29 rfl 3 rfl ?_
  refine sm_iload hG 32 rfl dX6_borrow_30 4 rfl ?_
  refine sm_iload hG 34 rfl dX6_borrow_32 5 rfl ?_
  refine sm_iload hG 36 rfl dX6_borrow_34 6 rfl ?_
  refine sm_callV hG (fun (q : Int32 × mC) => (some (Value.int q.1), q.2)) (1, 0, 0) [.int x1, .int x2, .int x3, .int x4, .int x5, .int x6] 39 rfl (okb hC (by decide) (by decide)) (ce_1 hC _) (ci := 0) rfl (fun r_ hr_ => c_X0_hire hC (by decide)  hr_) gX6_borrow_X0_hire rfl (by decide) (by decide) (n := 6) rfl (Nat.le_of_ble_eq_true rfl) (by decide) (by decide) rfl dX6_borrow_36 (fun r_36 => ?_)
  exact sm_niret hG hT (by decide) dX6_borrow_39 rfl
theorem c0n_X6_borrow {Λ : jL kC} (hC : LC Λ) {x1 : Int32} {x2 : Int32} {x3 : Int32} {x4 : Int32} {x5 : Int32} {x6 : Int32} {l : Launch} {v : mC} {r : Int32 × mC} (hr_ : nn (f_X6_borrow x1 x2 x3 x4 x5 x6 v) = some r) : Ct l yX6_borrow wsX6_borrow rnX6_borrow Λ [.ref (Λ.2.2.2.1 (0, 0, 0)), .int x1, .int x2, .int x3, .int x4, .int x5, .int x6] v (some (.int r.1)) r.2 := by
  obtain ⟨q, h1, h2, h3⟩ := nn_s hr_
  subst h3
  exact c0_X6_borrow hC h1 h2
abbrev rnX6_lend : Room := { frames := 4, cells := 0, slots := 0, locals := 89 }
set_option maxRecDepth 100000 in
set_option maxHeartbeats 4000000 in
theorem c0_X6_lend {Λ : jL kC} (hC : LC Λ) {x1 : Int32} {x2 : Int32} {x3 : Int32} {l : Launch} {v : mC} {r : Int32 × Nat × mC} (hr_ : f_X6_lend x1 x2 x3 v = some r) (h0_ : r.2.1 = 0) : Ct l yX6_lend wsX6_lend rnX6_lend Λ [.ref (Λ.2.2.2.1 (0, 0, 0)), .int x1, .int x2, .int x3] v (some (.int r.1)) r.2.2 := by
  refine ct0_of (cc := cX6_lend) (maxL := 4) (ret := (some .int)) (fun (q : Int32 × Nat × mC) => (some (Value.int q.1), q.2)) (fun _ => rfl) hC.1 hr_ h0_ (by decide) rfl (Nat.le_of_ble_eq_true rfl) (fun Γ hG hT hN hl => ?_)
  subst hl
  have f10 : Cond.fieldLink RX6 10 "ChoirRegister" "book" "LChoirRegister$Book;" ∈ wsX6_lend := by decide +kernel
  have u6 : ∀ w ∈ wsX60, w ∈ wsX6_lend := by decide +kernel
  show Sm Γ Λ (0, 0) 0 [(0, .ref (Λ.2.2.2.1 (0, 0, 0))), (1, .int x1), (2, .int x2), (3, .int x3)] [] v _
  unfold f_X6_lend
  refine sm_aload_n hG 1 rfl dX6_lend_0 rfl 0 rfl ?_
  refine gC0_0 hG hC  4 rfl u6 f10 dX6_lend_1 ?_
  refine sm_iload_n hG 5 rfl dX6_lend_4 rfl 1 rfl ?_
  refine sm_iload_n hG 6 rfl dX6_lend_5 rfl 2 rfl ?_
  refine sm_iload_n hG 7 rfl dX6_lend_6 rfl 3 rfl ?_
  refine sm_callV hG (fun (q : Int32) => (some (Value.int q), v)) (1, 0, 0) [.int x1, .int x2, .int x3] 10 rfl (okb hC (by decide) (by decide)) (ce_1 hC _) (ci := 0) rfl (fun r_ hr_ => c_X0_refusalToSendAway hC (by decide)  hr_) gX6_lend_X0_refusalToSendAway rfl (by decide) (by decide) (n := 3) rfl (Nat.le_of_ble_eq_true rfl) (by decide) (by decide) rfl dX6_lend_7 (fun r_7 => ?_)
  refine sm_ncallS hG hT (finc := (fun (q : Int32 × Nat × mC) => ((none : Option Value), q.2))) (fun _ => rfl) [.int r_7] 13 rfl (fun r_ hr_ h0_ => c0_X6_refuseIf hC hr_ h0_) gX6_lend_X6_refuseIf rfl (by decide) (by decide) (n := 1) rfl (Nat.le_of_ble_eq_true rfl) ⟨rfl, rfl⟩ (by decide) rfl dX6_lend_10 (fun r_10 w_10 => ?_)
  refine sm_aload_n hG 14 rfl dX6_lend_13 rfl 0 rfl ?_
  refine sm_callV hG (fun (w : mC) => ((none : Option Value), w)) (0, 0, 0) [] 17 rfl (ok0 hC) (ce_0 hC _) (ci := 6) rfl (fun r_ hr_ => c_X6_keepState hC   hr_) gX6_lend_X6_keepState rfl (by decide) (by decide) (n := 0) rfl (Nat.le_of_ble_eq_true rfl) (by decide) (by decide) rfl dX6_lend_14 (fun r_14 => ?_)
  refine sm_aload_n hG 18 rfl dX6_lend_17 rfl 0 rfl ?_
  refine gC0_0 hG hC  21 rfl u6 f10 dX6_lend_18 ?_
  refine sm_iload_n hG 22 rfl dX6_lend_21 rfl 1 rfl ?_
  refine sm_iload_n hG 23 rfl dX6_lend_22 rfl 2 rfl ?_
  refine sm_iload_n hG 24 rfl dX6_lend_23 rfl 3 rfl ?_
  refine sm_callV hG (fun (q : Int32 × mC) => (some (Value.int q.1), q.2)) (1, 0, 0) [.int x1, .int x2, .int x3] 27 rfl (okb hC (by decide) (by decide)) (ce_1 hC _) (ci := 0) rfl (fun r_ hr_ => c_X0_sendAway hC (by decide)  hr_) gX6_lend_X0_sendAway rfl (by decide) (by decide) (n := 3) rfl (Nat.le_of_ble_eq_true rfl) (by decide) (by decide) rfl dX6_lend_24 (fun r_24 => ?_)
  exact sm_niret hG hT (by decide) dX6_lend_27 rfl
theorem c0n_X6_lend {Λ : jL kC} (hC : LC Λ) {x1 : Int32} {x2 : Int32} {x3 : Int32} {l : Launch} {v : mC} {r : Int32 × mC} (hr_ : nn (f_X6_lend x1 x2 x3 v) = some r) : Ct l yX6_lend wsX6_lend rnX6_lend Λ [.ref (Λ.2.2.2.1 (0, 0, 0)), .int x1, .int x2, .int x3] v (some (.int r.1)) r.2 := by
  obtain ⟨q, h1, h2, h3⟩ := nn_s hr_
  subst h3
  exact c0_X6_lend hC h1 h2
abbrev rnX6_excuse : Room := { frames := 4, cells := 0, slots := 0, locals := 89 }
set_option maxRecDepth 100000 in
set_option maxHeartbeats 4000000 in
theorem c0_X6_excuse {Λ : jL kC} (hC : LC Λ) {x1 : Int32} {x2 : Int32} {x3 : Int32} {l : Launch} {v : mC} {r : Int32 × Nat × mC} (hr_ : f_X6_excuse x1 x2 x3 v = some r) (h0_ : r.2.1 = 0) : Ct l yX6_excuse wsX6_excuse rnX6_excuse Λ [.ref (Λ.2.2.2.1 (0, 0, 0)), .int x1, .int x2, .int x3] v (some (.int r.1)) r.2.2 := by
  refine ct0_of (cc := cX6_excuse) (maxL := 4) (ret := (some .int)) (fun (q : Int32 × Nat × mC) => (some (Value.int q.1), q.2)) (fun _ => rfl) hC.1 hr_ h0_ (by decide) rfl (Nat.le_of_ble_eq_true rfl) (fun Γ hG hT hN hl => ?_)
  subst hl
  have f10 : Cond.fieldLink RX6 10 "ChoirRegister" "book" "LChoirRegister$Book;" ∈ wsX6_excuse := by decide +kernel
  have u6 : ∀ w ∈ wsX60, w ∈ wsX6_excuse := by decide +kernel
  show Sm Γ Λ (0, 0) 0 [(0, .ref (Λ.2.2.2.1 (0, 0, 0))), (1, .int x1), (2, .int x2), (3, .int x3)] [] v _
  unfold f_X6_excuse
  refine sm_aload_n hG 1 rfl dX6_excuse_0 rfl 0 rfl ?_
  refine gC0_0 hG hC  4 rfl u6 f10 dX6_excuse_1 ?_
  refine sm_iload_n hG 5 rfl dX6_excuse_4 rfl 1 rfl ?_
  refine sm_iload_n hG 6 rfl dX6_excuse_5 rfl 2 rfl ?_
  refine sm_iload_n hG 7 rfl dX6_excuse_6 rfl 3 rfl ?_
  refine sm_callV hG (fun (q : Int32) => (some (Value.int q), v)) (1, 0, 0) [.int x1, .int x2, .int x3] 10 rfl (okb hC (by decide) (by decide)) (ce_1 hC _) (ci := 0) rfl (fun r_ hr_ => c_X0_refusalToTakeNote hC (by decide)  hr_) gX6_excuse_X0_refusalToTakeNote rfl (by decide) (by decide) (n := 3) rfl (Nat.le_of_ble_eq_true rfl) (by decide) (by decide) rfl dX6_excuse_7 (fun r_7 => ?_)
  refine sm_ncallS hG hT (finc := (fun (q : Int32 × Nat × mC) => ((none : Option Value), q.2))) (fun _ => rfl) [.int r_7] 13 rfl (fun r_ hr_ h0_ => c0_X6_refuseIf hC hr_ h0_) gX6_excuse_X6_refuseIf rfl (by decide) (by decide) (n := 1) rfl (Nat.le_of_ble_eq_true rfl) ⟨rfl, rfl⟩ (by decide) rfl dX6_excuse_10 (fun r_10 w_10 => ?_)
  refine sm_aload_n hG 14 rfl dX6_excuse_13 rfl 0 rfl ?_
  refine sm_callV hG (fun (w : mC) => ((none : Option Value), w)) (0, 0, 0) [] 17 rfl (ok0 hC) (ce_0 hC _) (ci := 6) rfl (fun r_ hr_ => c_X6_keepState hC   hr_) gX6_excuse_X6_keepState rfl (by decide) (by decide) (n := 0) rfl (Nat.le_of_ble_eq_true rfl) (by decide) (by decide) rfl dX6_excuse_14 (fun r_14 => ?_)
  refine sm_aload_n hG 18 rfl dX6_excuse_17 rfl 0 rfl ?_
  refine gC0_0 hG hC  21 rfl u6 f10 dX6_excuse_18 ?_
  refine sm_iload_n hG 22 rfl dX6_excuse_21 rfl 1 rfl ?_
  refine sm_iload_n hG 23 rfl dX6_excuse_22 rfl 2 rfl ?_
  refine sm_iload_n hG 24 rfl dX6_excuse_23 rfl 3 rfl ?_
  refine sm_callV hG (fun (q : Int32 × mC) => (some (Value.int q.1), q.2)) (1, 0, 0) [.int x1, .int x2, .int x3] 27 rfl (okb hC (by decide) (by decide)) (ce_1 hC _) (ci := 0) rfl (fun r_ hr_ => c_X0_takeNote hC (by decide)  hr_) gX6_excuse_X0_takeNote rfl (by decide) (by decide) (n := 3) rfl (Nat.le_of_ble_eq_true rfl) (by decide) (by decide) rfl dX6_excuse_24 (fun r_24 => ?_)
  exact sm_niret hG hT (by decide) dX6_excuse_27 rfl
theorem c0n_X6_excuse {Λ : jL kC} (hC : LC Λ) {x1 : Int32} {x2 : Int32} {x3 : Int32} {l : Launch} {v : mC} {r : Int32 × mC} (hr_ : nn (f_X6_excuse x1 x2 x3 v) = some r) : Ct l yX6_excuse wsX6_excuse rnX6_excuse Λ [.ref (Λ.2.2.2.1 (0, 0, 0)), .int x1, .int x2, .int x3] v (some (.int r.1)) r.2 := by
  obtain ⟨q, h1, h2, h3⟩ := nn_s hr_
  subst h3
  exact c0_X6_excuse hC h1 h2
abbrev rnX6_announce : Room := { frames := 4, cells := 0, slots := 0, locals := 89 }
set_option maxRecDepth 100000 in
set_option maxHeartbeats 4000000 in
theorem c0_X6_announce {Λ : jL kC} (hC : LC Λ) {x1 : Int32} {x2 : Int32} {l : Launch} {v : mC} {r : Int32 × Nat × mC} (hr_ : f_X6_announce x1 x2 v = some r) (h0_ : r.2.1 = 0) : Ct l yX6_announce wsX6_announce rnX6_announce Λ [.ref (Λ.2.2.2.1 (0, 0, 0)), .int x1, .int x2] v (some (.int r.1)) r.2.2 := by
  refine ct0_of (cc := cX6_announce) (maxL := 3) (ret := (some .int)) (fun (q : Int32 × Nat × mC) => (some (Value.int q.1), q.2)) (fun _ => rfl) hC.1 hr_ h0_ (by decide) rfl (Nat.le_of_ble_eq_true rfl) (fun Γ hG hT hN hl => ?_)
  subst hl
  have f10 : Cond.fieldLink RX6 10 "ChoirRegister" "book" "LChoirRegister$Book;" ∈ wsX6_announce := by decide +kernel
  have u6 : ∀ w ∈ wsX60, w ∈ wsX6_announce := by decide +kernel
  show Sm Γ Λ (0, 0) 0 [(0, .ref (Λ.2.2.2.1 (0, 0, 0))), (1, .int x1), (2, .int x2)] [] v _
  unfold f_X6_announce
  refine sm_aload_n hG 1 rfl dX6_announce_0 rfl 0 rfl ?_
  refine gC0_0 hG hC  4 rfl u6 f10 dX6_announce_1 ?_
  refine sm_iload_n hG 5 rfl dX6_announce_4 rfl 1 rfl ?_
  refine sm_iload_n hG 6 rfl dX6_announce_5 rfl 2 rfl ?_
  refine sm_callV hG (fun (q : Int32) => (some (Value.int q), v)) (1, 0, 0) [.int x1, .int x2] 9 rfl (okb hC (by decide) (by decide)) (ce_1 hC _) (ci := 0) rfl (fun r_ hr_ => c_X0_refusalToAddFeast hC (by decide)  hr_) gX6_announce_X0_refusalToAddFeast rfl (by decide) (by decide) (n := 2) rfl (Nat.le_of_ble_eq_true rfl) (by decide) (by decide) rfl dX6_announce_6 (fun r_6 => ?_)
  refine sm_ncallS hG hT (finc := (fun (q : Int32 × Nat × mC) => ((none : Option Value), q.2))) (fun _ => rfl) [.int r_6] 12 rfl (fun r_ hr_ h0_ => c0_X6_refuseIf hC hr_ h0_) gX6_announce_X6_refuseIf rfl (by decide) (by decide) (n := 1) rfl (Nat.le_of_ble_eq_true rfl) ⟨rfl, rfl⟩ (by decide) rfl dX6_announce_9 (fun r_9 w_9 => ?_)
  refine sm_aload_n hG 13 rfl dX6_announce_12 rfl 0 rfl ?_
  refine sm_callV hG (fun (w : mC) => ((none : Option Value), w)) (0, 0, 0) [] 16 rfl (ok0 hC) (ce_0 hC _) (ci := 6) rfl (fun r_ hr_ => c_X6_keepState hC   hr_) gX6_announce_X6_keepState rfl (by decide) (by decide) (n := 0) rfl (Nat.le_of_ble_eq_true rfl) (by decide) (by decide) rfl dX6_announce_13 (fun r_13 => ?_)
  refine sm_aload_n hG 17 rfl dX6_announce_16 rfl 0 rfl ?_
  refine gC0_0 hG hC  20 rfl u6 f10 dX6_announce_17 ?_
  refine sm_iload_n hG 21 rfl dX6_announce_20 rfl 1 rfl ?_
  refine sm_iload_n hG 22 rfl dX6_announce_21 rfl 2 rfl ?_
  refine sm_callV hG (fun (q : Int32 × mC) => (some (Value.int q.1), q.2)) (1, 0, 0) [.int x1, .int x2] 25 rfl (okb hC (by decide) (by decide)) (ce_1 hC _) (ci := 0) rfl (fun r_ hr_ => c_X0_addFeast hC (by decide)  hr_) gX6_announce_X0_addFeast rfl (by decide) (by decide) (n := 2) rfl (Nat.le_of_ble_eq_true rfl) (by decide) (by decide) rfl dX6_announce_22 (fun r_22 => ?_)
  exact sm_niret hG hT (by decide) dX6_announce_25 rfl
theorem c0n_X6_announce {Λ : jL kC} (hC : LC Λ) {x1 : Int32} {x2 : Int32} {l : Launch} {v : mC} {r : Int32 × mC} (hr_ : nn (f_X6_announce x1 x2 v) = some r) : Ct l yX6_announce wsX6_announce rnX6_announce Λ [.ref (Λ.2.2.2.1 (0, 0, 0)), .int x1, .int x2] v (some (.int r.1)) r.2 := by
  obtain ⟨q, h1, h2, h3⟩ := nn_s hr_
  subst h3
  exact c0_X6_announce hC h1 h2
abbrev rnX6_setLine : Room := { frames := 4, cells := 0, slots := 0, locals := 89 }
set_option maxRecDepth 100000 in
set_option maxHeartbeats 4000000 in
theorem c0_X6_setLine {Λ : jL kC} (hC : LC Λ) {x1 : Int32} {x2 : Int32} {x3 : Int32} {x4 : Int32} {x5 : Int32} {l : Launch} {v : mC} {r : Int32 × Nat × mC} (hr_ : f_X6_setLine x1 x2 x3 x4 x5 v = some r) (h0_ : r.2.1 = 0) : Ct l yX6_setLine wsX6_setLine rnX6_setLine Λ [.ref (Λ.2.2.2.1 (0, 0, 0)), .int x1, .int x2, .int x3, .int x4, .int x5] v (some (.int r.1)) r.2.2 := by
  refine ct0_of (cc := cX6_setLine) (maxL := 6) (ret := (some .int)) (fun (q : Int32 × Nat × mC) => (some (Value.int q.1), q.2)) (fun _ => rfl) hC.1 hr_ h0_ (by decide) rfl (Nat.le_of_ble_eq_true rfl) (fun Γ hG hT hN hl => ?_)
  subst hl
  have f10 : Cond.fieldLink RX6 10 "ChoirRegister" "book" "LChoirRegister$Book;" ∈ wsX6_setLine := by decide +kernel
  have u6 : ∀ w ∈ wsX60, w ∈ wsX6_setLine := by decide +kernel
  show Sm Γ Λ (0, 0) 0 [(0, .ref (Λ.2.2.2.1 (0, 0, 0))), (1, .int x1), (2, .int x2), (3, .int x3), (4, .int x4), (5, .int x5)] [] v _
  unfold f_X6_setLine
  refine sm_aload_n hG 1 rfl dX6_setLine_0 rfl 0 rfl ?_
  refine gC0_0 hG hC  4 rfl u6 f10 dX6_setLine_1 ?_
  refine sm_iload_n hG 5 rfl dX6_setLine_4 rfl 1 rfl ?_
  refine sm_iload_n hG 6 rfl dX6_setLine_5 rfl 2 rfl ?_
  refine sm_iload_n hG 7 rfl dX6_setLine_6 rfl 3 rfl ?_
  refine sm_iload hG 9 rfl dX6_setLine_7 4 rfl ?_
  refine sm_iload hG 11 rfl dX6_setLine_9 5 rfl ?_
  refine sm_callV hG (fun (q : Int32) => (some (Value.int q), v)) (1, 0, 0) [.int x1, .int x2, .int x3, .int x4, .int x5] 14 rfl (okb hC (by decide) (by decide)) (ce_1 hC _) (ci := 0) rfl (fun r_ hr_ => c_X0_refusalToArrange hC (by decide)  hr_) gX6_setLine_X0_refusalToArrange rfl (by decide) (by decide) (n := 5) rfl (Nat.le_of_ble_eq_true rfl) (by decide) (by decide) rfl dX6_setLine_11 (fun r_11 => ?_)
  refine sm_ncallS hG hT (finc := (fun (q : Int32 × Nat × mC) => ((none : Option Value), q.2))) (fun _ => rfl) [.int r_11] 17 rfl (fun r_ hr_ h0_ => c0_X6_refuseIf hC hr_ h0_) gX6_setLine_X6_refuseIf rfl (by decide) (by decide) (n := 1) rfl (Nat.le_of_ble_eq_true rfl) ⟨rfl, rfl⟩ (by decide) rfl dX6_setLine_14 (fun r_14 w_14 => ?_)
  refine sm_aload_n hG 18 rfl dX6_setLine_17 rfl 0 rfl ?_
  refine sm_callV hG (fun (w : mC) => ((none : Option Value), w)) (0, 0, 0) [] 21 rfl (ok0 hC) (ce_0 hC _) (ci := 6) rfl (fun r_ hr_ => c_X6_keepState hC   hr_) gX6_setLine_X6_keepState rfl (by decide) (by decide) (n := 0) rfl (Nat.le_of_ble_eq_true rfl) (by decide) (by decide) rfl dX6_setLine_18 (fun r_18 => ?_)
  refine sm_aload_n hG 22 rfl dX6_setLine_21 rfl 0 rfl ?_
  refine gC0_0 hG hC  25 rfl u6 f10 dX6_setLine_22 ?_
  refine sm_iload_n hG 26 rfl dX6_setLine_25 rfl 1 rfl ?_
  refine sm_iload_n hG 27 rfl dX6_setLine_26 rfl 2 rfl ?_
  refine sm_iload_n hG 28 rfl dX6_setLine_27 rfl 3 rfl ?_
  refine sm_iload hG 30 rfl dX6_setLine_28 4 rfl ?_
  refine sm_iload hG 32 rfl dX6_setLine_30 5 rfl ?_
  refine sm_callV hG (fun (q : Int32 × mC) => (some (Value.int q.1), q.2)) (1, 0, 0) [.int x1, .int x2, .int x3, .int x4, .int x5] 35 rfl (okb hC (by decide) (by decide)) (ce_1 hC _) (ci := 0) rfl (fun r_ hr_ => c_X0_arrange hC (by decide)  hr_) gX6_setLine_X0_arrange rfl (by decide) (by decide) (n := 5) rfl (Nat.le_of_ble_eq_true rfl) (by decide) (by decide) rfl dX6_setLine_32 (fun r_32 => ?_)
  exact sm_niret hG hT (by decide) dX6_setLine_35 rfl
theorem c0n_X6_setLine {Λ : jL kC} (hC : LC Λ) {x1 : Int32} {x2 : Int32} {x3 : Int32} {x4 : Int32} {x5 : Int32} {l : Launch} {v : mC} {r : Int32 × mC} (hr_ : nn (f_X6_setLine x1 x2 x3 x4 x5 v) = some r) : Ct l yX6_setLine wsX6_setLine rnX6_setLine Λ [.ref (Λ.2.2.2.1 (0, 0, 0)), .int x1, .int x2, .int x3, .int x4, .int x5] v (some (.int r.1)) r.2 := by
  obtain ⟨q, h1, h2, h3⟩ := nn_s hr_
  subst h3
  exact c0_X6_setLine hC h1 h2
abbrev rnX6_passDays : Room := { frames := 5, cells := 0, slots := 0, locals := 123 }
set_option maxRecDepth 100000 in
set_option maxHeartbeats 4000000 in
theorem c0_X6_passDays {Λ : jL kC} (hC : LC Λ) {x1 : Int32} {l : Launch} {v : mC} {r : Int32 × Nat × mC} (hr_ : f_X6_passDays x1 v = some r) (h0_ : r.2.1 = 0) : Ct l yX6_passDays wsX6_passDays rnX6_passDays Λ [.ref (Λ.2.2.2.1 (0, 0, 0)), .int x1] v (some (.int r.1)) r.2.2 := by
  refine ct0_of (cc := cX6_passDays) (maxL := 2) (ret := (some .int)) (fun (q : Int32 × Nat × mC) => (some (Value.int q.1), q.2)) (fun _ => rfl) hC.1 hr_ h0_ (by decide) rfl (Nat.le_of_ble_eq_true rfl) (fun Γ hG hT hN hl => ?_)
  subst hl
  have f10 : Cond.fieldLink RX6 10 "ChoirRegister" "book" "LChoirRegister$Book;" ∈ wsX6_passDays := by decide +kernel
  have f44 : Cond.fieldLink RX6 44 "ChoirRegister" "lineup" "LChoirRegister$Lineup;" ∈ wsX6_passDays := by decide +kernel
  have u6 : ∀ w ∈ wsX60, w ∈ wsX6_passDays := by decide +kernel
  show Sm Γ Λ (0, 0) 0 [(0, .ref (Λ.2.2.2.1 (0, 0, 0))), (1, .int x1)] [] v _
  unfold f_X6_passDays
  refine sm_aload_n hG 1 rfl dX6_passDays_0 rfl 0 rfl ?_
  refine gC0_0 hG hC  4 rfl u6 f10 dX6_passDays_1 ?_
  refine sm_iload_n hG 5 rfl dX6_passDays_4 rfl 1 rfl ?_
  refine sm_callV hG (fun (q : Int32) => (some (Value.int q), v)) (1, 0, 0) [.int x1] 8 rfl (okb hC (by decide) (by decide)) (ce_1 hC _) (ci := 0) rfl (fun r_ hr_ => c_X0_refusalToAdvance hC (by decide)  hr_) gX6_passDays_X0_refusalToAdvance rfl (by decide) (by decide) (n := 1) rfl (Nat.le_of_ble_eq_true rfl) (by decide) (by decide) rfl dX6_passDays_5 (fun r_5 => ?_)
  refine sm_ncallS hG hT (finc := (fun (q : Int32 × Nat × mC) => ((none : Option Value), q.2))) (fun _ => rfl) [.int r_5] 11 rfl (fun r_ hr_ h0_ => c0_X6_refuseIf hC hr_ h0_) gX6_passDays_X6_refuseIf rfl (by decide) (by decide) (n := 1) rfl (Nat.le_of_ble_eq_true rfl) ⟨rfl, rfl⟩ (by decide) rfl dX6_passDays_8 (fun r_8 w_8 => ?_)
  refine sm_aload_n hG 12 rfl dX6_passDays_11 rfl 0 rfl ?_
  refine sm_callV hG (fun (w : mC) => ((none : Option Value), w)) (0, 0, 0) [] 15 rfl (ok0 hC) (ce_0 hC _) (ci := 6) rfl (fun r_ hr_ => c_X6_keepState hC   hr_) gX6_passDays_X6_keepState rfl (by decide) (by decide) (n := 0) rfl (Nat.le_of_ble_eq_true rfl) (by decide) (by decide) rfl dX6_passDays_12 (fun r_12 => ?_)
  refine sm_aload_n hG 16 rfl dX6_passDays_15 rfl 0 rfl ?_
  refine gC0_0 hG hC  19 rfl u6 f10 dX6_passDays_16 ?_
  refine sm_iload_n hG 20 rfl dX6_passDays_19 rfl 1 rfl ?_
  refine sm_aload_n hG 21 rfl dX6_passDays_20 rfl 0 rfl ?_
  refine gC0_7 hG hC  24 rfl u6 f44 dX6_passDays_21 ?_
  refine sm_callV hG (fun (q : Int32 × mC) => (some (Value.int q.1), q.2)) (1, 0, 0) [.int x1, .ref (Λ.2.2.2.1 (35, 0, 0))] 27 rfl (okb hC (by decide) (by decide)) (ce_1 hC _) (ci := 0) rfl (fun r_ hr_ => c_X0_advance hC (by decide)  hr_) gX6_passDays_X0_advance rfl (by decide) (by decide) (n := 2) rfl (Nat.le_of_ble_eq_true rfl) (by decide) (by decide) rfl dX6_passDays_24 (fun r_24 => ?_)
  exact sm_niret hG hT (by decide) dX6_passDays_27 rfl
theorem c0n_X6_passDays {Λ : jL kC} (hC : LC Λ) {x1 : Int32} {l : Launch} {v : mC} {r : Int32 × mC} (hr_ : nn (f_X6_passDays x1 v) = some r) : Ct l yX6_passDays wsX6_passDays rnX6_passDays Λ [.ref (Λ.2.2.2.1 (0, 0, 0)), .int x1] v (some (.int r.1)) r.2 := by
  obtain ⟨q, h1, h2, h3⟩ := nn_s hr_
  subst h3
  exact c0_X6_passDays hC h1 h2
abbrev rnX6_type : Room := { frames := 1, cells := 0, slots := 0, locals := 21 }
set_option maxRecDepth 100000 in
set_option maxHeartbeats 4000000 in
theorem c0_X6_type {Λ : jL kC} (hC : LC Λ) {x1 : Int32} {l : Launch} {v : mC} {r : Int32 × Nat × mC} (hr_ : f_X6_type x1 v = some r) (h0_ : r.2.1 = 0) : Ct l yX6_type wsX6_type rnX6_type Λ [.ref (Λ.2.2.2.1 (0, 0, 0)), .int x1] v (some (.int r.1)) r.2.2 := by
  refine ct0_of (cc := cX6_type) (maxL := 2) (ret := (some .int)) (fun (q : Int32 × Nat × mC) => (some (Value.int q.1), q.2)) (fun _ => rfl) hC.1 hr_ h0_ (by decide) rfl (Nat.le_of_ble_eq_true rfl) (fun Γ hG hT hN hl => ?_)
  subst hl
  have f37 : Cond.fieldLink RX6 37 "ChoirRegister" "letter" "LChoirRegister$Letter;" ∈ wsX6_type := by decide +kernel
  have u6 : ∀ w ∈ wsX60, w ∈ wsX6_type := by decide +kernel
  show Sm Γ Λ (0, 0) 0 [(0, .ref (Λ.2.2.2.1 (0, 0, 0))), (1, .int x1)] [] v _
  unfold f_X6_type
  refine sm_jn (fun (X15 : Int32 → Option (Int32 × Nat × mC)) => ∀ (s0_15 : Int32), Sm Γ Λ (0, 0) 15 [(0, .ref (Λ.2.2.2.1 (0, 0, 0))), (1, .int x1)] [.int s0_15] v (X15 s0_15)) (fun s0_15 => ?_) (fun j15 hj15 => ?_)
  · refine sm_ncallS hG hT (finc := (fun (q : Int32 × Nat × mC) => ((none : Option Value), q.2))) (fun _ => rfl) [.int s0_15] 18 rfl (fun r_ hr_ h0_ => c0_X6_refuseIf hC hr_ h0_) gX6_type_X6_refuseIf rfl (by decide) (by decide) (n := 1) rfl (Nat.le_of_ble_eq_true rfl) ⟨rfl, rfl⟩ (by decide) rfl dX6_type_15 (fun r_15 w_15 => ?_)
    refine sm_aload_n hG 19 rfl dX6_type_18 rfl 0 rfl ?_
    refine gC0_6 hG hC  22 rfl u6 f37 dX6_type_19 ?_
    refine sm_iload_n hG 23 rfl dX6_type_22 rfl 1 rfl ?_
    refine sm_callV hG (fun (q : Int32 × mC) => (some (Value.int q.1), q.2)) (32, 0, 0) [.int x1] 26 rfl (oks hC (by decide)) (ce_32 hC _) (ci := 2) rfl (fun r_ hr_ => c_X2_append hC   hr_) gX6_type_X2_append rfl (by decide) (by decide) (n := 1) rfl (Nat.le_of_ble_eq_true rfl) (by decide) (by decide) rfl dX6_type_23 (fun r_23 => ?_)
    exact sm_niret hG hT (by decide) dX6_type_26 rfl
  · refine sm_aload_n hG 1 rfl dX6_type_0 rfl 0 rfl ?_
    refine gC0_6 hG hC  4 rfl u6 f37 dX6_type_1 ?_
    refine sm_callV hG (fun (q : Int32) => (some (Value.int q), v)) (32, 0, 0) [] 7 rfl (oks hC (by decide)) (ce_32 hC _) (ci := 2) rfl (fun r_ hr_ => c_X2_isFull hC   hr_) gX6_type_X2_isFull rfl (by decide) (by decide) (n := 0) rfl (Nat.le_of_ble_eq_true rfl) (by decide) (by decide) rfl dX6_type_4 (fun r_4 => ?_)
    refine sm_if_eq hG 14 10 rfl dX6_type_7 (by decide) ?_ ?_
    · refine sm_iconst (x := (0 : Int32)) hG 15 rfl dX6_type_14 rfl ?_
      exact hj15 _
    · refine sm_iconst (x := (3 : Int32)) hG 11 rfl dX6_type_10 rfl ?_
      refine sm_goto hG 15 dX6_type_11 (by decide) ?_
      exact hj15 _
theorem c0n_X6_type {Λ : jL kC} (hC : LC Λ) {x1 : Int32} {l : Launch} {v : mC} {r : Int32 × mC} (hr_ : nn (f_X6_type x1 v) = some r) : Ct l yX6_type wsX6_type rnX6_type Λ [.ref (Λ.2.2.2.1 (0, 0, 0)), .int x1] v (some (.int r.1)) r.2 := by
  obtain ⟨q, h1, h2, h3⟩ := nn_s hr_
  subst h3
  exact c0_X6_type hC h1 h2
abbrev rnX6_impossibleOrder : Room := { frames := 8, cells := 0, slots := 0, locals := 214 }
set_option maxRecDepth 100000 in
set_option maxHeartbeats 4000000 in
theorem c0_X6_impossibleOrder {Λ : jL kC} (hC : LC Λ)  {l : Launch} {v : mC} {r : Int32 × Nat × mC} (hr_ : f_X6_impossibleOrder v = some r) (h0_ : r.2.1 = 0) : Ct l yX6_impossibleOrder wsX6_impossibleOrder rnX6_impossibleOrder Λ [.ref (Λ.2.2.2.1 (0, 0, 0))] v (some (.int r.1)) r.2.2 := by
  refine ct0_of (cc := cX6_impossibleOrder) (maxL := 1) (ret := (some .int)) (fun (q : Int32 × Nat × mC) => (some (Value.int q.1), q.2)) (fun _ => rfl) hC.1 hr_ h0_ (by decide) rfl (Nat.le_of_ble_eq_true rfl) (fun Γ hG hT hN hl => ?_)
  subst hl
  have f37 : Cond.fieldLink RX6 37 "ChoirRegister" "letter" "LChoirRegister$Letter;" ∈ wsX6_impossibleOrder := by decide +kernel
  have u6 : ∀ w ∈ wsX60, w ∈ wsX6_impossibleOrder := by decide +kernel
  show Sm Γ Λ (0, 0) 0 [(0, .ref (Λ.2.2.2.1 (0, 0, 0)))] [] v _
  unfold f_X6_impossibleOrder
  refine sm_jn (fun (X16 : Int32 → mC → Option (Int32 × Nat × mC)) => ∀ (s0_16 : Int32) (v_16 : mC), Sm Γ Λ (0, 0) 16 [(0, .ref (Λ.2.2.2.1 (0, 0, 0)))] [.int s0_16] v_16 (X16 s0_16 v_16)) (fun s0_16 v_16 => ?_) (fun j16 hj16 => ?_)
  · refine sm_ncallS hG hT (finc := (fun (q : Int32 × Nat × mC) => ((none : Option Value), q.2))) (fun _ => rfl) [.int s0_16] 19 rfl (fun r_ hr_ h0_ => c0_X6_refuseIf hC hr_ h0_) gX6_impossibleOrder_X6_refuseIf rfl (by decide) (by decide) (n := 1) rfl (Nat.le_of_ble_eq_true rfl) ⟨rfl, rfl⟩ (by decide) rfl dX6_impossibleOrder_16 (fun r_16 w_16 => ?_)
    refine sm_aload_n hG 20 rfl dX6_impossibleOrder_19 rfl 0 rfl ?_
    refine sm_callV hG (fun (q : Int32 × mC) => (some (Value.int q.1), q.2)) (0, 0, 0) [] 23 rfl (ok0 hC) (ce_0 hC _) (ci := 6) rfl (fun r_ hr_ => c_X6_tryOrders hC   hr_) gX6_impossibleOrder_X6_tryOrders rfl (by decide) (by decide) (n := 0) rfl (Nat.le_of_ble_eq_true rfl) (by decide) (by decide) rfl dX6_impossibleOrder_20 (fun r_20 => ?_)
    exact sm_niret hG hT (by decide) dX6_impossibleOrder_23 rfl
  · refine sm_aload_n hG 1 rfl dX6_impossibleOrder_0 rfl 0 rfl ?_
    refine gC0_6 hG hC  4 rfl u6 f37 dX6_impossibleOrder_1 ?_
    refine sm_callV hG (fun (q : Int32 × mC) => (some (Value.int q.1), q.2)) (32, 0, 0) [] 7 rfl (oks hC (by decide)) (ce_32 hC _) (ci := 2) rfl (fun r_ hr_ => c_X2_findError hC   hr_) gX6_impossibleOrder_X2_findError rfl (by decide) (by decide) (n := 0) rfl (Nat.le_of_ble_eq_true rfl) (by decide) (by decide) rfl dX6_impossibleOrder_4 (fun r_4 => ?_)
    refine sm_iconst (x := (-1 : Int32)) hG 8 rfl dX6_impossibleOrder_7 rfl ?_
    refine sm_icmp_ne hG 15 11 rfl dX6_impossibleOrder_8 (by decide) ?_ ?_
    · refine sm_iconst (x := (3 : Int32)) hG 16 rfl dX6_impossibleOrder_15 rfl ?_
      exact hj16 _ _
    · refine sm_iconst (x := (0 : Int32)) hG 12 rfl dX6_impossibleOrder_11 rfl ?_
      refine sm_goto hG 16 dX6_impossibleOrder_12 (by decide) ?_
      exact hj16 _ _
theorem c0n_X6_impossibleOrder {Λ : jL kC} (hC : LC Λ)  {l : Launch} {v : mC} {r : Int32 × mC} (hr_ : nn (f_X6_impossibleOrder v) = some r) : Ct l yX6_impossibleOrder wsX6_impossibleOrder rnX6_impossibleOrder Λ [.ref (Λ.2.2.2.1 (0, 0, 0))] v (some (.int r.1)) r.2 := by
  obtain ⟨q, h1, h2, h3⟩ := nn_s hr_
  subst h3
  exact c0_X6_impossibleOrder hC h1 h2
abbrev rnX6_carryOut : Room := { frames := 8, cells := 0, slots := 0, locals := 214 }
set_option maxRecDepth 100000 in
set_option maxHeartbeats 4000000 in
theorem c0_X6_carryOut {Λ : jL kC} (hC : LC Λ)  {l : Launch} {v : mC} {r : Int32 × Nat × mC} (hr_ : f_X6_carryOut v = some r) (h0_ : r.2.1 = 0) : Ct l yX6_carryOut wsX6_carryOut rnX6_carryOut Λ [.ref (Λ.2.2.2.1 (0, 0, 0))] v (some (.int r.1)) r.2.2 := by
  refine ct0_of (cc := cX6_carryOut) (maxL := 2) (ret := (some .int)) (fun (q : Int32 × Nat × mC) => (some (Value.int q.1), q.2)) (fun _ => rfl) hC.1 hr_ h0_ (by decide) rfl (Nat.le_of_ble_eq_true rfl) (fun Γ hG hT hN hl => ?_)
  subst hl
  have f10 : Cond.fieldLink RX6 10 "ChoirRegister" "book" "LChoirRegister$Book;" ∈ wsX6_carryOut := by decide +kernel
  have f16 : Cond.fieldLink RX6 16 "ChoirRegister" "trial" "LChoirRegister$Book;" ∈ wsX6_carryOut := by decide +kernel
  have f37 : Cond.fieldLink RX6 37 "ChoirRegister" "letter" "LChoirRegister$Letter;" ∈ wsX6_carryOut := by decide +kernel
  have u6 : ∀ w ∈ wsX60, w ∈ wsX6_carryOut := by decide +kernel
  show Sm Γ Λ (0, 0) 0 [(0, .ref (Λ.2.2.2.1 (0, 0, 0)))] [] v _
  unfold f_X6_carryOut
  refine sm_jn (fun (X24 : Int32 → mC → Option (Int32 × Nat × mC)) => ∀ (s0_24 : Int32) (v_24 : mC), Sm Γ Λ (0, 0) 24 [(0, .ref (Λ.2.2.2.1 (0, 0, 0)))] [.int s0_24] v_24 (X24 s0_24 v_24)) (fun s0_24 v_24 => ?_) (fun j24 hj24 => ?_)
  · refine sm_jn (fun (X34 : Int32 → Option (Int32 × Nat × mC)) => ∀ (s0_34 : Int32), Sm Γ Λ (0, 0) 34 [(0, .ref (Λ.2.2.2.1 (0, 0, 0)))] [.int s0_34] v_24 (X34 s0_34)) (fun s0_34 => ?_) (fun j34 hj34 => ?_)
    · refine sm_ncallS hG hT (finc := (fun (q : Int32 × Nat × mC) => ((none : Option Value), q.2))) (fun _ => rfl) [.int s0_34] 37 rfl (fun r_ hr_ h0_ => c0_X6_refuseIf hC hr_ h0_) gX6_carryOut_X6_refuseIf rfl (by decide) (by decide) (n := 1) rfl (Nat.le_of_ble_eq_true rfl) ⟨rfl, rfl⟩ (by decide) rfl dX6_carryOut_34 (fun r_34 w_34 => ?_)
      refine sm_aload_n hG 38 rfl dX6_carryOut_37 rfl 0 rfl ?_
      refine sm_callV hG (fun (w : mC) => ((none : Option Value), w)) (0, 0, 0) [] 41 rfl (ok0 hC) (ce_0 hC _) (ci := 6) rfl (fun r_ hr_ => c_X6_keepState hC   hr_) gX6_carryOut_X6_keepState rfl (by decide) (by decide) (n := 0) rfl (Nat.le_of_ble_eq_true rfl) (by decide) (by decide) rfl dX6_carryOut_38 (fun r_38 => ?_)
      refine sm_aload_n hG 42 rfl dX6_carryOut_41 rfl 0 rfl ?_
      refine gC0_0 hG hC  45 rfl u6 f10 dX6_carryOut_42 ?_
      refine sm_aload_n hG 46 rfl dX6_carryOut_45 rfl 0 rfl ?_
      refine gC0_1 hG hC  49 rfl u6 f16 dX6_carryOut_46 ?_
      refine sm_callV hG (fun (w : mC) => ((none : Option Value), w)) (1, 0, 0) [.ref (Λ.2.2.2.1 (1, 1, 0))] 52 rfl (okb hC (by decide) (by decide)) (ce_1 hC _) (ci := 0) rfl (fun r_ hr_ => c_X0_copyFrom hC (by decide) (by decide)  hr_) gX6_carryOut_X0_copyFrom rfl (by decide) (by decide) (n := 1) rfl (Nat.le_of_ble_eq_true rfl) (by decide) (by decide) rfl dX6_carryOut_49 (fun r_49 => ?_)
      refine sm_aload_n hG 53 rfl dX6_carryOut_52 rfl 0 rfl ?_
      refine gC0_6 hG hC  56 rfl u6 f37 dX6_carryOut_53 ?_
      refine sm_callV hG (fun (q : Int32) => (some (Value.int q), r_49)) (32, 0, 0) [] 59 rfl (oks hC (by decide)) (ce_32 hC _) (ci := 2) rfl (fun r_ hr_ => c_X2_countOrders hC   hr_) gX6_carryOut_X2_countOrders rfl (by decide) (by decide) (n := 0) rfl (Nat.le_of_ble_eq_true rfl) (by decide) (by decide) rfl dX6_carryOut_56 (fun r_56 => ?_)
      exact sm_niret hG hT (by decide) dX6_carryOut_59 rfl
    · refine sm_istore_n hG 25 rfl dX6_carryOut_24 rfl (jlt hN rfl) [(1, .int s0_24), (0, .ref (Λ.2.2.2.1 (0, 0, 0)))] rfl ?_
      refine sm_iload_n hG 26 rfl dX6_carryOut_25 rfl 0 rfl ?_
      refine sm_if_eq hG 33 29 rfl dX6_carryOut_26 (by decide) ?_ ?_
      · refine sm_iconst (x := (3 : Int32)) hG 34 rfl dX6_carryOut_33 rfl ?_
        refine sm_loc [1] [(0, .ref (Λ.2.2.2.1 (0, 0, 0)))] rfl ?_
        exact hj34 _
      · refine sm_iconst (x := (0 : Int32)) hG 30 rfl dX6_carryOut_29 rfl ?_
        refine sm_goto hG 34 dX6_carryOut_30 (by decide) ?_
        refine sm_loc [1] [(0, .ref (Λ.2.2.2.1 (0, 0, 0)))] rfl ?_
        exact hj34 _
  · refine sm_jn (fun (X23 : mC → Option (Int32 × Nat × mC)) => ∀ (v_23 : mC), Sm Γ Λ (0, 0) 23 [(0, .ref (Λ.2.2.2.1 (0, 0, 0)))] [] v_23 (X23 v_23)) (fun v_23 => ?_) (fun j23 hj23 => ?_)
    · refine sm_iconst (x := (0 : Int32)) hG 24 rfl dX6_carryOut_23 rfl ?_
      exact hj24 _ _
    · refine sm_aload_n hG 1 rfl dX6_carryOut_0 rfl 0 rfl ?_
      refine gC0_6 hG hC  4 rfl u6 f37 dX6_carryOut_1 ?_
      refine sm_callV hG (fun (q : Int32 × mC) => (some (Value.int q.1), q.2)) (32, 0, 0) [] 7 rfl (oks hC (by decide)) (ce_32 hC _) (ci := 2) rfl (fun r_ hr_ => c_X2_findError hC   hr_) gX6_carryOut_X2_findError rfl (by decide) (by decide) (n := 0) rfl (Nat.le_of_ble_eq_true rfl) (by decide) (by decide) rfl dX6_carryOut_4 (fun r_4 => ?_)
      refine sm_iconst (x := (-1 : Int32)) hG 8 rfl dX6_carryOut_7 rfl ?_
      refine sm_icmp_ne hG 23 11 rfl dX6_carryOut_8 (by decide) ?_ ?_
      · exact hj23 _
      · refine sm_aload_n hG 12 rfl dX6_carryOut_11 rfl 0 rfl ?_
        refine sm_callV hG (fun (q : Int32 × mC) => (some (Value.int q.1), q.2)) (0, 0, 0) [] 15 rfl (ok0 hC) (ce_0 hC _) (ci := 6) rfl (fun r_ hr_ => c_X6_tryOrders hC   hr_) gX6_carryOut_X6_tryOrders rfl (by decide) (by decide) (n := 0) rfl (Nat.le_of_ble_eq_true rfl) (by decide) (by decide) rfl dX6_carryOut_12 (fun r_12 => ?_)
        refine sm_iconst (x := (-1 : Int32)) hG 16 rfl dX6_carryOut_15 rfl ?_
        refine sm_icmp_ne hG 23 19 rfl dX6_carryOut_16 (by decide) ?_ ?_
        · exact hj23 _
        · refine sm_iconst (x := (1 : Int32)) hG 20 rfl dX6_carryOut_19 rfl ?_
          refine sm_goto hG 24 dX6_carryOut_20 (by decide) ?_
          exact hj24 _ _
theorem c0n_X6_carryOut {Λ : jL kC} (hC : LC Λ)  {l : Launch} {v : mC} {r : Int32 × mC} (hr_ : nn (f_X6_carryOut v) = some r) : Ct l yX6_carryOut wsX6_carryOut rnX6_carryOut Λ [.ref (Λ.2.2.2.1 (0, 0, 0))] v (some (.int r.1)) r.2 := by
  obtain ⟨q, h1, h2, h3⟩ := nn_s hr_
  subst h3
  exact c0_X6_carryOut hC h1 h2
abbrev rnX6_undo : Room := { frames := 3, cells := 0, slots := 0, locals := 69 }
set_option maxRecDepth 100000 in
set_option maxHeartbeats 4000000 in
theorem c0_X6_undo {Λ : jL kC} (hC : LC Λ)  {l : Launch} {v : mC} {r : Int32 × Nat × mC} (hr_ : f_X6_undo v = some r) (h0_ : r.2.1 = 0) : Ct l yX6_undo wsX6_undo rnX6_undo Λ [.ref (Λ.2.2.2.1 (0, 0, 0))] v (some (.int r.1)) r.2.2 := by
  refine ct0_of (cc := cX6_undo) (maxL := 1) (ret := (some .int)) (fun (q : Int32 × Nat × mC) => (some (Value.int q.1), q.2)) (fun _ => rfl) hC.1 hr_ h0_ (by decide) rfl (Nat.le_of_ble_eq_true rfl) (fun Γ hG hT hN hl => ?_)
  subst hl
  have f10 : Cond.fieldLink RX6 10 "ChoirRegister" "book" "LChoirRegister$Book;" ∈ wsX6_undo := by decide +kernel
  have f26 : Cond.fieldLink RX6 26 "ChoirRegister" "recorded" "[LChoirRegister$Book;" ∈ wsX6_undo := by decide +kernel
  have f30 : Cond.fieldLink RX6 30 "ChoirRegister" "recordedCount" "I" ∈ wsX6_undo := by decide +kernel
  have u6 : ∀ w ∈ wsX60, w ∈ wsX6_undo := by decide +kernel
  show Sm Γ Λ (0, 0) 0 [(0, .ref (Λ.2.2.2.1 (0, 0, 0)))] [] v _
  unfold f_X6_undo
  refine sm_jn (fun (X12 : Int32 → Option (Int32 × Nat × mC)) => ∀ (s0_12 : Int32), Sm Γ Λ (0, 0) 12 [(0, .ref (Λ.2.2.2.1 (0, 0, 0)))] [.int s0_12] v (X12 s0_12)) (fun s0_12 => ?_) (fun j12 hj12 => ?_)
  · refine sm_ncallS hG hT (finc := (fun (q : Int32 × Nat × mC) => ((none : Option Value), q.2))) (fun _ => rfl) [.int s0_12] 15 rfl (fun r_ hr_ h0_ => c0_X6_refuseIf hC hr_ h0_) gX6_undo_X6_refuseIf rfl (by decide) (by decide) (n := 1) rfl (Nat.le_of_ble_eq_true rfl) ⟨rfl, rfl⟩ (by decide) rfl dX6_undo_12 (fun r_12 w_12 => ?_)
    refine sm_aload_n hG 16 rfl dX6_undo_15 rfl 0 rfl ?_
    refine sm_dup hG 17 rfl dX6_undo_16 rfl ?_
    refine gC0_5 hG hC  20 rfl u6 f30 dX6_undo_17 ?_
    refine sm_iconst (x := (1 : Int32)) hG 21 rfl dX6_undo_20 rfl ?_
    refine sm_isub hG 22 rfl dX6_undo_21 ?_
    refine pC0_5 hG hC  25 rfl u6 f30 dX6_undo_22 ?_
    refine sm_nmv (fun w22_1 => ?_)
    refine sm_aload_n hG 26 rfl dX6_undo_25 rfl 0 rfl ?_
    refine gC0_0 hG hC  29 rfl u6 f10 dX6_undo_26 ?_
    refine sm_aload_n hG 30 rfl dX6_undo_29 rfl 0 rfl ?_
    refine gC0_4 hG hC  33 rfl u6 f26 dX6_undo_30 ?_
    refine sm_aload_n hG 34 rfl dX6_undo_33 rfl 0 rfl ?_
    refine gC0_5 hG hC  37 rfl u6 f30 dX6_undo_34 ?_
    refine lC31 hG hC 38 rfl dX6_undo_37 (fun hf37_1 => ?_)
    refine sm_callV hG (fun (w : mC) => ((none : Option Value), w)) (1, 0, 0) [.ref (Λ.2.2.2.1 (1, ix (w22_1 (31, 0, 0) (ix (w22_1 (0, 0, 0) 5))), 0))] 41 rfl (okb hC (by decide) (by decide)) (ce_1 hC _) (ci := 0) rfl (fun r_ hr_ => c_X0_copyFrom hC (by decide) hf37_1  hr_) gX6_undo_X0_copyFrom rfl (by decide) (by decide) (n := 1) rfl (Nat.le_of_ble_eq_true rfl) (by decide) (by decide) rfl dX6_undo_38 (fun r_38 => ?_)
    refine sm_aload_n hG 42 rfl dX6_undo_41 rfl 0 rfl ?_
    refine gC0_5 hG hC  45 rfl u6 f30 dX6_undo_42 ?_
    exact sm_niret hG hT (by decide) dX6_undo_45 rfl
  · refine sm_aload_n hG 1 rfl dX6_undo_0 rfl 0 rfl ?_
    refine gC0_5 hG hC  4 rfl u6 f30 dX6_undo_1 ?_
    refine sm_if_le hG 11 7 rfl dX6_undo_4 (by decide) ?_ ?_
    · refine sm_iconst (x := (3 : Int32)) hG 12 rfl dX6_undo_11 rfl ?_
      exact hj12 _
    · refine sm_iconst (x := (0 : Int32)) hG 8 rfl dX6_undo_7 rfl ?_
      refine sm_goto hG 12 dX6_undo_8 (by decide) ?_
      exact hj12 _
theorem c0n_X6_undo {Λ : jL kC} (hC : LC Λ)  {l : Launch} {v : mC} {r : Int32 × mC} (hr_ : nn (f_X6_undo v) = some r) : Ct l yX6_undo wsX6_undo rnX6_undo Λ [.ref (Λ.2.2.2.1 (0, 0, 0))] v (some (.int r.1)) r.2 := by
  obtain ⟨q, h1, h2, h3⟩ := nn_s hr_
  subst h3
  exact c0_X6_undo hC h1 h2
abbrev rnX6_restoreSnapshot : Room := { frames := 4, cells := 0, slots := 0, locals := 89 }
set_option maxRecDepth 100000 in
set_option maxHeartbeats 4000000 in
theorem c0_X6_restoreSnapshot {Λ : jL kC} (hC : LC Λ)  {l : Launch} {v : mC} {r : Int32 × Nat × mC} (hr_ : f_X6_restoreSnapshot v = some r) (h0_ : r.2.1 = 0) : Ct l yX6_restoreSnapshot wsX6_restoreSnapshot rnX6_restoreSnapshot Λ [.ref (Λ.2.2.2.1 (0, 0, 0))] v (some (.int r.1)) r.2.2 := by
  refine ct0_of (cc := cX6_restoreSnapshot) (maxL := 1) (ret := (some .int)) (fun (q : Int32 × Nat × mC) => (some (Value.int q.1), q.2)) (fun _ => rfl) hC.1 hr_ h0_ (by decide) rfl (Nat.le_of_ble_eq_true rfl) (fun Γ hG hT hN hl => ?_)
  subst hl
  have f10 : Cond.fieldLink RX6 10 "ChoirRegister" "book" "LChoirRegister$Book;" ∈ wsX6_restoreSnapshot := by decide +kernel
  have f134 : Cond.fieldLink RX6 134 "ChoirRegister$Book" "day" "I" ∈ wsX6_restoreSnapshot := by decide +kernel
  have f19 : Cond.fieldLink RX6 19 "ChoirRegister" "snapshot" "LChoirRegister$Book;" ∈ wsX6_restoreSnapshot := by decide +kernel
  have f22 : Cond.fieldLink RX6 22 "ChoirRegister" "hasSnapshot" "Z" ∈ wsX6_restoreSnapshot := by decide +kernel
  have u0 : ∀ w ∈ wsX00, w ∈ wsX6_restoreSnapshot := by decide +kernel
  have u6 : ∀ w ∈ wsX60, w ∈ wsX6_restoreSnapshot := by decide +kernel
  show Sm Γ Λ (0, 0) 0 [(0, .ref (Λ.2.2.2.1 (0, 0, 0)))] [] v _
  unfold f_X6_restoreSnapshot
  refine sm_jn (fun (X12 : Int32 → Option (Int32 × Nat × mC)) => ∀ (s0_12 : Int32), Sm Γ Λ (0, 0) 12 [(0, .ref (Λ.2.2.2.1 (0, 0, 0)))] [.int s0_12] v (X12 s0_12)) (fun s0_12 => ?_) (fun j12 hj12 => ?_)
  · refine sm_ncallS hG hT (finc := (fun (q : Int32 × Nat × mC) => ((none : Option Value), q.2))) (fun _ => rfl) [.int s0_12] 15 rfl (fun r_ hr_ h0_ => c0_X6_refuseIf hC hr_ h0_) gX6_restoreSnapshot_X6_refuseIf rfl (by decide) (by decide) (n := 1) rfl (Nat.le_of_ble_eq_true rfl) ⟨rfl, rfl⟩ (by decide) rfl dX6_restoreSnapshot_12 (fun r_12 w_12 => ?_)
    refine sm_aload_n hG 16 rfl dX6_restoreSnapshot_15 rfl 0 rfl ?_
    refine sm_callV hG (fun (w : mC) => ((none : Option Value), w)) (0, 0, 0) [] 19 rfl (ok0 hC) (ce_0 hC _) (ci := 6) rfl (fun r_ hr_ => c_X6_keepState hC   hr_) gX6_restoreSnapshot_X6_keepState rfl (by decide) (by decide) (n := 0) rfl (Nat.le_of_ble_eq_true rfl) (by decide) (by decide) rfl dX6_restoreSnapshot_16 (fun r_16 => ?_)
    refine sm_aload_n hG 20 rfl dX6_restoreSnapshot_19 rfl 0 rfl ?_
    refine gC0_0 hG hC  23 rfl u6 f10 dX6_restoreSnapshot_20 ?_
    refine sm_aload_n hG 24 rfl dX6_restoreSnapshot_23 rfl 0 rfl ?_
    refine gC0_2 hG hC  27 rfl u6 f19 dX6_restoreSnapshot_24 ?_
    refine sm_callV hG (fun (w : mC) => ((none : Option Value), w)) (1, 0, 0) [.ref (Λ.2.2.2.1 (1, 2, 0))] 30 rfl (okb hC (by decide) (by decide)) (ce_1 hC _) (ci := 0) rfl (fun r_ hr_ => c_X0_copyFrom hC (by decide) (by decide)  hr_) gX6_restoreSnapshot_X0_copyFrom rfl (by decide) (by decide) (n := 1) rfl (Nat.le_of_ble_eq_true rfl) (by decide) (by decide) rfl dX6_restoreSnapshot_27 (fun r_27 => ?_)
    refine sm_aload_n hG 31 rfl dX6_restoreSnapshot_30 rfl 0 rfl ?_
    refine gC0_0 hG hC  34 rfl u6 f10 dX6_restoreSnapshot_31 ?_
    refine gC1_0 hG hC (by decide) 37 rfl u0 f134 dX6_restoreSnapshot_34 ?_
    exact sm_niret hG hT (by decide) dX6_restoreSnapshot_37 rfl
  · refine sm_aload_n hG 1 rfl dX6_restoreSnapshot_0 rfl 0 rfl ?_
    refine gC0_3 hG hC  4 rfl u6 f22 dX6_restoreSnapshot_1 ?_
    refine sm_if_eq hG 11 7 rfl dX6_restoreSnapshot_4 (by decide) ?_ ?_
    · refine sm_iconst (x := (3 : Int32)) hG 12 rfl dX6_restoreSnapshot_11 rfl ?_
      exact hj12 _
    · refine sm_iconst (x := (0 : Int32)) hG 8 rfl dX6_restoreSnapshot_7 rfl ?_
      refine sm_goto hG 12 dX6_restoreSnapshot_8 (by decide) ?_
      exact hj12 _
theorem c0n_X6_restoreSnapshot {Λ : jL kC} (hC : LC Λ)  {l : Launch} {v : mC} {r : Int32 × mC} (hr_ : nn (f_X6_restoreSnapshot v) = some r) : Ct l yX6_restoreSnapshot wsX6_restoreSnapshot rnX6_restoreSnapshot Λ [.ref (Λ.2.2.2.1 (0, 0, 0))] v (some (.int r.1)) r.2 := by
  obtain ⟨q, h1, h2, h3⟩ := nn_s hr_
  subst h3
  exact c0_X6_restoreSnapshot hC h1 h2
abbrev rnX6_requireSinger : Room := { frames := 1, cells := 0, slots := 0, locals := 21 }
set_option maxRecDepth 100000 in
set_option maxHeartbeats 4000000 in
theorem c0_X6_requireSinger {Λ : jL kC} (hC : LC Λ) {x1 : Int32} {l : Launch} {v : mC} {r : Int32 × Nat × mC} (hr_ : f_X6_requireSinger x1 v = some r) (h0_ : r.2.1 = 0) : Ct l yX6_requireSinger wsX6_requireSinger rnX6_requireSinger Λ [.ref (Λ.2.2.2.1 (0, 0, 0)), .int x1] v none r.2.2 := by
  refine ct0_of (cc := cX6_requireSinger) (maxL := 2) (ret := none) (fun (q : Int32 × Nat × mC) => ((none : Option Value), q.2)) (fun _ => rfl) hC.1 hr_ h0_ (by decide) rfl (Nat.le_of_ble_eq_true rfl) (fun Γ hG hT hN hl => ?_)
  subst hl
  have f10 : Cond.fieldLink RX6 10 "ChoirRegister" "book" "LChoirRegister$Book;" ∈ wsX6_requireSinger := by decide +kernel
  have f137 : Cond.fieldLink RX6 137 "ChoirRegister$Book" "roster" "LChoirRegister$Roster;" ∈ wsX6_requireSinger := by decide +kernel
  have u0 : ∀ w ∈ wsX00, w ∈ wsX6_requireSinger := by decide +kernel
  have u6 : ∀ w ∈ wsX60, w ∈ wsX6_requireSinger := by decide +kernel
  show Sm Γ Λ (0, 0) 0 [(0, .ref (Λ.2.2.2.1 (0, 0, 0))), (1, .int x1)] [] v _
  unfold f_X6_requireSinger
  refine sm_jn (fun (X19 : Int32 → Option (Int32 × Nat × mC)) => ∀ (s0_19 : Int32), Sm Γ Λ (0, 0) 19 [] [.int s0_19] v (X19 s0_19)) (fun s0_19 => ?_) (fun j19 hj19 => ?_)
  · refine sm_ncallS hG hT (finc := (fun (q : Int32 × Nat × mC) => ((none : Option Value), q.2))) (fun _ => rfl) [.int s0_19] 22 rfl (fun r_ hr_ h0_ => c0_X6_refuseIf hC hr_ h0_) gX6_requireSinger_X6_refuseIf rfl (by decide) (by decide) (n := 1) rfl (Nat.le_of_ble_eq_true rfl) ⟨rfl, rfl⟩ (by decide) rfl dX6_requireSinger_19 (fun r_19 w_19 => ?_)
    exact sm_nvret hG hT (by decide) dX6_requireSinger_22 rfl
  · refine sm_aload_n hG 1 rfl dX6_requireSinger_0 rfl 0 rfl ?_
    refine gC0_0 hG hC  4 rfl u6 f10 dX6_requireSinger_1 ?_
    refine gC1_1 hG hC (by decide) 7 rfl u0 f137 dX6_requireSinger_4 ?_
    refine sm_iload_n hG 8 rfl dX6_requireSinger_7 rfl 1 rfl ?_
    refine sm_callV hG (fun (q : Int32) => (some (Value.int q), v)) (2, 0, 0) [.int x1] 11 rfl (okb hC (by decide) (by decide)) (ce_2 hC _) (ci := 5) rfl (fun r_ hr_ => c_X5_has hC (by decide)  hr_) gX6_requireSinger_X5_has rfl (by decide) (by decide) (n := 1) rfl (Nat.le_of_ble_eq_true rfl) (by decide) (by decide) rfl dX6_requireSinger_8 (fun r_8 => ?_)
    refine sm_if_eq hG 18 14 rfl dX6_requireSinger_11 (by decide) ?_ ?_
    · refine sm_iconst (x := (1 : Int32)) hG 19 rfl dX6_requireSinger_18 rfl ?_
      refine sm_loc [] [] rfl ?_
      exact hj19 _
    · refine sm_iconst (x := (0 : Int32)) hG 15 rfl dX6_requireSinger_14 rfl ?_
      refine sm_goto hG 19 dX6_requireSinger_15 (by decide) ?_
      refine sm_loc [] [] rfl ?_
      exact hj19 _
abbrev rnX6_isInChoir : Room := { frames := 2, cells := 0, slots := 0, locals := 42 }
set_option maxRecDepth 100000 in
set_option maxHeartbeats 4000000 in
theorem c0_X6_isInChoir {Λ : jL kC} (hC : LC Λ) {x1 : Int32} {l : Launch} {v : mC} {r : Int32 × Nat × mC} (hr_ : f_X6_isInChoir x1 v = some r) (h0_ : r.2.1 = 0) : Ct l yX6_isInChoir wsX6_isInChoir rnX6_isInChoir Λ [.ref (Λ.2.2.2.1 (0, 0, 0)), .int x1] v (some (.int r.1)) r.2.2 := by
  refine ct0_of (cc := cX6_isInChoir) (maxL := 2) (ret := (some .boolean)) (fun (q : Int32 × Nat × mC) => (some (Value.int q.1), q.2)) (fun _ => rfl) hC.1 hr_ h0_ (by decide) rfl (Nat.le_of_ble_eq_true rfl) (fun Γ hG hT hN hl => ?_)
  subst hl
  have f10 : Cond.fieldLink RX6 10 "ChoirRegister" "book" "LChoirRegister$Book;" ∈ wsX6_isInChoir := by decide +kernel
  have f134 : Cond.fieldLink RX6 134 "ChoirRegister$Book" "day" "I" ∈ wsX6_isInChoir := by decide +kernel
  have f137 : Cond.fieldLink RX6 137 "ChoirRegister$Book" "roster" "LChoirRegister$Roster;" ∈ wsX6_isInChoir := by decide +kernel
  have u0 : ∀ w ∈ wsX00, w ∈ wsX6_isInChoir := by decide +kernel
  have u6 : ∀ w ∈ wsX60, w ∈ wsX6_isInChoir := by decide +kernel
  show Sm Γ Λ (0, 0) 0 [(0, .ref (Λ.2.2.2.1 (0, 0, 0))), (1, .int x1)] [] v _
  unfold f_X6_isInChoir
  refine sm_aload_n hG 1 rfl dX6_isInChoir_0 rfl 0 rfl ?_
  refine sm_iload_n hG 2 rfl dX6_isInChoir_1 rfl 1 rfl ?_
  refine sm_ncallV hG hT (finc := (fun (q : Int32 × Nat × mC) => ((none : Option Value), q.2))) (fun _ => rfl) (0, 0, 0) [.int x1] 5 rfl (ok0 hC) (ce_0 hC _) (ci := 6) rfl (fun r_ hr_ h0_ => c0_X6_requireSinger hC hr_ h0_) gX6_isInChoir_X6_requireSinger rfl (by decide) (by decide) (n := 1) rfl (Nat.le_of_ble_eq_true rfl) ⟨rfl, rfl⟩ (by decide) rfl dX6_isInChoir_2 (fun r_2 w_2 => ?_)
  refine sm_aload_n hG 6 rfl dX6_isInChoir_5 rfl 0 rfl ?_
  refine gC0_0 hG hC  9 rfl u6 f10 dX6_isInChoir_6 ?_
  refine gC1_1 hG hC (by decide) 12 rfl u0 f137 dX6_isInChoir_9 ?_
  refine sm_iload_n hG 13 rfl dX6_isInChoir_12 rfl 1 rfl ?_
  refine sm_aload_n hG 14 rfl dX6_isInChoir_13 rfl 0 rfl ?_
  refine gC0_0 hG hC  17 rfl u6 f10 dX6_isInChoir_14 ?_
  refine gC1_0 hG hC (by decide) 20 rfl u0 f134 dX6_isInChoir_17 ?_
  refine sm_callV hG (fun (q : Int32) => (some (Value.int q), w_2)) (2, 0, 0) [.int x1, .int (w_2 (1, 0, 0) 0)] 23 rfl (okb hC (by decide) (by decide)) (ce_2 hC _) (ci := 5) rfl (fun r_ hr_ => c_X5_hasLeftBy hC (by decide)  hr_) gX6_isInChoir_X5_hasLeftBy rfl (by decide) (by decide) (n := 2) rfl (Nat.le_of_ble_eq_true rfl) (by decide) (by decide) rfl dX6_isInChoir_20 (fun r_20 => ?_)
  refine sm_if_ne hG 30 26 rfl dX6_isInChoir_23 (by decide) ?_ ?_
  · refine sm_iconst (x := (0 : Int32)) hG 31 rfl dX6_isInChoir_30 rfl ?_
    exact sm_nbret hG hT (by decide) dX6_isInChoir_31 rfl
  · refine sm_iconst (x := (1 : Int32)) hG 27 rfl dX6_isInChoir_26 rfl ?_
    refine sm_goto hG 31 dX6_isInChoir_27 (by decide) ?_
    exact sm_nbret hG hT (by decide) dX6_isInChoir_31 rfl
theorem c0n_X6_isInChoir {Λ : jL kC} (hC : LC Λ) {x1 : Int32} {l : Launch} {v : mC} {r : Int32 × mC} (hr_ : nn (f_X6_isInChoir x1 v) = some r) : Ct l yX6_isInChoir wsX6_isInChoir rnX6_isInChoir Λ [.ref (Λ.2.2.2.1 (0, 0, 0)), .int x1] v (some (.int r.1)) r.2 := by
  obtain ⟨q, h1, h2, h3⟩ := nn_s hr_
  subst h3
  exact c0_X6_isInChoir hC h1 h2
abbrev rnX6_ageOf : Room := { frames := 2, cells := 0, slots := 0, locals := 42 }
set_option maxRecDepth 100000 in
set_option maxHeartbeats 4000000 in
theorem c0_X6_ageOf {Λ : jL kC} (hC : LC Λ) {x1 : Int32} {l : Launch} {v : mC} {r : Int32 × Nat × mC} (hr_ : f_X6_ageOf x1 v = some r) (h0_ : r.2.1 = 0) : Ct l yX6_ageOf wsX6_ageOf rnX6_ageOf Λ [.ref (Λ.2.2.2.1 (0, 0, 0)), .int x1] v (some (.int r.1)) r.2.2 := by
  refine ct0_of (cc := cX6_ageOf) (maxL := 2) (ret := (some .int)) (fun (q : Int32 × Nat × mC) => (some (Value.int q.1), q.2)) (fun _ => rfl) hC.1 hr_ h0_ (by decide) rfl (Nat.le_of_ble_eq_true rfl) (fun Γ hG hT hN hl => ?_)
  subst hl
  have f10 : Cond.fieldLink RX6 10 "ChoirRegister" "book" "LChoirRegister$Book;" ∈ wsX6_ageOf := by decide +kernel
  have f134 : Cond.fieldLink RX6 134 "ChoirRegister$Book" "day" "I" ∈ wsX6_ageOf := by decide +kernel
  have f137 : Cond.fieldLink RX6 137 "ChoirRegister$Book" "roster" "LChoirRegister$Roster;" ∈ wsX6_ageOf := by decide +kernel
  have f153 : Cond.fieldLink RX6 153 "ChoirRegister$Roster" "birthDay" "[I" ∈ wsX6_ageOf := by decide +kernel
  have u0 : ∀ w ∈ wsX00, w ∈ wsX6_ageOf := by decide +kernel
  have u5 : ∀ w ∈ wsX50, w ∈ wsX6_ageOf := by decide +kernel
  have u6 : ∀ w ∈ wsX60, w ∈ wsX6_ageOf := by decide +kernel
  show Sm Γ Λ (0, 0) 0 [(0, .ref (Λ.2.2.2.1 (0, 0, 0))), (1, .int x1)] [] v _
  unfold f_X6_ageOf
  refine sm_aload_n hG 1 rfl dX6_ageOf_0 rfl 0 rfl ?_
  refine sm_iload_n hG 2 rfl dX6_ageOf_1 rfl 1 rfl ?_
  refine sm_ncallV hG hT (finc := (fun (q : Int32 × Nat × mC) => ((none : Option Value), q.2))) (fun _ => rfl) (0, 0, 0) [.int x1] 5 rfl (ok0 hC) (ce_0 hC _) (ci := 6) rfl (fun r_ hr_ h0_ => c0_X6_requireSinger hC hr_ h0_) gX6_ageOf_X6_requireSinger rfl (by decide) (by decide) (n := 1) rfl (Nat.le_of_ble_eq_true rfl) ⟨rfl, rfl⟩ (by decide) rfl dX6_ageOf_2 (fun r_2 w_2 => ?_)
  refine sm_aload_n hG 6 rfl dX6_ageOf_5 rfl 0 rfl ?_
  refine gC0_0 hG hC  9 rfl u6 f10 dX6_ageOf_6 ?_
  refine gC1_0 hG hC (by decide) 12 rfl u0 f134 dX6_ageOf_9 ?_
  refine sm_aload_n hG 13 rfl dX6_ageOf_12 rfl 0 rfl ?_
  refine gC0_0 hG hC  16 rfl u6 f10 dX6_ageOf_13 ?_
  refine gC1_1 hG hC (by decide) 19 rfl u0 f137 dX6_ageOf_16 ?_
  refine gC2_4 hG hC (by decide) 22 rfl u5 f153 dX6_ageOf_19 ?_
  refine sm_iload_n hG 23 rfl dX6_ageOf_22 rfl 1 rfl ?_
  refine lC6 hG hC (by decide) 24 rfl dX6_ageOf_23 ?_
  refine sm_isub hG 25 rfl dX6_ageOf_24 ?_
  refine sm_nmi (fun y24_1 => ?_)
  refine sm_sipush (x := (360 : Int32)) hG 28 rfl dX6_ageOf_25 rfl ?_
  refine sm_idiv hG 29 rfl dX6_ageOf_28 (by decide) ?_
  exact sm_niret hG hT (by decide) dX6_ageOf_29 rfl
theorem c0n_X6_ageOf {Λ : jL kC} (hC : LC Λ) {x1 : Int32} {l : Launch} {v : mC} {r : Int32 × mC} (hr_ : nn (f_X6_ageOf x1 v) = some r) : Ct l yX6_ageOf wsX6_ageOf rnX6_ageOf Λ [.ref (Λ.2.2.2.1 (0, 0, 0)), .int x1] v (some (.int r.1)) r.2 := by
  obtain ⟨q, h1, h2, h3⟩ := nn_s hr_
  subst h3
  exact c0_X6_ageOf hC h1 h2
abbrev rnX6_lowestNoteOf : Room := { frames := 2, cells := 0, slots := 0, locals := 42 }
set_option maxRecDepth 100000 in
set_option maxHeartbeats 4000000 in
theorem c0_X6_lowestNoteOf {Λ : jL kC} (hC : LC Λ) {x1 : Int32} {l : Launch} {v : mC} {r : Int32 × Nat × mC} (hr_ : f_X6_lowestNoteOf x1 v = some r) (h0_ : r.2.1 = 0) : Ct l yX6_lowestNoteOf wsX6_lowestNoteOf rnX6_lowestNoteOf Λ [.ref (Λ.2.2.2.1 (0, 0, 0)), .int x1] v (some (.int r.1)) r.2.2 := by
  refine ct0_of (cc := cX6_lowestNoteOf) (maxL := 2) (ret := (some .int)) (fun (q : Int32 × Nat × mC) => (some (Value.int q.1), q.2)) (fun _ => rfl) hC.1 hr_ h0_ (by decide) rfl (Nat.le_of_ble_eq_true rfl) (fun Γ hG hT hN hl => ?_)
  subst hl
  have f10 : Cond.fieldLink RX6 10 "ChoirRegister" "book" "LChoirRegister$Book;" ∈ wsX6_lowestNoteOf := by decide +kernel
  have f134 : Cond.fieldLink RX6 134 "ChoirRegister$Book" "day" "I" ∈ wsX6_lowestNoteOf := by decide +kernel
  have f137 : Cond.fieldLink RX6 137 "ChoirRegister$Book" "roster" "LChoirRegister$Roster;" ∈ wsX6_lowestNoteOf := by decide +kernel
  have f157 : Cond.fieldLink RX6 157 "ChoirRegister$Roster" "lowest" "[I" ∈ wsX6_lowestNoteOf := by decide +kernel
  have u0 : ∀ w ∈ wsX00, w ∈ wsX6_lowestNoteOf := by decide +kernel
  have u5 : ∀ w ∈ wsX50, w ∈ wsX6_lowestNoteOf := by decide +kernel
  have u6 : ∀ w ∈ wsX60, w ∈ wsX6_lowestNoteOf := by decide +kernel
  show Sm Γ Λ (0, 0) 0 [(0, .ref (Λ.2.2.2.1 (0, 0, 0))), (1, .int x1)] [] v _
  unfold f_X6_lowestNoteOf
  refine sm_aload_n hG 1 rfl dX6_lowestNoteOf_0 rfl 0 rfl ?_
  refine sm_iload_n hG 2 rfl dX6_lowestNoteOf_1 rfl 1 rfl ?_
  refine sm_ncallV hG hT (finc := (fun (q : Int32 × Nat × mC) => ((none : Option Value), q.2))) (fun _ => rfl) (0, 0, 0) [.int x1] 5 rfl (ok0 hC) (ce_0 hC _) (ci := 6) rfl (fun r_ hr_ h0_ => c0_X6_requireSinger hC hr_ h0_) gX6_lowestNoteOf_X6_requireSinger rfl (by decide) (by decide) (n := 1) rfl (Nat.le_of_ble_eq_true rfl) ⟨rfl, rfl⟩ (by decide) rfl dX6_lowestNoteOf_2 (fun r_2 w_2 => ?_)
  refine sm_aload_n hG 6 rfl dX6_lowestNoteOf_5 rfl 0 rfl ?_
  refine gC0_0 hG hC  9 rfl u6 f10 dX6_lowestNoteOf_6 ?_
  refine gC1_1 hG hC (by decide) 12 rfl u0 f137 dX6_lowestNoteOf_9 ?_
  refine sm_iload_n hG 13 rfl dX6_lowestNoteOf_12 rfl 1 rfl ?_
  refine sm_aload_n hG 14 rfl dX6_lowestNoteOf_13 rfl 0 rfl ?_
  refine gC0_0 hG hC  17 rfl u6 f10 dX6_lowestNoteOf_14 ?_
  refine gC1_0 hG hC (by decide) 20 rfl u0 f134 dX6_lowestNoteOf_17 ?_
  refine sm_aload_n hG 21 rfl dX6_lowestNoteOf_20 rfl 0 rfl ?_
  refine gC0_0 hG hC  24 rfl u6 f10 dX6_lowestNoteOf_21 ?_
  refine gC1_1 hG hC (by decide) 27 rfl u0 f137 dX6_lowestNoteOf_24 ?_
  refine gC2_2 hG hC (by decide) 30 rfl u5 f157 dX6_lowestNoteOf_27 ?_
  refine sm_iload_n hG 31 rfl dX6_lowestNoteOf_30 rfl 1 rfl ?_
  refine lC4 hG hC (by decide) 32 rfl dX6_lowestNoteOf_31 ?_
  refine sm_callV hG (fun (q : Int32) => (some (Value.int q), w_2)) (2, 0, 0) [.int x1, .int (w_2 (1, 0, 0) 0), .int (w_2 (4, 0, 0) (ix x1))] 35 rfl (okb hC (by decide) (by decide)) (ce_2 hC _) (ci := 5) rfl (fun r_ hr_ => c_X5_noteOn hC (by decide)  hr_) gX6_lowestNoteOf_X5_noteOn rfl (by decide) (by decide) (n := 3) rfl (Nat.le_of_ble_eq_true rfl) (by decide) (by decide) rfl dX6_lowestNoteOf_32 (fun r_32 => ?_)
  exact sm_niret hG hT (by decide) dX6_lowestNoteOf_35 rfl
theorem c0n_X6_lowestNoteOf {Λ : jL kC} (hC : LC Λ) {x1 : Int32} {l : Launch} {v : mC} {r : Int32 × mC} (hr_ : nn (f_X6_lowestNoteOf x1 v) = some r) : Ct l yX6_lowestNoteOf wsX6_lowestNoteOf rnX6_lowestNoteOf Λ [.ref (Λ.2.2.2.1 (0, 0, 0)), .int x1] v (some (.int r.1)) r.2 := by
  obtain ⟨q, h1, h2, h3⟩ := nn_s hr_
  subst h3
  exact c0_X6_lowestNoteOf hC h1 h2
abbrev rnX6_highestNoteOf : Room := { frames := 2, cells := 0, slots := 0, locals := 42 }
set_option maxRecDepth 100000 in
set_option maxHeartbeats 4000000 in
theorem c0_X6_highestNoteOf {Λ : jL kC} (hC : LC Λ) {x1 : Int32} {l : Launch} {v : mC} {r : Int32 × Nat × mC} (hr_ : f_X6_highestNoteOf x1 v = some r) (h0_ : r.2.1 = 0) : Ct l yX6_highestNoteOf wsX6_highestNoteOf rnX6_highestNoteOf Λ [.ref (Λ.2.2.2.1 (0, 0, 0)), .int x1] v (some (.int r.1)) r.2.2 := by
  refine ct0_of (cc := cX6_highestNoteOf) (maxL := 2) (ret := (some .int)) (fun (q : Int32 × Nat × mC) => (some (Value.int q.1), q.2)) (fun _ => rfl) hC.1 hr_ h0_ (by decide) rfl (Nat.le_of_ble_eq_true rfl) (fun Γ hG hT hN hl => ?_)
  subst hl
  have f10 : Cond.fieldLink RX6 10 "ChoirRegister" "book" "LChoirRegister$Book;" ∈ wsX6_highestNoteOf := by decide +kernel
  have f134 : Cond.fieldLink RX6 134 "ChoirRegister$Book" "day" "I" ∈ wsX6_highestNoteOf := by decide +kernel
  have f137 : Cond.fieldLink RX6 137 "ChoirRegister$Book" "roster" "LChoirRegister$Roster;" ∈ wsX6_highestNoteOf := by decide +kernel
  have f163 : Cond.fieldLink RX6 163 "ChoirRegister$Roster" "highest" "[I" ∈ wsX6_highestNoteOf := by decide +kernel
  have u0 : ∀ w ∈ wsX00, w ∈ wsX6_highestNoteOf := by decide +kernel
  have u5 : ∀ w ∈ wsX50, w ∈ wsX6_highestNoteOf := by decide +kernel
  have u6 : ∀ w ∈ wsX60, w ∈ wsX6_highestNoteOf := by decide +kernel
  show Sm Γ Λ (0, 0) 0 [(0, .ref (Λ.2.2.2.1 (0, 0, 0))), (1, .int x1)] [] v _
  unfold f_X6_highestNoteOf
  refine sm_aload_n hG 1 rfl dX6_highestNoteOf_0 rfl 0 rfl ?_
  refine sm_iload_n hG 2 rfl dX6_highestNoteOf_1 rfl 1 rfl ?_
  refine sm_ncallV hG hT (finc := (fun (q : Int32 × Nat × mC) => ((none : Option Value), q.2))) (fun _ => rfl) (0, 0, 0) [.int x1] 5 rfl (ok0 hC) (ce_0 hC _) (ci := 6) rfl (fun r_ hr_ h0_ => c0_X6_requireSinger hC hr_ h0_) gX6_highestNoteOf_X6_requireSinger rfl (by decide) (by decide) (n := 1) rfl (Nat.le_of_ble_eq_true rfl) ⟨rfl, rfl⟩ (by decide) rfl dX6_highestNoteOf_2 (fun r_2 w_2 => ?_)
  refine sm_aload_n hG 6 rfl dX6_highestNoteOf_5 rfl 0 rfl ?_
  refine gC0_0 hG hC  9 rfl u6 f10 dX6_highestNoteOf_6 ?_
  refine gC1_1 hG hC (by decide) 12 rfl u0 f137 dX6_highestNoteOf_9 ?_
  refine sm_iload_n hG 13 rfl dX6_highestNoteOf_12 rfl 1 rfl ?_
  refine sm_aload_n hG 14 rfl dX6_highestNoteOf_13 rfl 0 rfl ?_
  refine gC0_0 hG hC  17 rfl u6 f10 dX6_highestNoteOf_14 ?_
  refine gC1_0 hG hC (by decide) 20 rfl u0 f134 dX6_highestNoteOf_17 ?_
  refine sm_aload_n hG 21 rfl dX6_highestNoteOf_20 rfl 0 rfl ?_
  refine gC0_0 hG hC  24 rfl u6 f10 dX6_highestNoteOf_21 ?_
  refine gC1_1 hG hC (by decide) 27 rfl u0 f137 dX6_highestNoteOf_24 ?_
  refine gC2_3 hG hC (by decide) 30 rfl u5 f163 dX6_highestNoteOf_27 ?_
  refine sm_iload_n hG 31 rfl dX6_highestNoteOf_30 rfl 1 rfl ?_
  refine lC5 hG hC (by decide) 32 rfl dX6_highestNoteOf_31 ?_
  refine sm_callV hG (fun (q : Int32) => (some (Value.int q), w_2)) (2, 0, 0) [.int x1, .int (w_2 (1, 0, 0) 0), .int (w_2 (5, 0, 0) (ix x1))] 35 rfl (okb hC (by decide) (by decide)) (ce_2 hC _) (ci := 5) rfl (fun r_ hr_ => c_X5_noteOn hC (by decide)  hr_) gX6_highestNoteOf_X5_noteOn rfl (by decide) (by decide) (n := 3) rfl (Nat.le_of_ble_eq_true rfl) (by decide) (by decide) rfl dX6_highestNoteOf_32 (fun r_32 => ?_)
  exact sm_niret hG hT (by decide) dX6_highestNoteOf_35 rfl
theorem c0n_X6_highestNoteOf {Λ : jL kC} (hC : LC Λ) {x1 : Int32} {l : Launch} {v : mC} {r : Int32 × mC} (hr_ : nn (f_X6_highestNoteOf x1 v) = some r) : Ct l yX6_highestNoteOf wsX6_highestNoteOf rnX6_highestNoteOf Λ [.ref (Λ.2.2.2.1 (0, 0, 0)), .int x1] v (some (.int r.1)) r.2 := by
  obtain ⟨q, h1, h2, h3⟩ := nn_s hr_
  subst h3
  exact c0_X6_highestNoteOf hC h1 h2
abbrev rnX6_breakDayOf : Room := { frames := 2, cells := 0, slots := 0, locals := 42 }
set_option maxRecDepth 100000 in
set_option maxHeartbeats 4000000 in
theorem c0_X6_breakDayOf {Λ : jL kC} (hC : LC Λ) {x1 : Int32} {l : Launch} {v : mC} {r : Int32 × Nat × mC} (hr_ : f_X6_breakDayOf x1 v = some r) (h0_ : r.2.1 = 0) : Ct l yX6_breakDayOf wsX6_breakDayOf rnX6_breakDayOf Λ [.ref (Λ.2.2.2.1 (0, 0, 0)), .int x1] v (some (.int r.1)) r.2.2 := by
  refine ct0_of (cc := cX6_breakDayOf) (maxL := 2) (ret := (some .int)) (fun (q : Int32 × Nat × mC) => (some (Value.int q.1), q.2)) (fun _ => rfl) hC.1 hr_ h0_ (by decide) rfl (Nat.le_of_ble_eq_true rfl) (fun Γ hG hT hN hl => ?_)
  subst hl
  have f10 : Cond.fieldLink RX6 10 "ChoirRegister" "book" "LChoirRegister$Book;" ∈ wsX6_breakDayOf := by decide +kernel
  have f137 : Cond.fieldLink RX6 137 "ChoirRegister$Book" "roster" "LChoirRegister$Roster;" ∈ wsX6_breakDayOf := by decide +kernel
  have f166 : Cond.fieldLink RX6 166 "ChoirRegister$Roster" "breakDay" "[I" ∈ wsX6_breakDayOf := by decide +kernel
  have u0 : ∀ w ∈ wsX00, w ∈ wsX6_breakDayOf := by decide +kernel
  have u5 : ∀ w ∈ wsX50, w ∈ wsX6_breakDayOf := by decide +kernel
  have u6 : ∀ w ∈ wsX60, w ∈ wsX6_breakDayOf := by decide +kernel
  show Sm Γ Λ (0, 0) 0 [(0, .ref (Λ.2.2.2.1 (0, 0, 0))), (1, .int x1)] [] v _
  unfold f_X6_breakDayOf
  refine sm_aload_n hG 1 rfl dX6_breakDayOf_0 rfl 0 rfl ?_
  refine sm_iload_n hG 2 rfl dX6_breakDayOf_1 rfl 1 rfl ?_
  refine sm_ncallV hG hT (finc := (fun (q : Int32 × Nat × mC) => ((none : Option Value), q.2))) (fun _ => rfl) (0, 0, 0) [.int x1] 5 rfl (ok0 hC) (ce_0 hC _) (ci := 6) rfl (fun r_ hr_ h0_ => c0_X6_requireSinger hC hr_ h0_) gX6_breakDayOf_X6_requireSinger rfl (by decide) (by decide) (n := 1) rfl (Nat.le_of_ble_eq_true rfl) ⟨rfl, rfl⟩ (by decide) rfl dX6_breakDayOf_2 (fun r_2 w_2 => ?_)
  refine sm_aload_n hG 6 rfl dX6_breakDayOf_5 rfl 0 rfl ?_
  refine gC0_0 hG hC  9 rfl u6 f10 dX6_breakDayOf_6 ?_
  refine gC1_1 hG hC (by decide) 12 rfl u0 f137 dX6_breakDayOf_9 ?_
  refine gC2_5 hG hC (by decide) 15 rfl u5 f166 dX6_breakDayOf_12 ?_
  refine sm_iload_n hG 16 rfl dX6_breakDayOf_15 rfl 1 rfl ?_
  refine lC7 hG hC (by decide) 17 rfl dX6_breakDayOf_16 ?_
  exact sm_niret hG hT (by decide) dX6_breakDayOf_17 rfl
theorem c0n_X6_breakDayOf {Λ : jL kC} (hC : LC Λ) {x1 : Int32} {l : Launch} {v : mC} {r : Int32 × mC} (hr_ : nn (f_X6_breakDayOf x1 v) = some r) : Ct l yX6_breakDayOf wsX6_breakDayOf rnX6_breakDayOf Λ [.ref (Λ.2.2.2.1 (0, 0, 0)), .int x1] v (some (.int r.1)) r.2 := by
  obtain ⟨q, h1, h2, h3⟩ := nn_s hr_
  subst h3
  exact c0_X6_breakDayOf hC h1 h2
abbrev rnX6_choirOf : Room := { frames := 2, cells := 0, slots := 0, locals := 42 }
set_option maxRecDepth 100000 in
set_option maxHeartbeats 4000000 in
theorem c0_X6_choirOf {Λ : jL kC} (hC : LC Λ) {x1 : Int32} {l : Launch} {v : mC} {r : Int32 × Nat × mC} (hr_ : f_X6_choirOf x1 v = some r) (h0_ : r.2.1 = 0) : Ct l yX6_choirOf wsX6_choirOf rnX6_choirOf Λ [.ref (Λ.2.2.2.1 (0, 0, 0)), .int x1] v (some (.int r.1)) r.2.2 := by
  refine ct0_of (cc := cX6_choirOf) (maxL := 2) (ret := (some .int)) (fun (q : Int32 × Nat × mC) => (some (Value.int q.1), q.2)) (fun _ => rfl) hC.1 hr_ h0_ (by decide) rfl (Nat.le_of_ble_eq_true rfl) (fun Γ hG hT hN hl => ?_)
  subst hl
  have f10 : Cond.fieldLink RX6 10 "ChoirRegister" "book" "LChoirRegister$Book;" ∈ wsX6_choirOf := by decide +kernel
  have f137 : Cond.fieldLink RX6 137 "ChoirRegister$Book" "roster" "LChoirRegister$Roster;" ∈ wsX6_choirOf := by decide +kernel
  have f172 : Cond.fieldLink RX6 172 "ChoirRegister$Roster" "choir" "[I" ∈ wsX6_choirOf := by decide +kernel
  have u0 : ∀ w ∈ wsX00, w ∈ wsX6_choirOf := by decide +kernel
  have u5 : ∀ w ∈ wsX50, w ∈ wsX6_choirOf := by decide +kernel
  have u6 : ∀ w ∈ wsX60, w ∈ wsX6_choirOf := by decide +kernel
  show Sm Γ Λ (0, 0) 0 [(0, .ref (Λ.2.2.2.1 (0, 0, 0))), (1, .int x1)] [] v _
  unfold f_X6_choirOf
  refine sm_aload_n hG 1 rfl dX6_choirOf_0 rfl 0 rfl ?_
  refine sm_iload_n hG 2 rfl dX6_choirOf_1 rfl 1 rfl ?_
  refine sm_ncallV hG hT (finc := (fun (q : Int32 × Nat × mC) => ((none : Option Value), q.2))) (fun _ => rfl) (0, 0, 0) [.int x1] 5 rfl (ok0 hC) (ce_0 hC _) (ci := 6) rfl (fun r_ hr_ h0_ => c0_X6_requireSinger hC hr_ h0_) gX6_choirOf_X6_requireSinger rfl (by decide) (by decide) (n := 1) rfl (Nat.le_of_ble_eq_true rfl) ⟨rfl, rfl⟩ (by decide) rfl dX6_choirOf_2 (fun r_2 w_2 => ?_)
  refine sm_aload_n hG 6 rfl dX6_choirOf_5 rfl 0 rfl ?_
  refine gC0_0 hG hC  9 rfl u6 f10 dX6_choirOf_6 ?_
  refine gC1_1 hG hC (by decide) 12 rfl u0 f137 dX6_choirOf_9 ?_
  refine gC2_6 hG hC (by decide) 15 rfl u5 f172 dX6_choirOf_12 ?_
  refine sm_iload_n hG 16 rfl dX6_choirOf_15 rfl 1 rfl ?_
  refine lC8 hG hC (by decide) 17 rfl dX6_choirOf_16 ?_
  exact sm_niret hG hT (by decide) dX6_choirOf_17 rfl
theorem c0n_X6_choirOf {Λ : jL kC} (hC : LC Λ) {x1 : Int32} {l : Launch} {v : mC} {r : Int32 × mC} (hr_ : nn (f_X6_choirOf x1 v) = some r) : Ct l yX6_choirOf wsX6_choirOf rnX6_choirOf Λ [.ref (Λ.2.2.2.1 (0, 0, 0)), .int x1] v (some (.int r.1)) r.2 := by
  obtain ⟨q, h1, h2, h3⟩ := nn_s hr_
  subst h3
  exact c0_X6_choirOf hC h1 h2
abbrev rnX6_awayUntil : Room := { frames := 2, cells := 0, slots := 0, locals := 42 }
set_option maxRecDepth 100000 in
set_option maxHeartbeats 4000000 in
theorem c0_X6_awayUntil {Λ : jL kC} (hC : LC Λ) {x1 : Int32} {l : Launch} {v : mC} {r : Int32 × Nat × mC} (hr_ : f_X6_awayUntil x1 v = some r) (h0_ : r.2.1 = 0) : Ct l yX6_awayUntil wsX6_awayUntil rnX6_awayUntil Λ [.ref (Λ.2.2.2.1 (0, 0, 0)), .int x1] v (some (.int r.1)) r.2.2 := by
  refine ct0_of (cc := cX6_awayUntil) (maxL := 2) (ret := (some .int)) (fun (q : Int32 × Nat × mC) => (some (Value.int q.1), q.2)) (fun _ => rfl) hC.1 hr_ h0_ (by decide) rfl (Nat.le_of_ble_eq_true rfl) (fun Γ hG hT hN hl => ?_)
  subst hl
  have f10 : Cond.fieldLink RX6 10 "ChoirRegister" "book" "LChoirRegister$Book;" ∈ wsX6_awayUntil := by decide +kernel
  have f134 : Cond.fieldLink RX6 134 "ChoirRegister$Book" "day" "I" ∈ wsX6_awayUntil := by decide +kernel
  have f137 : Cond.fieldLink RX6 137 "ChoirRegister$Book" "roster" "LChoirRegister$Roster;" ∈ wsX6_awayUntil := by decide +kernel
  have f178 : Cond.fieldLink RX6 178 "ChoirRegister$Roster" "lastDayAway" "[I" ∈ wsX6_awayUntil := by decide +kernel
  have u0 : ∀ w ∈ wsX00, w ∈ wsX6_awayUntil := by decide +kernel
  have u5 : ∀ w ∈ wsX50, w ∈ wsX6_awayUntil := by decide +kernel
  have u6 : ∀ w ∈ wsX60, w ∈ wsX6_awayUntil := by decide +kernel
  show Sm Γ Λ (0, 0) 0 [(0, .ref (Λ.2.2.2.1 (0, 0, 0))), (1, .int x1)] [] v _
  unfold f_X6_awayUntil
  refine sm_aload_n hG 1 rfl dX6_awayUntil_0 rfl 0 rfl ?_
  refine sm_iload_n hG 2 rfl dX6_awayUntil_1 rfl 1 rfl ?_
  refine sm_ncallV hG hT (finc := (fun (q : Int32 × Nat × mC) => ((none : Option Value), q.2))) (fun _ => rfl) (0, 0, 0) [.int x1] 5 rfl (ok0 hC) (ce_0 hC _) (ci := 6) rfl (fun r_ hr_ h0_ => c0_X6_requireSinger hC hr_ h0_) gX6_awayUntil_X6_requireSinger rfl (by decide) (by decide) (n := 1) rfl (Nat.le_of_ble_eq_true rfl) ⟨rfl, rfl⟩ (by decide) rfl dX6_awayUntil_2 (fun r_2 w_2 => ?_)
  refine sm_aload_n hG 6 rfl dX6_awayUntil_5 rfl 0 rfl ?_
  refine gC0_0 hG hC  9 rfl u6 f10 dX6_awayUntil_6 ?_
  refine gC1_1 hG hC (by decide) 12 rfl u0 f137 dX6_awayUntil_9 ?_
  refine sm_iload_n hG 13 rfl dX6_awayUntil_12 rfl 1 rfl ?_
  refine sm_aload_n hG 14 rfl dX6_awayUntil_13 rfl 0 rfl ?_
  refine gC0_0 hG hC  17 rfl u6 f10 dX6_awayUntil_14 ?_
  refine gC1_0 hG hC (by decide) 20 rfl u0 f134 dX6_awayUntil_17 ?_
  refine sm_callV hG (fun (q : Int32) => (some (Value.int q), w_2)) (2, 0, 0) [.int x1, .int (w_2 (1, 0, 0) 0)] 23 rfl (okb hC (by decide) (by decide)) (ce_2 hC _) (ci := 5) rfl (fun r_ hr_ => c_X5_isAwayOn hC (by decide)  hr_) gX6_awayUntil_X5_isAwayOn rfl (by decide) (by decide) (n := 2) rfl (Nat.le_of_ble_eq_true rfl) (by decide) (by decide) rfl dX6_awayUntil_20 (fun r_20 => ?_)
  refine sm_if_eq hG 41 26 rfl dX6_awayUntil_23 (by decide) ?_ ?_
  · refine sm_iconst (x := (-1 : Int32)) hG 42 rfl dX6_awayUntil_41 rfl ?_
    exact sm_niret hG hT (by decide) dX6_awayUntil_42 rfl
  · refine sm_aload_n hG 27 rfl dX6_awayUntil_26 rfl 0 rfl ?_
    refine gC0_0 hG hC  30 rfl u6 f10 dX6_awayUntil_27 ?_
    refine gC1_1 hG hC (by decide) 33 rfl u0 f137 dX6_awayUntil_30 ?_
    refine gC2_9 hG hC (by decide) 36 rfl u5 f178 dX6_awayUntil_33 ?_
    refine sm_iload_n hG 37 rfl dX6_awayUntil_36 rfl 1 rfl ?_
    refine lC11 hG hC (by decide) 38 rfl dX6_awayUntil_37 ?_
    refine sm_goto hG 42 dX6_awayUntil_38 (by decide) ?_
    exact sm_niret hG hT (by decide) dX6_awayUntil_42 rfl
theorem c0n_X6_awayUntil {Λ : jL kC} (hC : LC Λ) {x1 : Int32} {l : Launch} {v : mC} {r : Int32 × mC} (hr_ : nn (f_X6_awayUntil x1 v) = some r) : Ct l yX6_awayUntil wsX6_awayUntil rnX6_awayUntil Λ [.ref (Λ.2.2.2.1 (0, 0, 0)), .int x1] v (some (.int r.1)) r.2 := by
  obtain ⟨q, h1, h2, h3⟩ := nn_s hr_
  subst h3
  exact c0_X6_awayUntil hC h1 h2
abbrev rnX6_isExcused : Room := { frames := 2, cells := 0, slots := 0, locals := 42 }
set_option maxRecDepth 100000 in
set_option maxHeartbeats 4000000 in
theorem c0_X6_isExcused {Λ : jL kC} (hC : LC Λ) {x1 : Int32} {x2 : Int32} {l : Launch} {v : mC} {r : Int32 × Nat × mC} (hr_ : f_X6_isExcused x1 x2 v = some r) (h0_ : r.2.1 = 0) : Ct l yX6_isExcused wsX6_isExcused rnX6_isExcused Λ [.ref (Λ.2.2.2.1 (0, 0, 0)), .int x1, .int x2] v (some (.int r.1)) r.2.2 := by
  refine ct0_of (cc := cX6_isExcused) (maxL := 3) (ret := (some .boolean)) (fun (q : Int32 × Nat × mC) => (some (Value.int q.1), q.2)) (fun _ => rfl) hC.1 hr_ h0_ (by decide) rfl (Nat.le_of_ble_eq_true rfl) (fun Γ hG hT hN hl => ?_)
  subst hl
  have f10 : Cond.fieldLink RX6 10 "ChoirRegister" "book" "LChoirRegister$Book;" ∈ wsX6_isExcused := by decide +kernel
  have f185 : Cond.fieldLink RX6 185 "ChoirRegister$Book" "notes" "LChoirRegister$Notes;" ∈ wsX6_isExcused := by decide +kernel
  have u0 : ∀ w ∈ wsX00, w ∈ wsX6_isExcused := by decide +kernel
  have u6 : ∀ w ∈ wsX60, w ∈ wsX6_isExcused := by decide +kernel
  show Sm Γ Λ (0, 0) 0 [(0, .ref (Λ.2.2.2.1 (0, 0, 0))), (1, .int x1), (2, .int x2)] [] v _
  unfold f_X6_isExcused
  refine sm_jn (fun (X21 : Int32 → Option (Int32 × Nat × mC)) => ∀ (s0_21 : Int32), Sm Γ Λ (0, 0) 21 [(0, .ref (Λ.2.2.2.1 (0, 0, 0))), (1, .int x1), (2, .int x2)] [.int s0_21] v (X21 s0_21)) (fun s0_21 => ?_) (fun j21 hj21 => ?_)
  · refine sm_ncallS hG hT (finc := (fun (q : Int32 × Nat × mC) => ((none : Option Value), q.2))) (fun _ => rfl) [.int s0_21] 24 rfl (fun r_ hr_ h0_ => c0_X6_refuseIf hC hr_ h0_) gX6_isExcused_X6_refuseIf rfl (by decide) (by decide) (n := 1) rfl (Nat.le_of_ble_eq_true rfl) ⟨rfl, rfl⟩ (by decide) rfl dX6_isExcused_21 (fun r_21 w_21 => ?_)
    refine sm_aload_n hG 25 rfl dX6_isExcused_24 rfl 0 rfl ?_
    refine gC0_0 hG hC  28 rfl u6 f10 dX6_isExcused_25 ?_
    refine gC1_2 hG hC (by decide) 31 rfl u0 f185 dX6_isExcused_28 ?_
    refine sm_iload_n hG 32 rfl dX6_isExcused_31 rfl 1 rfl ?_
    refine sm_iload_n hG 33 rfl dX6_isExcused_32 rfl 2 rfl ?_
    refine sm_iload_n hG 34 rfl dX6_isExcused_33 rfl 2 rfl ?_
    refine sm_callV hG (fun (q : Int32) => (some (Value.int q), w_21)) (14, 0, 0) [.int x1, .int x2, .int x2] 37 rfl (okb hC (by decide) (by decide)) (ce_14 hC _) (ci := 4) rfl (fun r_ hr_ => c_X4_coverAnyOf hC (by decide)  hr_) gX6_isExcused_X4_coverAnyOf rfl (by decide) (by decide) (n := 3) rfl (Nat.le_of_ble_eq_true rfl) (by decide) (by decide) rfl dX6_isExcused_34 (fun r_34 => ?_)
    exact sm_nbret hG hT (by decide) dX6_isExcused_37 rfl
  · refine sm_aload_n hG 1 rfl dX6_isExcused_0 rfl 0 rfl ?_
    refine sm_iload_n hG 2 rfl dX6_isExcused_1 rfl 1 rfl ?_
    refine sm_tbk rq_X6_requireSinger ?_
    refine sm_ncallV hG hT (finc := (fun (q : Int32 × Nat × mC) => ((none : Option Value), q.2))) (fun _ => rfl) (0, 0, 0) [.int x1] 5 rfl (ok0 hC) (ce_0 hC _) (ci := 6) rfl (fun r_ hr_ h0_ => c0_X6_requireSinger hC hr_ h0_) gX6_isExcused_X6_requireSinger rfl (by decide) (by decide) (n := 1) rfl (Nat.le_of_ble_eq_true rfl) ⟨rfl, rfl⟩ (by decide) rfl dX6_isExcused_2 (fun r_2 w_2 => ?_)
    refine sm_wk (fun e_ => ?_)
    subst e_
    refine sm_iload_n hG 6 rfl dX6_isExcused_5 rfl 2 rfl ?_
    refine sm_iconst (x := (0 : Int32)) hG 7 rfl dX6_isExcused_6 rfl ?_
    refine sm_sipush (x := (9999 : Int32)) hG 10 rfl dX6_isExcused_7 rfl ?_
    refine sm_callS hG (fun (q : Int32) => (some (Value.int q), w_2)) [.int x2, .int (0 : Int32), .int (9999 : Int32)] 13 rfl (fun r_ hr_ => c_X6_isWithin hC   hr_) gX6_isExcused_X6_isWithin rfl (by decide) (by decide) (n := 3) rfl (Nat.le_of_ble_eq_true rfl) (by decide) (by decide) rfl dX6_isExcused_10 (fun r_10 => ?_)
    refine sm_if_eq hG 20 16 rfl dX6_isExcused_13 (by decide) ?_ ?_
    · refine sm_iconst (x := (2 : Int32)) hG 21 rfl dX6_isExcused_20 rfl ?_
      exact hj21 _
    · refine sm_iconst (x := (0 : Int32)) hG 17 rfl dX6_isExcused_16 rfl ?_
      refine sm_goto hG 21 dX6_isExcused_17 (by decide) ?_
      exact hj21 _
theorem c0n_X6_isExcused {Λ : jL kC} (hC : LC Λ) {x1 : Int32} {x2 : Int32} {l : Launch} {v : mC} {r : Int32 × mC} (hr_ : nn (f_X6_isExcused x1 x2 v) = some r) : Ct l yX6_isExcused wsX6_isExcused rnX6_isExcused Λ [.ref (Λ.2.2.2.1 (0, 0, 0)), .int x1, .int x2] v (some (.int r.1)) r.2 := by
  obtain ⟨q, h1, h2, h3⟩ := nn_s hr_
  subst h3
  exact c0_X6_isExcused hC h1 h2
abbrev rnX6_feastsOf : Room := { frames := 2, cells := 0, slots := 0, locals := 42 }
set_option maxRecDepth 100000 in
set_option maxHeartbeats 4000000 in
theorem c0_X6_feastsOf {Λ : jL kC} (hC : LC Λ) {x1 : Int32} {l : Launch} {v : mC} {r : Int32 × Nat × mC} (hr_ : f_X6_feastsOf x1 v = some r) (h0_ : r.2.1 = 0) : Ct l yX6_feastsOf wsX6_feastsOf rnX6_feastsOf Λ [.ref (Λ.2.2.2.1 (0, 0, 0)), .int x1] v (some (.int r.1)) r.2.2 := by
  refine ct0_of (cc := cX6_feastsOf) (maxL := 2) (ret := (some .int)) (fun (q : Int32 × Nat × mC) => (some (Value.int q.1), q.2)) (fun _ => rfl) hC.1 hr_ h0_ (by decide) rfl (Nat.le_of_ble_eq_true rfl) (fun Γ hG hT hN hl => ?_)
  subst hl
  have f10 : Cond.fieldLink RX6 10 "ChoirRegister" "book" "LChoirRegister$Book;" ∈ wsX6_feastsOf := by decide +kernel
  have f137 : Cond.fieldLink RX6 137 "ChoirRegister$Book" "roster" "LChoirRegister$Roster;" ∈ wsX6_feastsOf := by decide +kernel
  have f194 : Cond.fieldLink RX6 194 "ChoirRegister$Roster" "feastsSung" "[I" ∈ wsX6_feastsOf := by decide +kernel
  have u0 : ∀ w ∈ wsX00, w ∈ wsX6_feastsOf := by decide +kernel
  have u5 : ∀ w ∈ wsX50, w ∈ wsX6_feastsOf := by decide +kernel
  have u6 : ∀ w ∈ wsX60, w ∈ wsX6_feastsOf := by decide +kernel
  show Sm Γ Λ (0, 0) 0 [(0, .ref (Λ.2.2.2.1 (0, 0, 0))), (1, .int x1)] [] v _
  unfold f_X6_feastsOf
  refine sm_aload_n hG 1 rfl dX6_feastsOf_0 rfl 0 rfl ?_
  refine sm_iload_n hG 2 rfl dX6_feastsOf_1 rfl 1 rfl ?_
  refine sm_ncallV hG hT (finc := (fun (q : Int32 × Nat × mC) => ((none : Option Value), q.2))) (fun _ => rfl) (0, 0, 0) [.int x1] 5 rfl (ok0 hC) (ce_0 hC _) (ci := 6) rfl (fun r_ hr_ h0_ => c0_X6_requireSinger hC hr_ h0_) gX6_feastsOf_X6_requireSinger rfl (by decide) (by decide) (n := 1) rfl (Nat.le_of_ble_eq_true rfl) ⟨rfl, rfl⟩ (by decide) rfl dX6_feastsOf_2 (fun r_2 w_2 => ?_)
  refine sm_aload_n hG 6 rfl dX6_feastsOf_5 rfl 0 rfl ?_
  refine gC0_0 hG hC  9 rfl u6 f10 dX6_feastsOf_6 ?_
  refine gC1_1 hG hC (by decide) 12 rfl u0 f137 dX6_feastsOf_9 ?_
  refine gC2_10 hG hC (by decide) 15 rfl u5 f194 dX6_feastsOf_12 ?_
  refine sm_iload_n hG 16 rfl dX6_feastsOf_15 rfl 1 rfl ?_
  refine lC12 hG hC (by decide) 17 rfl dX6_feastsOf_16 ?_
  exact sm_niret hG hT (by decide) dX6_feastsOf_17 rfl
theorem c0n_X6_feastsOf {Λ : jL kC} (hC : LC Λ) {x1 : Int32} {l : Launch} {v : mC} {r : Int32 × mC} (hr_ : nn (f_X6_feastsOf x1 v) = some r) : Ct l yX6_feastsOf wsX6_feastsOf rnX6_feastsOf Λ [.ref (Λ.2.2.2.1 (0, 0, 0)), .int x1] v (some (.int r.1)) r.2 := by
  obtain ⟨q, h1, h2, h3⟩ := nn_s hr_
  subst h3
  exact c0_X6_feastsOf hC h1 h2
abbrev rnX6_descantsOf : Room := { frames := 2, cells := 0, slots := 0, locals := 42 }
set_option maxRecDepth 100000 in
set_option maxHeartbeats 4000000 in
theorem c0_X6_descantsOf {Λ : jL kC} (hC : LC Λ) {x1 : Int32} {l : Launch} {v : mC} {r : Int32 × Nat × mC} (hr_ : f_X6_descantsOf x1 v = some r) (h0_ : r.2.1 = 0) : Ct l yX6_descantsOf wsX6_descantsOf rnX6_descantsOf Λ [.ref (Λ.2.2.2.1 (0, 0, 0)), .int x1] v (some (.int r.1)) r.2.2 := by
  refine ct0_of (cc := cX6_descantsOf) (maxL := 2) (ret := (some .int)) (fun (q : Int32 × Nat × mC) => (some (Value.int q.1), q.2)) (fun _ => rfl) hC.1 hr_ h0_ (by decide) rfl (Nat.le_of_ble_eq_true rfl) (fun Γ hG hT hN hl => ?_)
  subst hl
  have f10 : Cond.fieldLink RX6 10 "ChoirRegister" "book" "LChoirRegister$Book;" ∈ wsX6_descantsOf := by decide +kernel
  have f137 : Cond.fieldLink RX6 137 "ChoirRegister$Book" "roster" "LChoirRegister$Roster;" ∈ wsX6_descantsOf := by decide +kernel
  have f197 : Cond.fieldLink RX6 197 "ChoirRegister$Roster" "descantsSung" "[I" ∈ wsX6_descantsOf := by decide +kernel
  have u0 : ∀ w ∈ wsX00, w ∈ wsX6_descantsOf := by decide +kernel
  have u5 : ∀ w ∈ wsX50, w ∈ wsX6_descantsOf := by decide +kernel
  have u6 : ∀ w ∈ wsX60, w ∈ wsX6_descantsOf := by decide +kernel
  show Sm Γ Λ (0, 0) 0 [(0, .ref (Λ.2.2.2.1 (0, 0, 0))), (1, .int x1)] [] v _
  unfold f_X6_descantsOf
  refine sm_aload_n hG 1 rfl dX6_descantsOf_0 rfl 0 rfl ?_
  refine sm_iload_n hG 2 rfl dX6_descantsOf_1 rfl 1 rfl ?_
  refine sm_ncallV hG hT (finc := (fun (q : Int32 × Nat × mC) => ((none : Option Value), q.2))) (fun _ => rfl) (0, 0, 0) [.int x1] 5 rfl (ok0 hC) (ce_0 hC _) (ci := 6) rfl (fun r_ hr_ h0_ => c0_X6_requireSinger hC hr_ h0_) gX6_descantsOf_X6_requireSinger rfl (by decide) (by decide) (n := 1) rfl (Nat.le_of_ble_eq_true rfl) ⟨rfl, rfl⟩ (by decide) rfl dX6_descantsOf_2 (fun r_2 w_2 => ?_)
  refine sm_aload_n hG 6 rfl dX6_descantsOf_5 rfl 0 rfl ?_
  refine gC0_0 hG hC  9 rfl u6 f10 dX6_descantsOf_6 ?_
  refine gC1_1 hG hC (by decide) 12 rfl u0 f137 dX6_descantsOf_9 ?_
  refine gC2_11 hG hC (by decide) 15 rfl u5 f197 dX6_descantsOf_12 ?_
  refine sm_iload_n hG 16 rfl dX6_descantsOf_15 rfl 1 rfl ?_
  refine lC13 hG hC (by decide) 17 rfl dX6_descantsOf_16 ?_
  exact sm_niret hG hT (by decide) dX6_descantsOf_17 rfl
theorem c0n_X6_descantsOf {Λ : jL kC} (hC : LC Λ) {x1 : Int32} {l : Launch} {v : mC} {r : Int32 × mC} (hr_ : nn (f_X6_descantsOf x1 v) = some r) : Ct l yX6_descantsOf wsX6_descantsOf rnX6_descantsOf Λ [.ref (Λ.2.2.2.1 (0, 0, 0)), .int x1] v (some (.int r.1)) r.2 := by
  obtain ⟨q, h1, h2, h3⟩ := nn_s hr_
  subst h3
  exact c0_X6_descantsOf hC h1 h2
abbrev rnX6_requireFeast : Room := { frames := 1, cells := 0, slots := 0, locals := 21 }
set_option maxRecDepth 100000 in
set_option maxHeartbeats 4000000 in
theorem c0_X6_requireFeast {Λ : jL kC} (hC : LC Λ) {x1 : Int32} {l : Launch} {v : mC} {r : Int32 × Nat × mC} (hr_ : f_X6_requireFeast x1 v = some r) (h0_ : r.2.1 = 0) : Ct l yX6_requireFeast wsX6_requireFeast rnX6_requireFeast Λ [.ref (Λ.2.2.2.1 (0, 0, 0)), .int x1] v none r.2.2 := by
  refine ct0_of (cc := cX6_requireFeast) (maxL := 2) (ret := none) (fun (q : Int32 × Nat × mC) => ((none : Option Value), q.2)) (fun _ => rfl) hC.1 hr_ h0_ (by decide) rfl (Nat.le_of_ble_eq_true rfl) (fun Γ hG hT hN hl => ?_)
  subst hl
  have f10 : Cond.fieldLink RX6 10 "ChoirRegister" "book" "LChoirRegister$Book;" ∈ wsX6_requireFeast := by decide +kernel
  have f200 : Cond.fieldLink RX6 200 "ChoirRegister$Book" "calendar" "LChoirRegister$Calendar;" ∈ wsX6_requireFeast := by decide +kernel
  have u0 : ∀ w ∈ wsX00, w ∈ wsX6_requireFeast := by decide +kernel
  have u6 : ∀ w ∈ wsX60, w ∈ wsX6_requireFeast := by decide +kernel
  show Sm Γ Λ (0, 0) 0 [(0, .ref (Λ.2.2.2.1 (0, 0, 0))), (1, .int x1)] [] v _
  unfold f_X6_requireFeast
  refine sm_jn (fun (X19 : Int32 → Option (Int32 × Nat × mC)) => ∀ (s0_19 : Int32), Sm Γ Λ (0, 0) 19 [] [.int s0_19] v (X19 s0_19)) (fun s0_19 => ?_) (fun j19 hj19 => ?_)
  · refine sm_ncallS hG hT (finc := (fun (q : Int32 × Nat × mC) => ((none : Option Value), q.2))) (fun _ => rfl) [.int s0_19] 22 rfl (fun r_ hr_ h0_ => c0_X6_refuseIf hC hr_ h0_) gX6_requireFeast_X6_refuseIf rfl (by decide) (by decide) (n := 1) rfl (Nat.le_of_ble_eq_true rfl) ⟨rfl, rfl⟩ (by decide) rfl dX6_requireFeast_19 (fun r_19 w_19 => ?_)
    exact sm_nvret hG hT (by decide) dX6_requireFeast_22 rfl
  · refine sm_aload_n hG 1 rfl dX6_requireFeast_0 rfl 0 rfl ?_
    refine gC0_0 hG hC  4 rfl u6 f10 dX6_requireFeast_1 ?_
    refine gC1_3 hG hC (by decide) 7 rfl u0 f200 dX6_requireFeast_4 ?_
    refine sm_iload_n hG 8 rfl dX6_requireFeast_7 rfl 1 rfl ?_
    refine sm_callV hG (fun (q : Int32) => (some (Value.int q), v)) (18, 0, 0) [.int x1] 11 rfl (okb hC (by decide) (by decide)) (ce_18 hC _) (ci := 1) rfl (fun r_ hr_ => c_X1_has hC (by decide)  hr_) gX6_requireFeast_X1_has rfl (by decide) (by decide) (n := 1) rfl (Nat.le_of_ble_eq_true rfl) (by decide) (by decide) rfl dX6_requireFeast_8 (fun r_8 => ?_)
    refine sm_if_eq hG 18 14 rfl dX6_requireFeast_11 (by decide) ?_ ?_
    · refine sm_iconst (x := (1 : Int32)) hG 19 rfl dX6_requireFeast_18 rfl ?_
      refine sm_loc [] [] rfl ?_
      exact hj19 _
    · refine sm_iconst (x := (0 : Int32)) hG 15 rfl dX6_requireFeast_14 rfl ?_
      refine sm_goto hG 19 dX6_requireFeast_15 (by decide) ?_
      refine sm_loc [] [] rfl ?_
      exact hj19 _
abbrev rnX6_dayOf : Room := { frames := 2, cells := 0, slots := 0, locals := 42 }
set_option maxRecDepth 100000 in
set_option maxHeartbeats 4000000 in
theorem c0_X6_dayOf {Λ : jL kC} (hC : LC Λ) {x1 : Int32} {l : Launch} {v : mC} {r : Int32 × Nat × mC} (hr_ : f_X6_dayOf x1 v = some r) (h0_ : r.2.1 = 0) : Ct l yX6_dayOf wsX6_dayOf rnX6_dayOf Λ [.ref (Λ.2.2.2.1 (0, 0, 0)), .int x1] v (some (.int r.1)) r.2.2 := by
  refine ct0_of (cc := cX6_dayOf) (maxL := 2) (ret := (some .int)) (fun (q : Int32 × Nat × mC) => (some (Value.int q.1), q.2)) (fun _ => rfl) hC.1 hr_ h0_ (by decide) rfl (Nat.le_of_ble_eq_true rfl) (fun Γ hG hT hN hl => ?_)
  subst hl
  have f10 : Cond.fieldLink RX6 10 "ChoirRegister" "book" "LChoirRegister$Book;" ∈ wsX6_dayOf := by decide +kernel
  have f200 : Cond.fieldLink RX6 200 "ChoirRegister$Book" "calendar" "LChoirRegister$Calendar;" ∈ wsX6_dayOf := by decide +kernel
  have f210 : Cond.fieldLink RX6 210 "ChoirRegister$Calendar" "day" "[I" ∈ wsX6_dayOf := by decide +kernel
  have u0 : ∀ w ∈ wsX00, w ∈ wsX6_dayOf := by decide +kernel
  have u1 : ∀ w ∈ wsX10, w ∈ wsX6_dayOf := by decide +kernel
  have u6 : ∀ w ∈ wsX60, w ∈ wsX6_dayOf := by decide +kernel
  show Sm Γ Λ (0, 0) 0 [(0, .ref (Λ.2.2.2.1 (0, 0, 0))), (1, .int x1)] [] v _
  unfold f_X6_dayOf
  refine sm_aload_n hG 1 rfl dX6_dayOf_0 rfl 0 rfl ?_
  refine sm_iload_n hG 2 rfl dX6_dayOf_1 rfl 1 rfl ?_
  refine sm_ncallV hG hT (finc := (fun (q : Int32 × Nat × mC) => ((none : Option Value), q.2))) (fun _ => rfl) (0, 0, 0) [.int x1] 5 rfl (ok0 hC) (ce_0 hC _) (ci := 6) rfl (fun r_ hr_ h0_ => c0_X6_requireFeast hC hr_ h0_) gX6_dayOf_X6_requireFeast rfl (by decide) (by decide) (n := 1) rfl (Nat.le_of_ble_eq_true rfl) ⟨rfl, rfl⟩ (by decide) rfl dX6_dayOf_2 (fun r_2 w_2 => ?_)
  refine sm_aload_n hG 6 rfl dX6_dayOf_5 rfl 0 rfl ?_
  refine gC0_0 hG hC  9 rfl u6 f10 dX6_dayOf_6 ?_
  refine gC1_3 hG hC (by decide) 12 rfl u0 f200 dX6_dayOf_9 ?_
  refine gC18_1 hG hC (by decide) 15 rfl u1 f210 dX6_dayOf_12 ?_
  refine sm_iload_n hG 16 rfl dX6_dayOf_15 rfl 1 rfl ?_
  refine lC19 hG hC (by decide) 17 rfl dX6_dayOf_16 ?_
  exact sm_niret hG hT (by decide) dX6_dayOf_17 rfl
theorem c0n_X6_dayOf {Λ : jL kC} (hC : LC Λ) {x1 : Int32} {l : Launch} {v : mC} {r : Int32 × mC} (hr_ : nn (f_X6_dayOf x1 v) = some r) : Ct l yX6_dayOf wsX6_dayOf rnX6_dayOf Λ [.ref (Λ.2.2.2.1 (0, 0, 0)), .int x1] v (some (.int r.1)) r.2 := by
  obtain ⟨q, h1, h2, h3⟩ := nn_s hr_
  subst h3
  exact c0_X6_dayOf hC h1 h2
abbrev rnX6_isHeld : Room := { frames := 2, cells := 0, slots := 0, locals := 42 }
set_option maxRecDepth 100000 in
set_option maxHeartbeats 4000000 in
theorem c0_X6_isHeld {Λ : jL kC} (hC : LC Λ) {x1 : Int32} {l : Launch} {v : mC} {r : Int32 × Nat × mC} (hr_ : f_X6_isHeld x1 v = some r) (h0_ : r.2.1 = 0) : Ct l yX6_isHeld wsX6_isHeld rnX6_isHeld Λ [.ref (Λ.2.2.2.1 (0, 0, 0)), .int x1] v (some (.int r.1)) r.2.2 := by
  refine ct0_of (cc := cX6_isHeld) (maxL := 2) (ret := (some .boolean)) (fun (q : Int32 × Nat × mC) => (some (Value.int q.1), q.2)) (fun _ => rfl) hC.1 hr_ h0_ (by decide) rfl (Nat.le_of_ble_eq_true rfl) (fun Γ hG hT hN hl => ?_)
  subst hl
  have f10 : Cond.fieldLink RX6 10 "ChoirRegister" "book" "LChoirRegister$Book;" ∈ wsX6_isHeld := by decide +kernel
  have u6 : ∀ w ∈ wsX60, w ∈ wsX6_isHeld := by decide +kernel
  show Sm Γ Λ (0, 0) 0 [(0, .ref (Λ.2.2.2.1 (0, 0, 0))), (1, .int x1)] [] v _
  unfold f_X6_isHeld
  refine sm_aload_n hG 1 rfl dX6_isHeld_0 rfl 0 rfl ?_
  refine sm_iload_n hG 2 rfl dX6_isHeld_1 rfl 1 rfl ?_
  refine sm_ncallV hG hT (finc := (fun (q : Int32 × Nat × mC) => ((none : Option Value), q.2))) (fun _ => rfl) (0, 0, 0) [.int x1] 5 rfl (ok0 hC) (ce_0 hC _) (ci := 6) rfl (fun r_ hr_ h0_ => c0_X6_requireFeast hC hr_ h0_) gX6_isHeld_X6_requireFeast rfl (by decide) (by decide) (n := 1) rfl (Nat.le_of_ble_eq_true rfl) ⟨rfl, rfl⟩ (by decide) rfl dX6_isHeld_2 (fun r_2 w_2 => ?_)
  refine sm_aload_n hG 6 rfl dX6_isHeld_5 rfl 0 rfl ?_
  refine gC0_0 hG hC  9 rfl u6 f10 dX6_isHeld_6 ?_
  refine sm_iload_n hG 10 rfl dX6_isHeld_9 rfl 1 rfl ?_
  refine sm_callV hG (fun (q : Int32) => (some (Value.int q), w_2)) (1, 0, 0) [.int x1] 13 rfl (okb hC (by decide) (by decide)) (ce_1 hC _) (ci := 0) rfl (fun r_ hr_ => c_X0_hasHeld hC (by decide)  hr_) gX6_isHeld_X0_hasHeld rfl (by decide) (by decide) (n := 1) rfl (Nat.le_of_ble_eq_true rfl) (by decide) (by decide) rfl dX6_isHeld_10 (fun r_10 => ?_)
  exact sm_nbret hG hT (by decide) dX6_isHeld_13 rfl
theorem c0n_X6_isHeld {Λ : jL kC} (hC : LC Λ) {x1 : Int32} {l : Launch} {v : mC} {r : Int32 × mC} (hr_ : nn (f_X6_isHeld x1 v) = some r) : Ct l yX6_isHeld wsX6_isHeld rnX6_isHeld Λ [.ref (Λ.2.2.2.1 (0, 0, 0)), .int x1] v (some (.int r.1)) r.2 := by
  obtain ⟨q, h1, h2, h3⟩ := nn_s hr_
  subst h3
  exact c0_X6_isHeld hC h1 h2
abbrev rnX6_requireLine : Room := { frames := 2, cells := 0, slots := 0, locals := 42 }
set_option maxRecDepth 100000 in
set_option maxHeartbeats 4000000 in
theorem c0_X6_requireLine {Λ : jL kC} (hC : LC Λ) {x0 : Int32} {l : Launch} {v : mC} {r : Int32 × Nat × mC} (hr_ : f_X6_requireLine x0 v = some r) (h0_ : r.2.1 = 0) : Ct l yX6_requireLine wsX6_requireLine rnX6_requireLine Λ [.int x0] v none r.2.2 := by
  refine ct0_of (cc := cX6_requireLine) (maxL := 1) (ret := none) (fun (q : Int32 × Nat × mC) => ((none : Option Value), q.2)) (fun _ => rfl) hC.1 hr_ h0_ (by decide) rfl (Nat.le_of_ble_eq_true rfl) (fun Γ hG hT hN hl => ?_)
  subst hl
  show Sm Γ Λ (0, 0) 0 [(0, .int x0)] [] v _
  unfold f_X6_requireLine
  refine sm_jn (fun (X12 : Int32 → Option (Int32 × Nat × mC)) => ∀ (s0_12 : Int32), Sm Γ Λ (0, 0) 12 [] [.int s0_12] v (X12 s0_12)) (fun s0_12 => ?_) (fun j12 hj12 => ?_)
  · refine sm_ncallS hG hT (finc := (fun (q : Int32 × Nat × mC) => ((none : Option Value), q.2))) (fun _ => rfl) [.int s0_12] 15 rfl (fun r_ hr_ h0_ => c0_X6_refuseIf hC hr_ h0_) gX6_requireLine_X6_refuseIf rfl (by decide) (by decide) (n := 1) rfl (Nat.le_of_ble_eq_true rfl) ⟨rfl, rfl⟩ (by decide) rfl dX6_requireLine_12 (fun r_12 w_12 => ?_)
    exact sm_nvret hG hT (by decide) dX6_requireLine_15 rfl
  · refine sm_iload_n hG 1 rfl dX6_requireLine_0 rfl 0 rfl ?_
    refine sm_callS hG (fun (q : Int32) => (some (Value.int q), v)) [.int x0] 4 rfl (fun r_ hr_ => c_X6_isLine hC   hr_) gX6_requireLine_X6_isLine rfl (by decide) (by decide) (n := 1) rfl (Nat.le_of_ble_eq_true rfl) (by decide) (by decide) rfl dX6_requireLine_1 (fun r_1 => ?_)
    refine sm_if_eq hG 11 7 rfl dX6_requireLine_4 (by decide) ?_ ?_
    · refine sm_iconst (x := (1 : Int32)) hG 12 rfl dX6_requireLine_11 rfl ?_
      refine sm_loc [] [] rfl ?_
      exact hj12 _
    · refine sm_iconst (x := (0 : Int32)) hG 8 rfl dX6_requireLine_7 rfl ?_
      refine sm_goto hG 12 dX6_requireLine_8 (by decide) ?_
      refine sm_loc [] [] rfl ?_
      exact hj12 _
abbrev rnX6_placesIn : Room := { frames := 3, cells := 0, slots := 0, locals := 62 }
set_option maxRecDepth 100000 in
set_option maxHeartbeats 4000000 in
theorem c0_X6_placesIn {Λ : jL kC} (hC : LC Λ) {x1 : Int32} {x2 : Int32} {l : Launch} {v : mC} {r : Int32 × Nat × mC} (hr_ : f_X6_placesIn x1 x2 v = some r) (h0_ : r.2.1 = 0) : Ct l yX6_placesIn wsX6_placesIn rnX6_placesIn Λ [.ref (Λ.2.2.2.1 (0, 0, 0)), .int x1, .int x2] v (some (.int r.1)) r.2.2 := by
  refine ct0_of (cc := cX6_placesIn) (maxL := 3) (ret := (some .int)) (fun (q : Int32 × Nat × mC) => (some (Value.int q.1), q.2)) (fun _ => rfl) hC.1 hr_ h0_ (by decide) rfl (Nat.le_of_ble_eq_true rfl) (fun Γ hG hT hN hl => ?_)
  subst hl
  have f10 : Cond.fieldLink RX6 10 "ChoirRegister" "book" "LChoirRegister$Book;" ∈ wsX6_placesIn := by decide +kernel
  have f200 : Cond.fieldLink RX6 200 "ChoirRegister$Book" "calendar" "LChoirRegister$Calendar;" ∈ wsX6_placesIn := by decide +kernel
  have f219 : Cond.fieldLink RX6 219 "ChoirRegister$Calendar" "places" "[[I" ∈ wsX6_placesIn := by decide +kernel
  have u0 : ∀ w ∈ wsX00, w ∈ wsX6_placesIn := by decide +kernel
  have u1 : ∀ w ∈ wsX10, w ∈ wsX6_placesIn := by decide +kernel
  have u6 : ∀ w ∈ wsX60, w ∈ wsX6_placesIn := by decide +kernel
  show Sm Γ Λ (0, 0) 0 [(0, .ref (Λ.2.2.2.1 (0, 0, 0))), (1, .int x1), (2, .int x2)] [] v _
  unfold f_X6_placesIn
  refine sm_aload_n hG 1 rfl dX6_placesIn_0 rfl 0 rfl ?_
  refine sm_iload_n hG 2 rfl dX6_placesIn_1 rfl 1 rfl ?_
  refine sm_ncallV hG hT (finc := (fun (q : Int32 × Nat × mC) => ((none : Option Value), q.2))) (fun _ => rfl) (0, 0, 0) [.int x1] 5 rfl (ok0 hC) (ce_0 hC _) (ci := 6) rfl (fun r_ hr_ h0_ => c0_X6_requireFeast hC hr_ h0_) gX6_placesIn_X6_requireFeast rfl (by decide) (by decide) (n := 1) rfl (Nat.le_of_ble_eq_true rfl) ⟨rfl, rfl⟩ (by decide) rfl dX6_placesIn_2 (fun r_2 w_2 => ?_)
  refine sm_iload_n hG 6 rfl dX6_placesIn_5 rfl 2 rfl ?_
  refine sm_ncallS hG hT (finc := (fun (q : Int32 × Nat × mC) => ((none : Option Value), q.2))) (fun _ => rfl) [.int x2] 9 rfl (fun r_ hr_ h0_ => c0_X6_requireLine hC hr_ h0_) gX6_placesIn_X6_requireLine rfl (by decide) (by decide) (n := 1) rfl (Nat.le_of_ble_eq_true rfl) ⟨rfl, rfl⟩ (by decide) rfl dX6_placesIn_6 (fun r_6 w_6 => ?_)
  refine sm_aload_n hG 10 rfl dX6_placesIn_9 rfl 0 rfl ?_
  refine gC0_0 hG hC  13 rfl u6 f10 dX6_placesIn_10 ?_
  refine gC1_3 hG hC (by decide) 16 rfl u0 f200 dX6_placesIn_13 ?_
  refine gC18_4 hG hC (by decide) 19 rfl u1 f219 dX6_placesIn_16 ?_
  refine sm_iload_n hG 20 rfl dX6_placesIn_19 rfl 1 rfl ?_
  refine lC22 hG hC (by decide) 21 rfl dX6_placesIn_20 (fun hf20_1 => ?_)
  refine sm_iload_n hG 22 rfl dX6_placesIn_21 rfl 2 rfl ?_
  refine lC26 hG hC (by decide) hf20_1 23 rfl dX6_placesIn_22 ?_
  exact sm_niret hG hT (by decide) dX6_placesIn_23 rfl
theorem c0n_X6_placesIn {Λ : jL kC} (hC : LC Λ) {x1 : Int32} {x2 : Int32} {l : Launch} {v : mC} {r : Int32 × mC} (hr_ : nn (f_X6_placesIn x1 x2 v) = some r) : Ct l yX6_placesIn wsX6_placesIn rnX6_placesIn Λ [.ref (Λ.2.2.2.1 (0, 0, 0)), .int x1, .int x2] v (some (.int r.1)) r.2 := by
  obtain ⟨q, h1, h2, h3⟩ := nn_s hr_
  subst h3
  exact c0_X6_placesIn hC h1 h2
abbrev rnX6_whyNot : Room := { frames := 3, cells := 0, slots := 0, locals := 62 }
set_option maxRecDepth 100000 in
set_option maxHeartbeats 4000000 in
theorem c0_X6_whyNot {Λ : jL kC} (hC : LC Λ) {x1 : Int32} {x2 : Int32} {x3 : Int32} {l : Launch} {v : mC} {r : Int32 × Nat × mC} (hr_ : f_X6_whyNot x1 x2 x3 v = some r) (h0_ : r.2.1 = 0) : Ct l yX6_whyNot wsX6_whyNot rnX6_whyNot Λ [.ref (Λ.2.2.2.1 (0, 0, 0)), .int x1, .int x2, .int x3] v (some (.int r.1)) r.2.2 := by
  refine ct0_of (cc := cX6_whyNot) (maxL := 5) (ret := (some .int)) (fun (q : Int32 × Nat × mC) => (some (Value.int q.1), q.2)) (fun _ => rfl) hC.1 hr_ h0_ (by decide) rfl (Nat.le_of_ble_eq_true rfl) (fun Γ hG hT hN hl => ?_)
  subst hl
  have f10 : Cond.fieldLink RX6 10 "ChoirRegister" "book" "LChoirRegister$Book;" ∈ wsX6_whyNot := by decide +kernel
  have f200 : Cond.fieldLink RX6 200 "ChoirRegister$Book" "calendar" "LChoirRegister$Calendar;" ∈ wsX6_whyNot := by decide +kernel
  have f210 : Cond.fieldLink RX6 210 "ChoirRegister$Calendar" "day" "[I" ∈ wsX6_whyNot := by decide +kernel
  have u0 : ∀ w ∈ wsX00, w ∈ wsX6_whyNot := by decide +kernel
  have u1 : ∀ w ∈ wsX10, w ∈ wsX6_whyNot := by decide +kernel
  have u6 : ∀ w ∈ wsX60, w ∈ wsX6_whyNot := by decide +kernel
  show Sm Γ Λ (0, 0) 0 [(0, .ref (Λ.2.2.2.1 (0, 0, 0))), (1, .int x1), (2, .int x2), (3, .int x3)] [] v _
  unfold f_X6_whyNot
  refine sm_jn (fun (X30 : Int32 → Option (Int32 × Nat × mC)) => ∀ (s0_30 : Int32), Sm Γ Λ (0, 0) 30 [(0, .ref (Λ.2.2.2.1 (0, 0, 0))), (1, .int x1), (2, .int x2), (3, .int x3)] [.int s0_30] v (X30 s0_30)) (fun s0_30 => ?_) (fun j30 hj30 => ?_)
  · refine sm_ncallS hG hT (finc := (fun (q : Int32 × Nat × mC) => ((none : Option Value), q.2))) (fun _ => rfl) [.int s0_30] 33 rfl (fun r_ hr_ h0_ => c0_X6_refuseIf hC hr_ h0_) gX6_whyNot_X6_refuseIf rfl (by decide) (by decide) (n := 1) rfl (Nat.le_of_ble_eq_true rfl) ⟨rfl, rfl⟩ (by decide) rfl dX6_whyNot_30 (fun r_30 w_30 => ?_)
    refine sm_aload_n hG 34 rfl dX6_whyNot_33 rfl 0 rfl ?_
    refine gC0_0 hG hC  37 rfl u6 f10 dX6_whyNot_34 ?_
    refine sm_iload_n hG 38 rfl dX6_whyNot_37 rfl 2 rfl ?_
    refine sm_aload_n hG 39 rfl dX6_whyNot_38 rfl 0 rfl ?_
    refine gC0_0 hG hC  42 rfl u6 f10 dX6_whyNot_39 ?_
    refine gC1_3 hG hC (by decide) 45 rfl u0 f200 dX6_whyNot_42 ?_
    refine gC18_1 hG hC (by decide) 48 rfl u1 f210 dX6_whyNot_45 ?_
    refine sm_iload_n hG 49 rfl dX6_whyNot_48 rfl 1 rfl ?_
    refine lC19 hG hC (by decide) 50 rfl dX6_whyNot_49 ?_
    refine sm_callV hG (fun (q : Int32) => (some (Value.int q), w_30)) (1, 0, 0) [.int x2, .int (w_30 (19, 0, 0) (ix x1))] 53 rfl (okb hC (by decide) (by decide)) (ce_1 hC _) (ci := 0) rfl (fun r_ hr_ => c_X0_hindrance hC (by decide)  hr_) gX6_whyNot_X0_hindrance rfl (by decide) (by decide) (n := 2) rfl (Nat.le_of_ble_eq_true rfl) (by decide) (by decide) rfl dX6_whyNot_50 (fun r_50 => ?_)
    refine sm_istore hG 55 rfl dX6_whyNot_53 (jlt hN rfl) [(4, .int r_50), (0, .ref (Λ.2.2.2.1 (0, 0, 0))), (1, .int x1), (2, .int x2), (3, .int x3)] rfl ?_
    refine sm_iload hG 57 rfl dX6_whyNot_55 0 rfl ?_
    refine sm_if_eq hG 65 60 rfl dX6_whyNot_57 (by decide) ?_ ?_
    · refine sm_aload_n hG 66 rfl dX6_whyNot_65 rfl 1 rfl ?_
      refine gC0_0 hG hC  69 rfl u6 f10 dX6_whyNot_66 ?_
      refine sm_iload_n hG 70 rfl dX6_whyNot_69 rfl 2 rfl ?_
      refine sm_iload_n hG 71 rfl dX6_whyNot_70 rfl 3 rfl ?_
      refine sm_iload_n hG 72 rfl dX6_whyNot_71 rfl 4 rfl ?_
      refine sm_callV hG (fun (q : Int32) => (some (Value.int q), w_30)) (1, 0, 0) [.int x1, .int x2, .int x3] 75 rfl (okb hC (by decide) (by decide)) (ce_1 hC _) (ci := 0) rfl (fun r_ hr_ => c_X0_misfit hC (by decide)  hr_) gX6_whyNot_X0_misfit rfl (by decide) (by decide) (n := 3) rfl (Nat.le_of_ble_eq_true rfl) (by decide) (by decide) rfl dX6_whyNot_72 (fun r_72 => ?_)
      exact sm_niret hG hT (by decide) dX6_whyNot_75 rfl
    · refine sm_iload hG 62 rfl dX6_whyNot_60 0 rfl ?_
      refine sm_goto hG 75 dX6_whyNot_62 (by decide) ?_
      exact sm_niret hG hT (by decide) dX6_whyNot_75 rfl
  · refine sm_aload_n hG 1 rfl dX6_whyNot_0 rfl 0 rfl ?_
    refine sm_iload_n hG 2 rfl dX6_whyNot_1 rfl 1 rfl ?_
    refine sm_tbk rq_X6_requireFeast ?_
    refine sm_ncallV hG hT (finc := (fun (q : Int32 × Nat × mC) => ((none : Option Value), q.2))) (fun _ => rfl) (0, 0, 0) [.int x1] 5 rfl (ok0 hC) (ce_0 hC _) (ci := 6) rfl (fun r_ hr_ h0_ => c0_X6_requireFeast hC hr_ h0_) gX6_whyNot_X6_requireFeast rfl (by decide) (by decide) (n := 1) rfl (Nat.le_of_ble_eq_true rfl) ⟨rfl, rfl⟩ (by decide) rfl dX6_whyNot_2 (fun r_2 w_2 => ?_)
    refine sm_wk (fun e_ => ?_)
    subst e_
    refine sm_aload_n hG 6 rfl dX6_whyNot_5 rfl 0 rfl ?_
    refine sm_iload_n hG 7 rfl dX6_whyNot_6 rfl 2 rfl ?_
    refine sm_tbk rq_X6_requireSinger ?_
    refine sm_ncallV hG hT (finc := (fun (q : Int32 × Nat × mC) => ((none : Option Value), q.2))) (fun _ => rfl) (0, 0, 0) [.int x2] 10 rfl (ok0 hC) (ce_0 hC _) (ci := 6) rfl (fun r_ hr_ h0_ => c0_X6_requireSinger hC hr_ h0_) gX6_whyNot_X6_requireSinger rfl (by decide) (by decide) (n := 1) rfl (Nat.le_of_ble_eq_true rfl) ⟨rfl, rfl⟩ (by decide) rfl dX6_whyNot_7 (fun r_7 w_7 => ?_)
    refine sm_wk (fun e_ => ?_)
    subst e_
    refine sm_iload_n hG 11 rfl dX6_whyNot_10 rfl 3 rfl ?_
    refine sm_tbk rq_X6_requireLine ?_
    refine sm_ncallS hG hT (finc := (fun (q : Int32 × Nat × mC) => ((none : Option Value), q.2))) (fun _ => rfl) [.int x3] 14 rfl (fun r_ hr_ h0_ => c0_X6_requireLine hC hr_ h0_) gX6_whyNot_X6_requireLine rfl (by decide) (by decide) (n := 1) rfl (Nat.le_of_ble_eq_true rfl) ⟨rfl, rfl⟩ (by decide) rfl dX6_whyNot_11 (fun r_11 w_11 => ?_)
    refine sm_wk (fun e_ => ?_)
    subst e_
    refine sm_aload_n hG 15 rfl dX6_whyNot_14 rfl 0 rfl ?_
    refine gC0_0 hG hC  18 rfl u6 f10 dX6_whyNot_15 ?_
    refine sm_iload_n hG 19 rfl dX6_whyNot_18 rfl 1 rfl ?_
    refine sm_callV hG (fun (q : Int32) => (some (Value.int q), w_11)) (1, 0, 0) [.int x1] 22 rfl (okb hC (by decide) (by decide)) (ce_1 hC _) (ci := 0) rfl (fun r_ hr_ => c_X0_hasHeld hC (by decide)  hr_) gX6_whyNot_X0_hasHeld rfl (by decide) (by decide) (n := 1) rfl (Nat.le_of_ble_eq_true rfl) (by decide) (by decide) rfl dX6_whyNot_19 (fun r_19 => ?_)
    refine sm_if_eq hG 29 25 rfl dX6_whyNot_22 (by decide) ?_ ?_
    · refine sm_iconst (x := (0 : Int32)) hG 30 rfl dX6_whyNot_29 rfl ?_
      exact hj30 _
    · refine sm_iconst (x := (3 : Int32)) hG 26 rfl dX6_whyNot_25 rfl ?_
      refine sm_goto hG 30 dX6_whyNot_26 (by decide) ?_
      exact hj30 _
theorem c0n_X6_whyNot {Λ : jL kC} (hC : LC Λ) {x1 : Int32} {x2 : Int32} {x3 : Int32} {l : Launch} {v : mC} {r : Int32 × mC} (hr_ : nn (f_X6_whyNot x1 x2 x3 v) = some r) : Ct l yX6_whyNot wsX6_whyNot rnX6_whyNot Λ [.ref (Λ.2.2.2.1 (0, 0, 0)), .int x1, .int x2, .int x3] v (some (.int r.1)) r.2 := by
  obtain ⟨q, h1, h2, h3⟩ := nn_s hr_
  subst h3
  exact c0_X6_whyNot hC h1 h2
abbrev rnX6_lineOf : Room := { frames := 5, cells := 0, slots := 0, locals := 119 }
set_option maxRecDepth 100000 in
set_option maxHeartbeats 4000000 in
theorem c0_X6_lineOf {Λ : jL kC} (hC : LC Λ) {x1 : Int32} {x2 : Int32} {l : Launch} {v : mC} {r : Int32 × Nat × mC} (hr_ : f_X6_lineOf x1 x2 v = some r) (h0_ : r.2.1 = 0) : Ct l yX6_lineOf wsX6_lineOf rnX6_lineOf Λ [.ref (Λ.2.2.2.1 (0, 0, 0)), .int x1, .int x2] v (some (.int r.1)) r.2.2 := by
  refine ct0_of (cc := cX6_lineOf) (maxL := 3) (ret := (some .int)) (fun (q : Int32 × Nat × mC) => (some (Value.int q.1), q.2)) (fun _ => rfl) hC.1 hr_ h0_ (by decide) rfl (Nat.le_of_ble_eq_true rfl) (fun Γ hG hT hN hl => ?_)
  subst hl
  have f10 : Cond.fieldLink RX6 10 "ChoirRegister" "book" "LChoirRegister$Book;" ∈ wsX6_lineOf := by decide +kernel
  have f233 : Cond.fieldLink RX6 233 "ChoirRegister$Lineup" "lines" "[I" ∈ wsX6_lineOf := by decide +kernel
  have f44 : Cond.fieldLink RX6 44 "ChoirRegister" "lineup" "LChoirRegister$Lineup;" ∈ wsX6_lineOf := by decide +kernel
  have u3 : ∀ w ∈ wsX30, w ∈ wsX6_lineOf := by decide +kernel
  have u6 : ∀ w ∈ wsX60, w ∈ wsX6_lineOf := by decide +kernel
  show Sm Γ Λ (0, 0) 0 [(0, .ref (Λ.2.2.2.1 (0, 0, 0))), (1, .int x1), (2, .int x2)] [] v _
  unfold f_X6_lineOf
  refine sm_aload_n hG 1 rfl dX6_lineOf_0 rfl 0 rfl ?_
  refine sm_iload_n hG 2 rfl dX6_lineOf_1 rfl 1 rfl ?_
  refine sm_ncallV hG hT (finc := (fun (q : Int32 × Nat × mC) => ((none : Option Value), q.2))) (fun _ => rfl) (0, 0, 0) [.int x1] 5 rfl (ok0 hC) (ce_0 hC _) (ci := 6) rfl (fun r_ hr_ h0_ => c0_X6_requireFeast hC hr_ h0_) gX6_lineOf_X6_requireFeast rfl (by decide) (by decide) (n := 1) rfl (Nat.le_of_ble_eq_true rfl) ⟨rfl, rfl⟩ (by decide) rfl dX6_lineOf_2 (fun r_2 w_2 => ?_)
  refine sm_aload_n hG 6 rfl dX6_lineOf_5 rfl 0 rfl ?_
  refine sm_iload_n hG 7 rfl dX6_lineOf_6 rfl 2 rfl ?_
  refine sm_ncallV hG hT (finc := (fun (q : Int32 × Nat × mC) => ((none : Option Value), q.2))) (fun _ => rfl) (0, 0, 0) [.int x2] 10 rfl (ok0 hC) (ce_0 hC _) (ci := 6) rfl (fun r_ hr_ h0_ => c0_X6_requireSinger hC hr_ h0_) gX6_lineOf_X6_requireSinger rfl (by decide) (by decide) (n := 1) rfl (Nat.le_of_ble_eq_true rfl) ⟨rfl, rfl⟩ (by decide) rfl dX6_lineOf_7 (fun r_7 w_7 => ?_)
  refine sm_aload_n hG 11 rfl dX6_lineOf_10 rfl 0 rfl ?_
  refine gC0_7 hG hC  14 rfl u6 f44 dX6_lineOf_11 ?_
  refine sm_aload_n hG 15 rfl dX6_lineOf_14 rfl 0 rfl ?_
  refine gC0_0 hG hC  18 rfl u6 f10 dX6_lineOf_15 ?_
  refine sm_iload_n hG 19 rfl dX6_lineOf_18 rfl 1 rfl ?_
  refine sm_callV hG (fun (w : mC) => ((none : Option Value), w)) (35, 0, 0) [.ref (Λ.2.2.2.1 (1, 0, 0)), .int x1] 22 rfl (oks hC (by decide)) (ce_35 hC _) (ci := 3) rfl (fun r_ hr_ => c_X3_tell hC (by decide)  hr_) gX6_lineOf_X3_tell rfl (by decide) (by decide) (n := 2) rfl (Nat.le_of_ble_eq_true rfl) (by decide) (by decide) rfl dX6_lineOf_19 (fun r_19 => ?_)
  refine sm_aload_n hG 23 rfl dX6_lineOf_22 rfl 0 rfl ?_
  refine gC0_7 hG hC  26 rfl u6 f44 dX6_lineOf_23 ?_
  refine gC35_0 hG hC  29 rfl u3 f233 dX6_lineOf_26 ?_
  refine sm_iload_n hG 30 rfl dX6_lineOf_29 rfl 2 rfl ?_
  refine lC36 hG hC  31 rfl dX6_lineOf_30 ?_
  exact sm_niret hG hT (by decide) dX6_lineOf_31 rfl
theorem c0n_X6_lineOf {Λ : jL kC} (hC : LC Λ) {x1 : Int32} {x2 : Int32} {l : Launch} {v : mC} {r : Int32 × mC} (hr_ : nn (f_X6_lineOf x1 x2 v) = some r) : Ct l yX6_lineOf wsX6_lineOf rnX6_lineOf Λ [.ref (Λ.2.2.2.1 (0, 0, 0)), .int x1, .int x2] v (some (.int r.1)) r.2 := by
  obtain ⟨q, h1, h2, h3⟩ := nn_s hr_
  subst h3
  exact c0_X6_lineOf hC h1 h2
abbrev rnX6_singersIn : Room := { frames := 5, cells := 0, slots := 0, locals := 119 }
set_option maxRecDepth 100000 in
set_option maxHeartbeats 4000000 in
theorem c0_X6_singersIn {Λ : jL kC} (hC : LC Λ) {x1 : Int32} {x2 : Int32} {l : Launch} {v : mC} {r : Int32 × Nat × mC} (hr_ : f_X6_singersIn x1 x2 v = some r) (h0_ : r.2.1 = 0) : Ct l yX6_singersIn wsX6_singersIn rnX6_singersIn Λ [.ref (Λ.2.2.2.1 (0, 0, 0)), .int x1, .int x2] v (some (.int r.1)) r.2.2 := by
  refine ct0_of (cc := cX6_singersIn) (maxL := 3) (ret := (some .int)) (fun (q : Int32 × Nat × mC) => (some (Value.int q.1), q.2)) (fun _ => rfl) hC.1 hr_ h0_ (by decide) rfl (Nat.le_of_ble_eq_true rfl) (fun Γ hG hT hN hl => ?_)
  subst hl
  have f10 : Cond.fieldLink RX6 10 "ChoirRegister" "book" "LChoirRegister$Book;" ∈ wsX6_singersIn := by decide +kernel
  have f44 : Cond.fieldLink RX6 44 "ChoirRegister" "lineup" "LChoirRegister$Lineup;" ∈ wsX6_singersIn := by decide +kernel
  have u6 : ∀ w ∈ wsX60, w ∈ wsX6_singersIn := by decide +kernel
  show Sm Γ Λ (0, 0) 0 [(0, .ref (Λ.2.2.2.1 (0, 0, 0))), (1, .int x1), (2, .int x2)] [] v _
  unfold f_X6_singersIn
  refine sm_aload_n hG 1 rfl dX6_singersIn_0 rfl 0 rfl ?_
  refine sm_iload_n hG 2 rfl dX6_singersIn_1 rfl 1 rfl ?_
  refine sm_ncallV hG hT (finc := (fun (q : Int32 × Nat × mC) => ((none : Option Value), q.2))) (fun _ => rfl) (0, 0, 0) [.int x1] 5 rfl (ok0 hC) (ce_0 hC _) (ci := 6) rfl (fun r_ hr_ h0_ => c0_X6_requireFeast hC hr_ h0_) gX6_singersIn_X6_requireFeast rfl (by decide) (by decide) (n := 1) rfl (Nat.le_of_ble_eq_true rfl) ⟨rfl, rfl⟩ (by decide) rfl dX6_singersIn_2 (fun r_2 w_2 => ?_)
  refine sm_iload_n hG 6 rfl dX6_singersIn_5 rfl 2 rfl ?_
  refine sm_ncallS hG hT (finc := (fun (q : Int32 × Nat × mC) => ((none : Option Value), q.2))) (fun _ => rfl) [.int x2] 9 rfl (fun r_ hr_ h0_ => c0_X6_requireLine hC hr_ h0_) gX6_singersIn_X6_requireLine rfl (by decide) (by decide) (n := 1) rfl (Nat.le_of_ble_eq_true rfl) ⟨rfl, rfl⟩ (by decide) rfl dX6_singersIn_6 (fun r_6 w_6 => ?_)
  refine sm_aload_n hG 10 rfl dX6_singersIn_9 rfl 0 rfl ?_
  refine gC0_7 hG hC  13 rfl u6 f44 dX6_singersIn_10 ?_
  refine sm_aload_n hG 14 rfl dX6_singersIn_13 rfl 0 rfl ?_
  refine gC0_0 hG hC  17 rfl u6 f10 dX6_singersIn_14 ?_
  refine sm_iload_n hG 18 rfl dX6_singersIn_17 rfl 1 rfl ?_
  refine sm_callV hG (fun (w : mC) => ((none : Option Value), w)) (35, 0, 0) [.ref (Λ.2.2.2.1 (1, 0, 0)), .int x1] 21 rfl (oks hC (by decide)) (ce_35 hC _) (ci := 3) rfl (fun r_ hr_ => c_X3_tell hC (by decide)  hr_) gX6_singersIn_X3_tell rfl (by decide) (by decide) (n := 2) rfl (Nat.le_of_ble_eq_true rfl) (by decide) (by decide) rfl dX6_singersIn_18 (fun r_18 => ?_)
  refine sm_aload_n hG 22 rfl dX6_singersIn_21 rfl 0 rfl ?_
  refine gC0_7 hG hC  25 rfl u6 f44 dX6_singersIn_22 ?_
  refine sm_iload_n hG 26 rfl dX6_singersIn_25 rfl 2 rfl ?_
  refine sm_callV hG (fun (q : Int32) => (some (Value.int q), r_18)) (35, 0, 0) [.int x2] 29 rfl (oks hC (by decide)) (ce_35 hC _) (ci := 3) rfl (fun r_ hr_ => c_X3_countIn hC   hr_) gX6_singersIn_X3_countIn rfl (by decide) (by decide) (n := 1) rfl (Nat.le_of_ble_eq_true rfl) (by decide) (by decide) rfl dX6_singersIn_26 (fun r_26 => ?_)
  exact sm_niret hG hT (by decide) dX6_singersIn_29 rfl
theorem c0n_X6_singersIn {Λ : jL kC} (hC : LC Λ) {x1 : Int32} {x2 : Int32} {l : Launch} {v : mC} {r : Int32 × mC} (hr_ : nn (f_X6_singersIn x1 x2 v) = some r) : Ct l yX6_singersIn wsX6_singersIn rnX6_singersIn Λ [.ref (Λ.2.2.2.1 (0, 0, 0)), .int x1, .int x2] v (some (.int r.1)) r.2 := by
  obtain ⟨q, h1, h2, h3⟩ := nn_s hr_
  subst h3
  exact c0_X6_singersIn hC h1 h2
abbrev rnX6_shortfall : Room := { frames := 5, cells := 0, slots := 0, locals := 119 }
set_option maxRecDepth 100000 in
set_option maxHeartbeats 4000000 in
theorem c0_X6_shortfall {Λ : jL kC} (hC : LC Λ) {x1 : Int32} {l : Launch} {v : mC} {r : Int32 × Nat × mC} (hr_ : f_X6_shortfall x1 v = some r) (h0_ : r.2.1 = 0) : Ct l yX6_shortfall wsX6_shortfall rnX6_shortfall Λ [.ref (Λ.2.2.2.1 (0, 0, 0)), .int x1] v (some (.int r.1)) r.2.2 := by
  refine ct0_of (cc := cX6_shortfall) (maxL := 2) (ret := (some .int)) (fun (q : Int32 × Nat × mC) => (some (Value.int q.1), q.2)) (fun _ => rfl) hC.1 hr_ h0_ (by decide) rfl (Nat.le_of_ble_eq_true rfl) (fun Γ hG hT hN hl => ?_)
  subst hl
  have f10 : Cond.fieldLink RX6 10 "ChoirRegister" "book" "LChoirRegister$Book;" ∈ wsX6_shortfall := by decide +kernel
  have f200 : Cond.fieldLink RX6 200 "ChoirRegister$Book" "calendar" "LChoirRegister$Calendar;" ∈ wsX6_shortfall := by decide +kernel
  have f44 : Cond.fieldLink RX6 44 "ChoirRegister" "lineup" "LChoirRegister$Lineup;" ∈ wsX6_shortfall := by decide +kernel
  have u0 : ∀ w ∈ wsX00, w ∈ wsX6_shortfall := by decide +kernel
  have u6 : ∀ w ∈ wsX60, w ∈ wsX6_shortfall := by decide +kernel
  show Sm Γ Λ (0, 0) 0 [(0, .ref (Λ.2.2.2.1 (0, 0, 0))), (1, .int x1)] [] v _
  unfold f_X6_shortfall
  refine sm_aload_n hG 1 rfl dX6_shortfall_0 rfl 0 rfl ?_
  refine sm_iload_n hG 2 rfl dX6_shortfall_1 rfl 1 rfl ?_
  refine sm_ncallV hG hT (finc := (fun (q : Int32 × Nat × mC) => ((none : Option Value), q.2))) (fun _ => rfl) (0, 0, 0) [.int x1] 5 rfl (ok0 hC) (ce_0 hC _) (ci := 6) rfl (fun r_ hr_ h0_ => c0_X6_requireFeast hC hr_ h0_) gX6_shortfall_X6_requireFeast rfl (by decide) (by decide) (n := 1) rfl (Nat.le_of_ble_eq_true rfl) ⟨rfl, rfl⟩ (by decide) rfl dX6_shortfall_2 (fun r_2 w_2 => ?_)
  refine sm_aload_n hG 6 rfl dX6_shortfall_5 rfl 0 rfl ?_
  refine gC0_7 hG hC  9 rfl u6 f44 dX6_shortfall_6 ?_
  refine sm_aload_n hG 10 rfl dX6_shortfall_9 rfl 0 rfl ?_
  refine gC0_0 hG hC  13 rfl u6 f10 dX6_shortfall_10 ?_
  refine sm_iload_n hG 14 rfl dX6_shortfall_13 rfl 1 rfl ?_
  refine sm_callV hG (fun (w : mC) => ((none : Option Value), w)) (35, 0, 0) [.ref (Λ.2.2.2.1 (1, 0, 0)), .int x1] 17 rfl (oks hC (by decide)) (ce_35 hC _) (ci := 3) rfl (fun r_ hr_ => c_X3_tell hC (by decide)  hr_) gX6_shortfall_X3_tell rfl (by decide) (by decide) (n := 2) rfl (Nat.le_of_ble_eq_true rfl) (by decide) (by decide) rfl dX6_shortfall_14 (fun r_14 => ?_)
  refine sm_aload_n hG 18 rfl dX6_shortfall_17 rfl 0 rfl ?_
  refine gC0_0 hG hC  21 rfl u6 f10 dX6_shortfall_18 ?_
  refine gC1_3 hG hC (by decide) 24 rfl u0 f200 dX6_shortfall_21 ?_
  refine sm_iload_n hG 25 rfl dX6_shortfall_24 rfl 1 rfl ?_
  refine sm_callV hG (fun (q : Int32) => (some (Value.int q), r_14)) (18, 0, 0) [.int x1] 28 rfl (okb hC (by decide) (by decide)) (ce_18 hC _) (ci := 1) rfl (fun r_ hr_ => c_X1_allPlaces hC (by decide)  hr_) gX6_shortfall_X1_allPlaces rfl (by decide) (by decide) (n := 1) rfl (Nat.le_of_ble_eq_true rfl) (by decide) (by decide) rfl dX6_shortfall_25 (fun r_25 => ?_)
  refine sm_aload_n hG 29 rfl dX6_shortfall_28 rfl 0 rfl ?_
  refine gC0_7 hG hC  32 rfl u6 f44 dX6_shortfall_29 ?_
  refine sm_callV hG (fun (q : Int32) => (some (Value.int q), r_14)) (35, 0, 0) [] 35 rfl (oks hC (by decide)) (ce_35 hC _) (ci := 3) rfl (fun r_ hr_ => c_X3_countAll hC   hr_) gX6_shortfall_X3_countAll rfl (by decide) (by decide) (n := 0) rfl (Nat.le_of_ble_eq_true rfl) (by decide) (by decide) rfl dX6_shortfall_32 (fun r_32 => ?_)
  refine sm_isub hG 36 rfl dX6_shortfall_35 ?_
  exact sm_niret hG hT (by decide) dX6_shortfall_36 rfl
theorem c0n_X6_shortfall {Λ : jL kC} (hC : LC Λ) {x1 : Int32} {l : Launch} {v : mC} {r : Int32 × mC} (hr_ : nn (f_X6_shortfall x1 v) = some r) : Ct l yX6_shortfall wsX6_shortfall rnX6_shortfall Λ [.ref (Λ.2.2.2.1 (0, 0, 0)), .int x1] v (some (.int r.1)) r.2 := by
  obtain ⟨q, h1, h2, h3⟩ := nn_s hr_
  subst h3
  exact c0_X6_shortfall hC h1 h2
abbrev rnX6_shortfallBySets : Room := { frames := 4, cells := 0, slots := 0, locals := 99 }
set_option maxRecDepth 100000 in
set_option maxHeartbeats 4000000 in
theorem c0_X6_shortfallBySets {Λ : jL kC} (hC : LC Λ) {x1 : Int32} {l : Launch} {v : mC} {r : Int32 × Nat × mC} (hr_ : f_X6_shortfallBySets x1 v = some r) (h0_ : r.2.1 = 0) : Ct l yX6_shortfallBySets wsX6_shortfallBySets rnX6_shortfallBySets Λ [.ref (Λ.2.2.2.1 (0, 0, 0)), .int x1] v (some (.int r.1)) r.2.2 := by
  refine ct0_of (cc := cX6_shortfallBySets) (maxL := 2) (ret := (some .int)) (fun (q : Int32 × Nat × mC) => (some (Value.int q.1), q.2)) (fun _ => rfl) hC.1 hr_ h0_ (by decide) rfl (Nat.le_of_ble_eq_true rfl) (fun Γ hG hT hN hl => ?_)
  subst hl
  have f10 : Cond.fieldLink RX6 10 "ChoirRegister" "book" "LChoirRegister$Book;" ∈ wsX6_shortfallBySets := by decide +kernel
  have f44 : Cond.fieldLink RX6 44 "ChoirRegister" "lineup" "LChoirRegister$Lineup;" ∈ wsX6_shortfallBySets := by decide +kernel
  have u6 : ∀ w ∈ wsX60, w ∈ wsX6_shortfallBySets := by decide +kernel
  show Sm Γ Λ (0, 0) 0 [(0, .ref (Λ.2.2.2.1 (0, 0, 0))), (1, .int x1)] [] v _
  unfold f_X6_shortfallBySets
  refine sm_jn (fun (X21 : Int32 → Option (Int32 × Nat × mC)) => ∀ (s0_21 : Int32), Sm Γ Λ (0, 0) 21 [(0, .ref (Λ.2.2.2.1 (0, 0, 0))), (1, .int x1)] [.int s0_21] v (X21 s0_21)) (fun s0_21 => ?_) (fun j21 hj21 => ?_)
  · refine sm_ncallS hG hT (finc := (fun (q : Int32 × Nat × mC) => ((none : Option Value), q.2))) (fun _ => rfl) [.int s0_21] 24 rfl (fun r_ hr_ h0_ => c0_X6_refuseIf hC hr_ h0_) gX6_shortfallBySets_X6_refuseIf rfl (by decide) (by decide) (n := 1) rfl (Nat.le_of_ble_eq_true rfl) ⟨rfl, rfl⟩ (by decide) rfl dX6_shortfallBySets_21 (fun r_21 w_21 => ?_)
    refine sm_aload_n hG 25 rfl dX6_shortfallBySets_24 rfl 0 rfl ?_
    refine gC0_7 hG hC  28 rfl u6 f44 dX6_shortfallBySets_25 ?_
    refine sm_aload_n hG 29 rfl dX6_shortfallBySets_28 rfl 0 rfl ?_
    refine gC0_0 hG hC  32 rfl u6 f10 dX6_shortfallBySets_29 ?_
    refine sm_iload_n hG 33 rfl dX6_shortfallBySets_32 rfl 1 rfl ?_
    refine sm_iconst (x := (-1 : Int32)) hG 34 rfl dX6_shortfallBySets_33 rfl ?_
    refine sm_callV hG (fun (q : Int32 × mC) => (some (Value.int q.1), q.2)) (35, 0, 0) [.ref (Λ.2.2.2.1 (1, 0, 0)), .int x1, .int (-1 : Int32)] 37 rfl (oks hC (by decide)) (ce_35 hC _) (ci := 3) rfl (fun r_ hr_ => c_X3_lackBySets hC (by decide)  hr_) gX6_shortfallBySets_X3_lackBySets rfl (by decide) (by decide) (n := 3) rfl (Nat.le_of_ble_eq_true rfl) (by decide) (by decide) rfl dX6_shortfallBySets_34 (fun r_34 => ?_)
    exact sm_niret hG hT (by decide) dX6_shortfallBySets_37 rfl
  · refine sm_aload_n hG 1 rfl dX6_shortfallBySets_0 rfl 0 rfl ?_
    refine sm_iload_n hG 2 rfl dX6_shortfallBySets_1 rfl 1 rfl ?_
    refine sm_tbk rq_X6_requireFeast ?_
    refine sm_ncallV hG hT (finc := (fun (q : Int32 × Nat × mC) => ((none : Option Value), q.2))) (fun _ => rfl) (0, 0, 0) [.int x1] 5 rfl (ok0 hC) (ce_0 hC _) (ci := 6) rfl (fun r_ hr_ h0_ => c0_X6_requireFeast hC hr_ h0_) gX6_shortfallBySets_X6_requireFeast rfl (by decide) (by decide) (n := 1) rfl (Nat.le_of_ble_eq_true rfl) ⟨rfl, rfl⟩ (by decide) rfl dX6_shortfallBySets_2 (fun r_2 w_2 => ?_)
    refine sm_wk (fun e_ => ?_)
    subst e_
    refine sm_aload_n hG 6 rfl dX6_shortfallBySets_5 rfl 0 rfl ?_
    refine gC0_0 hG hC  9 rfl u6 f10 dX6_shortfallBySets_6 ?_
    refine sm_iload_n hG 10 rfl dX6_shortfallBySets_9 rfl 1 rfl ?_
    refine sm_callV hG (fun (q : Int32) => (some (Value.int q), w_2)) (1, 0, 0) [.int x1] 13 rfl (okb hC (by decide) (by decide)) (ce_1 hC _) (ci := 0) rfl (fun r_ hr_ => c_X0_hasHeld hC (by decide)  hr_) gX6_shortfallBySets_X0_hasHeld rfl (by decide) (by decide) (n := 1) rfl (Nat.le_of_ble_eq_true rfl) (by decide) (by decide) rfl dX6_shortfallBySets_10 (fun r_10 => ?_)
    refine sm_if_eq hG 20 16 rfl dX6_shortfallBySets_13 (by decide) ?_ ?_
    · refine sm_iconst (x := (0 : Int32)) hG 21 rfl dX6_shortfallBySets_20 rfl ?_
      exact hj21 _
    · refine sm_iconst (x := (3 : Int32)) hG 17 rfl dX6_shortfallBySets_16 rfl ?_
      refine sm_goto hG 21 dX6_shortfallBySets_17 (by decide) ?_
      exact hj21 _
theorem c0n_X6_shortfallBySets {Λ : jL kC} (hC : LC Λ) {x1 : Int32} {l : Launch} {v : mC} {r : Int32 × mC} (hr_ : nn (f_X6_shortfallBySets x1 v) = some r) : Ct l yX6_shortfallBySets wsX6_shortfallBySets rnX6_shortfallBySets Λ [.ref (Λ.2.2.2.1 (0, 0, 0)), .int x1] v (some (.int r.1)) r.2 := by
  obtain ⟨q, h1, h2, h3⟩ := nn_s hr_
  subst h3
  exact c0_X6_shortfallBySets hC h1 h2
abbrev rnX6_neededLine : Room := { frames := 4, cells := 0, slots := 0, locals := 99 }
set_option maxRecDepth 100000 in
set_option maxHeartbeats 4000000 in
theorem c0_X6_neededLine {Λ : jL kC} (hC : LC Λ) {x1 : Int32} {l : Launch} {v : mC} {r : Int32 × Nat × mC} (hr_ : f_X6_neededLine x1 v = some r) (h0_ : r.2.1 = 0) : Ct l yX6_neededLine wsX6_neededLine rnX6_neededLine Λ [.ref (Λ.2.2.2.1 (0, 0, 0)), .int x1] v (some (.int r.1)) r.2.2 := by
  refine ct0_of (cc := cX6_neededLine) (maxL := 4) (ret := (some .int)) (fun (q : Int32 × Nat × mC) => (some (Value.int q.1), q.2)) (fun _ => rfl) hC.1 hr_ h0_ (by decide) rfl (Nat.le_of_ble_eq_true rfl) (fun Γ hG hT hN hl => ?_)
  subst hl
  have f10 : Cond.fieldLink RX6 10 "ChoirRegister" "book" "LChoirRegister$Book;" ∈ wsX6_neededLine := by decide +kernel
  have f200 : Cond.fieldLink RX6 200 "ChoirRegister$Book" "calendar" "LChoirRegister$Calendar;" ∈ wsX6_neededLine := by decide +kernel
  have f219 : Cond.fieldLink RX6 219 "ChoirRegister$Calendar" "places" "[[I" ∈ wsX6_neededLine := by decide +kernel
  have f44 : Cond.fieldLink RX6 44 "ChoirRegister" "lineup" "LChoirRegister$Lineup;" ∈ wsX6_neededLine := by decide +kernel
  have u0 : ∀ w ∈ wsX00, w ∈ wsX6_neededLine := by decide +kernel
  have u1 : ∀ w ∈ wsX10, w ∈ wsX6_neededLine := by decide +kernel
  have u6 : ∀ w ∈ wsX60, w ∈ wsX6_neededLine := by decide +kernel
  show Sm Γ Λ (0, 0) 0 [(0, .ref (Λ.2.2.2.1 (0, 0, 0))), (1, .int x1)] [] v _
  unfold f_X6_neededLine
  refine sm_jn (fun (X21 : Int32 → Option (Int32 × Nat × mC)) => ∀ (s0_21 : Int32), Sm Γ Λ (0, 0) 21 [(0, .ref (Λ.2.2.2.1 (0, 0, 0))), (1, .int x1)] [.int s0_21] v (X21 s0_21)) (fun s0_21 => ?_) (fun j21 hj21 => ?_)
  · refine sm_ncallS hG hT (finc := (fun (q : Int32 × Nat × mC) => ((none : Option Value), q.2))) (fun _ => rfl) [.int s0_21] 24 rfl (fun r_ hr_ h0_ => c0_X6_refuseIf hC hr_ h0_) gX6_neededLine_X6_refuseIf rfl (by decide) (by decide) (n := 1) rfl (Nat.le_of_ble_eq_true rfl) ⟨rfl, rfl⟩ (by decide) rfl dX6_neededLine_21 (fun r_21 w_21 => ?_)
    refine sm_aload_n hG 25 rfl dX6_neededLine_24 rfl 0 rfl ?_
    refine gC0_7 hG hC  28 rfl u6 f44 dX6_neededLine_25 ?_
    refine sm_aload_n hG 29 rfl dX6_neededLine_28 rfl 0 rfl ?_
    refine gC0_0 hG hC  32 rfl u6 f10 dX6_neededLine_29 ?_
    refine sm_iload_n hG 33 rfl dX6_neededLine_32 rfl 1 rfl ?_
    refine sm_iconst (x := (-1 : Int32)) hG 34 rfl dX6_neededLine_33 rfl ?_
    refine sm_callV hG (fun (q : Int32 × mC) => (some (Value.int q.1), q.2)) (35, 0, 0) [.ref (Λ.2.2.2.1 (1, 0, 0)), .int x1, .int (-1 : Int32)] 37 rfl (oks hC (by decide)) (ce_35 hC _) (ci := 3) rfl (fun r_ hr_ => c_X3_lackBySets hC (by decide)  hr_) gX6_neededLine_X3_lackBySets rfl (by decide) (by decide) (n := 3) rfl (Nat.le_of_ble_eq_true rfl) (by decide) (by decide) rfl dX6_neededLine_34 (fun r_34 => ?_)
    refine sm_istore_n hG 38 rfl dX6_neededLine_37 rfl (jlt hN rfl) [(2, .int r_34.1), (0, .ref (Λ.2.2.2.1 (0, 0, 0))), (1, .int x1)] rfl ?_
    refine sm_iconst (x := (0 : Int32)) hG 39 rfl dX6_neededLine_38 rfl ?_
    refine sm_istore_n hG 40 rfl dX6_neededLine_39 rfl (jlt hN rfl) [(3, .int (0 : Int32)), (2, .int r_34.1), (0, .ref (Λ.2.2.2.1 (0, 0, 0))), (1, .int x1)] rfl ?_
    refine sm_loc [2, 3, 1, 0] [(0, .ref (Λ.2.2.2.1 (0, 0, 0))), (1, .int x1), (2, .int r_34.1), (3, .int (0 : Int32))] rfl ?_
    refine lp_ind (fun (X40 : Int32 → mC → Option (Int32 × Nat × mC)) => ∀ (x3_40 : Int32) (v_40 : mC), Sm Γ Λ (0, 0) 40 [(0, .ref (Λ.2.2.2.1 (0, 0, 0))), (1, .int x1), (2, .int r_34.1), (3, .int x3_40)] [] v_40 (X40 x3_40 v_40)) (fun _ _ => sm_none) (fun self40 hs40 x3_40 v_40 => ?_) 8192 _ _
    refine sm_iload_n hG 41 rfl dX6_neededLine_40 rfl 3 rfl ?_
    refine sm_iconst (x := (4 : Int32)) hG 42 rfl dX6_neededLine_41 rfl ?_
    refine sm_icmp_ge hG 87 45 rfl dX6_neededLine_42 (by decide) ?_ ?_
    · refine sm_iconst (x := (-1 : Int32)) hG 88 rfl dX6_neededLine_87 rfl ?_
      exact sm_niret hG hT (by decide) dX6_neededLine_88 rfl
    · refine sm_aload_n hG 46 rfl dX6_neededLine_45 rfl 0 rfl ?_
      refine gC0_0 hG hC  49 rfl u6 f10 dX6_neededLine_46 ?_
      refine gC1_3 hG hC (by decide) 52 rfl u0 f200 dX6_neededLine_49 ?_
      refine gC18_4 hG hC (by decide) 55 rfl u1 f219 dX6_neededLine_52 ?_
      refine sm_iload_n hG 56 rfl dX6_neededLine_55 rfl 1 rfl ?_
      refine lC22 hG hC (by decide) 57 rfl dX6_neededLine_56 (fun hf56_1 => ?_)
      refine sm_iload_n hG 58 rfl dX6_neededLine_57 rfl 3 rfl ?_
      refine lC26 hG hC (by decide) hf56_1 59 rfl dX6_neededLine_58 ?_
      refine sm_if_le hG 81 62 rfl dX6_neededLine_59 (by decide) ?_ ?_
      · refine sm_iinc hG 84 rfl dX6_neededLine_81 (j := 3) rfl rfl (jlt hN rfl) [(3, .int (x3_40 + (1 : Int32))), (0, .ref (Λ.2.2.2.1 (0, 0, 0))), (1, .int x1), (2, .int r_34.1)] rfl ?_
        refine sm_goto hG 40 dX6_neededLine_84 (by decide) ?_
        refine sm_loc [1, 2, 3, 0] [(0, .ref (Λ.2.2.2.1 (0, 0, 0))), (1, .int x1), (2, .int r_34.1), (3, .int (x3_40 + (1 : Int32)))] rfl ?_
        exact hs40 _ _
      · refine sm_aload_n hG 63 rfl dX6_neededLine_62 rfl 0 rfl ?_
        refine gC0_7 hG hC  66 rfl u6 f44 dX6_neededLine_63 ?_
        refine sm_aload_n hG 67 rfl dX6_neededLine_66 rfl 0 rfl ?_
        refine gC0_0 hG hC  70 rfl u6 f10 dX6_neededLine_67 ?_
        refine sm_iload_n hG 71 rfl dX6_neededLine_70 rfl 1 rfl ?_
        refine sm_iload_n hG 72 rfl dX6_neededLine_71 rfl 3 rfl ?_
        refine sm_callV hG (fun (q : Int32 × mC) => (some (Value.int q.1), q.2)) (35, 0, 0) [.ref (Λ.2.2.2.1 (1, 0, 0)), .int x1, .int x3_40] 75 rfl (oks hC (by decide)) (ce_35 hC _) (ci := 3) rfl (fun r_ hr_ => c_X3_lackBySets hC (by decide)  hr_) gX6_neededLine_X3_lackBySets rfl (by decide) (by decide) (n := 3) rfl (Nat.le_of_ble_eq_true rfl) (by decide) (by decide) rfl dX6_neededLine_72 (fun r_72 => ?_)
        refine sm_iload_n hG 76 rfl dX6_neededLine_75 rfl 2 rfl ?_
        refine sm_icmp_ge hG 81 79 rfl dX6_neededLine_76 (by decide) ?_ ?_
        · refine sm_iinc hG 84 rfl dX6_neededLine_81 (j := 3) rfl rfl (jlt hN rfl) [(3, .int (x3_40 + (1 : Int32))), (0, .ref (Λ.2.2.2.1 (0, 0, 0))), (1, .int x1), (2, .int r_34.1)] rfl ?_
          refine sm_goto hG 40 dX6_neededLine_84 (by decide) ?_
          refine sm_loc [1, 2, 3, 0] [(0, .ref (Λ.2.2.2.1 (0, 0, 0))), (1, .int x1), (2, .int r_34.1), (3, .int (x3_40 + (1 : Int32)))] rfl ?_
          exact hs40 _ _
        · refine sm_iload_n hG 80 rfl dX6_neededLine_79 rfl 3 rfl ?_
          exact sm_niret hG hT (by decide) dX6_neededLine_80 rfl
  · refine sm_aload_n hG 1 rfl dX6_neededLine_0 rfl 0 rfl ?_
    refine sm_iload_n hG 2 rfl dX6_neededLine_1 rfl 1 rfl ?_
    refine sm_tbk rq_X6_requireFeast ?_
    refine sm_ncallV hG hT (finc := (fun (q : Int32 × Nat × mC) => ((none : Option Value), q.2))) (fun _ => rfl) (0, 0, 0) [.int x1] 5 rfl (ok0 hC) (ce_0 hC _) (ci := 6) rfl (fun r_ hr_ h0_ => c0_X6_requireFeast hC hr_ h0_) gX6_neededLine_X6_requireFeast rfl (by decide) (by decide) (n := 1) rfl (Nat.le_of_ble_eq_true rfl) ⟨rfl, rfl⟩ (by decide) rfl dX6_neededLine_2 (fun r_2 w_2 => ?_)
    refine sm_wk (fun e_ => ?_)
    subst e_
    refine sm_aload_n hG 6 rfl dX6_neededLine_5 rfl 0 rfl ?_
    refine gC0_0 hG hC  9 rfl u6 f10 dX6_neededLine_6 ?_
    refine sm_iload_n hG 10 rfl dX6_neededLine_9 rfl 1 rfl ?_
    refine sm_callV hG (fun (q : Int32) => (some (Value.int q), w_2)) (1, 0, 0) [.int x1] 13 rfl (okb hC (by decide) (by decide)) (ce_1 hC _) (ci := 0) rfl (fun r_ hr_ => c_X0_hasHeld hC (by decide)  hr_) gX6_neededLine_X0_hasHeld rfl (by decide) (by decide) (n := 1) rfl (Nat.le_of_ble_eq_true rfl) (by decide) (by decide) rfl dX6_neededLine_10 (fun r_10 => ?_)
    refine sm_if_eq hG 20 16 rfl dX6_neededLine_13 (by decide) ?_ ?_
    · refine sm_iconst (x := (0 : Int32)) hG 21 rfl dX6_neededLine_20 rfl ?_
      exact hj21 _
    · refine sm_iconst (x := (3 : Int32)) hG 17 rfl dX6_neededLine_16 rfl ?_
      refine sm_goto hG 21 dX6_neededLine_17 (by decide) ?_
      exact hj21 _
theorem c0n_X6_neededLine {Λ : jL kC} (hC : LC Λ) {x1 : Int32} {l : Launch} {v : mC} {r : Int32 × mC} (hr_ : nn (f_X6_neededLine x1 v) = some r) : Ct l yX6_neededLine wsX6_neededLine rnX6_neededLine Λ [.ref (Λ.2.2.2.1 (0, 0, 0)), .int x1] v (some (.int r.1)) r.2 := by
  obtain ⟨q, h1, h2, h3⟩ := nn_s hr_
  subst h3
  exact c0_X6_neededLine hC h1 h2
abbrev rnX6_descantIn : Room := { frames := 5, cells := 0, slots := 0, locals := 122 }
set_option maxRecDepth 100000 in
set_option maxHeartbeats 4000000 in
theorem c0_X6_descantIn {Λ : jL kC} (hC : LC Λ) {x1 : Int32} {l : Launch} {v : mC} {r : Int32 × Nat × mC} (hr_ : f_X6_descantIn x1 v = some r) (h0_ : r.2.1 = 0) : Ct l yX6_descantIn wsX6_descantIn rnX6_descantIn Λ [.ref (Λ.2.2.2.1 (0, 0, 0)), .int x1] v (some (.int r.1)) r.2.2 := by
  refine ct0_of (cc := cX6_descantIn) (maxL := 2) (ret := (some .int)) (fun (q : Int32 × Nat × mC) => (some (Value.int q.1), q.2)) (fun _ => rfl) hC.1 hr_ h0_ (by decide) rfl (Nat.le_of_ble_eq_true rfl) (fun Γ hG hT hN hl => ?_)
  subst hl
  have f10 : Cond.fieldLink RX6 10 "ChoirRegister" "book" "LChoirRegister$Book;" ∈ wsX6_descantIn := by decide +kernel
  have f200 : Cond.fieldLink RX6 200 "ChoirRegister$Book" "calendar" "LChoirRegister$Calendar;" ∈ wsX6_descantIn := by decide +kernel
  have f249 : Cond.fieldLink RX6 249 "ChoirRegister$Calendar" "descant" "[I" ∈ wsX6_descantIn := by decide +kernel
  have f44 : Cond.fieldLink RX6 44 "ChoirRegister" "lineup" "LChoirRegister$Lineup;" ∈ wsX6_descantIn := by decide +kernel
  have u0 : ∀ w ∈ wsX00, w ∈ wsX6_descantIn := by decide +kernel
  have u1 : ∀ w ∈ wsX10, w ∈ wsX6_descantIn := by decide +kernel
  have u6 : ∀ w ∈ wsX60, w ∈ wsX6_descantIn := by decide +kernel
  show Sm Γ Λ (0, 0) 0 [(0, .ref (Λ.2.2.2.1 (0, 0, 0))), (1, .int x1)] [] v _
  unfold f_X6_descantIn
  refine sm_aload_n hG 1 rfl dX6_descantIn_0 rfl 0 rfl ?_
  refine sm_iload_n hG 2 rfl dX6_descantIn_1 rfl 1 rfl ?_
  refine sm_ncallV hG hT (finc := (fun (q : Int32 × Nat × mC) => ((none : Option Value), q.2))) (fun _ => rfl) (0, 0, 0) [.int x1] 5 rfl (ok0 hC) (ce_0 hC _) (ci := 6) rfl (fun r_ hr_ h0_ => c0_X6_requireFeast hC hr_ h0_) gX6_descantIn_X6_requireFeast rfl (by decide) (by decide) (n := 1) rfl (Nat.le_of_ble_eq_true rfl) ⟨rfl, rfl⟩ (by decide) rfl dX6_descantIn_2 (fun r_2 w_2 => ?_)
  refine sm_aload_n hG 6 rfl dX6_descantIn_5 rfl 0 rfl ?_
  refine gC0_0 hG hC  9 rfl u6 f10 dX6_descantIn_6 ?_
  refine sm_iload_n hG 10 rfl dX6_descantIn_9 rfl 1 rfl ?_
  refine sm_callV hG (fun (q : Int32) => (some (Value.int q), w_2)) (1, 0, 0) [.int x1] 13 rfl (okb hC (by decide) (by decide)) (ce_1 hC _) (ci := 0) rfl (fun r_ hr_ => c_X0_hasHeld hC (by decide)  hr_) gX6_descantIn_X0_hasHeld rfl (by decide) (by decide) (n := 1) rfl (Nat.le_of_ble_eq_true rfl) (by decide) (by decide) rfl dX6_descantIn_10 (fun r_10 => ?_)
  refine sm_if_eq hG 31 16 rfl dX6_descantIn_13 (by decide) ?_ ?_
  · refine sm_aload_n hG 32 rfl dX6_descantIn_31 rfl 0 rfl ?_
    refine gC0_7 hG hC  35 rfl u6 f44 dX6_descantIn_32 ?_
    refine sm_aload_n hG 36 rfl dX6_descantIn_35 rfl 0 rfl ?_
    refine gC0_0 hG hC  39 rfl u6 f10 dX6_descantIn_36 ?_
    refine sm_iload_n hG 40 rfl dX6_descantIn_39 rfl 1 rfl ?_
    refine sm_callV hG (fun (q : Int32 × mC) => (some (Value.int q.1), q.2)) (35, 0, 0) [.ref (Λ.2.2.2.1 (1, 0, 0)), .int x1] 43 rfl (oks hC (by decide)) (ce_35 hC _) (ci := 3) rfl (fun r_ hr_ => c_X3_descantToCome hC (by decide)  hr_) gX6_descantIn_X3_descantToCome rfl (by decide) (by decide) (n := 2) rfl (Nat.le_of_ble_eq_true rfl) (by decide) (by decide) rfl dX6_descantIn_40 (fun r_40 => ?_)
    exact sm_niret hG hT (by decide) dX6_descantIn_43 rfl
  · refine sm_aload_n hG 17 rfl dX6_descantIn_16 rfl 0 rfl ?_
    refine gC0_0 hG hC  20 rfl u6 f10 dX6_descantIn_17 ?_
    refine gC1_3 hG hC (by decide) 23 rfl u0 f200 dX6_descantIn_20 ?_
    refine gC18_3 hG hC (by decide) 26 rfl u1 f249 dX6_descantIn_23 ?_
    refine sm_iload_n hG 27 rfl dX6_descantIn_26 rfl 1 rfl ?_
    refine lC21 hG hC (by decide) 28 rfl dX6_descantIn_27 ?_
    refine sm_goto hG 43 dX6_descantIn_28 (by decide) ?_
    exact sm_niret hG hT (by decide) dX6_descantIn_43 rfl
theorem c0n_X6_descantIn {Λ : jL kC} (hC : LC Λ) {x1 : Int32} {l : Launch} {v : mC} {r : Int32 × mC} (hr_ : nn (f_X6_descantIn x1 v) = some r) : Ct l yX6_descantIn wsX6_descantIn rnX6_descantIn Λ [.ref (Λ.2.2.2.1 (0, 0, 0)), .int x1] v (some (.int r.1)) r.2 := by
  obtain ⟨q, h1, h2, h3⟩ := nn_s hr_
  subst h3
  exact c0_X6_descantIn hC h1 h2
abbrev rnX6_pewOf : Room := { frames := 5, cells := 0, slots := 0, locals := 119 }
set_option maxRecDepth 100000 in
set_option maxHeartbeats 4000000 in
theorem c0_X6_pewOf {Λ : jL kC} (hC : LC Λ) {x1 : Int32} {x2 : Int32} {l : Launch} {v : mC} {r : Int32 × Nat × mC} (hr_ : f_X6_pewOf x1 x2 v = some r) (h0_ : r.2.1 = 0) : Ct l yX6_pewOf wsX6_pewOf rnX6_pewOf Λ [.ref (Λ.2.2.2.1 (0, 0, 0)), .int x1, .int x2] v (some (.int r.1)) r.2.2 := by
  refine ct0_of (cc := cX6_pewOf) (maxL := 4) (ret := (some .int)) (fun (q : Int32 × Nat × mC) => (some (Value.int q.1), q.2)) (fun _ => rfl) hC.1 hr_ h0_ (by decide) rfl (Nat.le_of_ble_eq_true rfl) (fun Γ hG hT hN hl => ?_)
  subst hl
  have f10 : Cond.fieldLink RX6 10 "ChoirRegister" "book" "LChoirRegister$Book;" ∈ wsX6_pewOf := by decide +kernel
  have f137 : Cond.fieldLink RX6 137 "ChoirRegister$Book" "roster" "LChoirRegister$Roster;" ∈ wsX6_pewOf := by decide +kernel
  have f44 : Cond.fieldLink RX6 44 "ChoirRegister" "lineup" "LChoirRegister$Lineup;" ∈ wsX6_pewOf := by decide +kernel
  have u0 : ∀ w ∈ wsX00, w ∈ wsX6_pewOf := by decide +kernel
  have u6 : ∀ w ∈ wsX60, w ∈ wsX6_pewOf := by decide +kernel
  show Sm Γ Λ (0, 0) 0 [(0, .ref (Λ.2.2.2.1 (0, 0, 0))), (1, .int x1), (2, .int x2)] [] v _
  unfold f_X6_pewOf
  refine sm_aload_n hG 1 rfl dX6_pewOf_0 rfl 0 rfl ?_
  refine sm_iload_n hG 2 rfl dX6_pewOf_1 rfl 1 rfl ?_
  refine sm_ncallV hG hT (finc := (fun (q : Int32 × Nat × mC) => ((none : Option Value), q.2))) (fun _ => rfl) (0, 0, 0) [.int x1] 5 rfl (ok0 hC) (ce_0 hC _) (ci := 6) rfl (fun r_ hr_ h0_ => c0_X6_requireFeast hC hr_ h0_) gX6_pewOf_X6_requireFeast rfl (by decide) (by decide) (n := 1) rfl (Nat.le_of_ble_eq_true rfl) ⟨rfl, rfl⟩ (by decide) rfl dX6_pewOf_2 (fun r_2 w_2 => ?_)
  refine sm_aload_n hG 6 rfl dX6_pewOf_5 rfl 0 rfl ?_
  refine sm_iload_n hG 7 rfl dX6_pewOf_6 rfl 2 rfl ?_
  refine sm_ncallV hG hT (finc := (fun (q : Int32 × Nat × mC) => ((none : Option Value), q.2))) (fun _ => rfl) (0, 0, 0) [.int x2] 10 rfl (ok0 hC) (ce_0 hC _) (ci := 6) rfl (fun r_ hr_ h0_ => c0_X6_requireSinger hC hr_ h0_) gX6_pewOf_X6_requireSinger rfl (by decide) (by decide) (n := 1) rfl (Nat.le_of_ble_eq_true rfl) ⟨rfl, rfl⟩ (by decide) rfl dX6_pewOf_7 (fun r_7 w_7 => ?_)
  refine sm_aload_n hG 11 rfl dX6_pewOf_10 rfl 0 rfl ?_
  refine gC0_7 hG hC  14 rfl u6 f44 dX6_pewOf_11 ?_
  refine sm_aload_n hG 15 rfl dX6_pewOf_14 rfl 0 rfl ?_
  refine gC0_0 hG hC  18 rfl u6 f10 dX6_pewOf_15 ?_
  refine sm_iload_n hG 19 rfl dX6_pewOf_18 rfl 1 rfl ?_
  refine sm_callV hG (fun (w : mC) => ((none : Option Value), w)) (35, 0, 0) [.ref (Λ.2.2.2.1 (1, 0, 0)), .int x1] 22 rfl (oks hC (by decide)) (ce_35 hC _) (ci := 3) rfl (fun r_ hr_ => c_X3_tell hC (by decide)  hr_) gX6_pewOf_X3_tell rfl (by decide) (by decide) (n := 2) rfl (Nat.le_of_ble_eq_true rfl) (by decide) (by decide) rfl dX6_pewOf_19 (fun r_19 => ?_)
  refine sm_aload_n hG 23 rfl dX6_pewOf_22 rfl 0 rfl ?_
  refine gC0_7 hG hC  26 rfl u6 f44 dX6_pewOf_23 ?_
  refine sm_aload_n hG 27 rfl dX6_pewOf_26 rfl 0 rfl ?_
  refine gC0_0 hG hC  30 rfl u6 f10 dX6_pewOf_27 ?_
  refine gC1_1 hG hC (by decide) 33 rfl u0 f137 dX6_pewOf_30 ?_
  refine sm_iload_n hG 34 rfl dX6_pewOf_33 rfl 2 rfl ?_
  refine sm_callV hG (fun (q : Int32) => (some (Value.int q), r_19)) (35, 0, 0) [.ref (Λ.2.2.2.1 (2, 0, 0)), .int x2] 37 rfl (oks hC (by decide)) (ce_35 hC _) (ci := 3) rfl (fun r_ hr_ => c_X3_rankByHeight hC (by decide)  hr_) gX6_pewOf_X3_rankByHeight rfl (by decide) (by decide) (n := 2) rfl (Nat.le_of_ble_eq_true rfl) (by decide) (by decide) rfl dX6_pewOf_34 (fun r_34 => ?_)
  refine sm_istore_n hG 38 rfl dX6_pewOf_37 rfl (jlt hN rfl) [(3, .int r_34), (0, .ref (Λ.2.2.2.1 (0, 0, 0))), (1, .int x1), (2, .int x2)] rfl ?_
  refine sm_iload_n hG 39 rfl dX6_pewOf_38 rfl 0 rfl ?_
  refine sm_iconst (x := (-1 : Int32)) hG 40 rfl dX6_pewOf_39 rfl ?_
  refine sm_icmp_ne hG 47 43 rfl dX6_pewOf_40 (by decide) ?_ ?_
  · refine sm_iload_n hG 48 rfl dX6_pewOf_47 rfl 0 rfl ?_
    refine sm_iconst (x := (2 : Int32)) hG 49 rfl dX6_pewOf_48 rfl ?_
    refine sm_idiv hG 50 rfl dX6_pewOf_49 (by decide) ?_
    exact sm_niret hG hT (by decide) dX6_pewOf_50 rfl
  · refine sm_iconst (x := (-1 : Int32)) hG 44 rfl dX6_pewOf_43 rfl ?_
    refine sm_goto hG 50 dX6_pewOf_44 (by decide) ?_
    exact sm_niret hG hT (by decide) dX6_pewOf_50 rfl
theorem c0n_X6_pewOf {Λ : jL kC} (hC : LC Λ) {x1 : Int32} {x2 : Int32} {l : Launch} {v : mC} {r : Int32 × mC} (hr_ : nn (f_X6_pewOf x1 x2 v) = some r) : Ct l yX6_pewOf wsX6_pewOf rnX6_pewOf Λ [.ref (Λ.2.2.2.1 (0, 0, 0)), .int x1, .int x2] v (some (.int r.1)) r.2 := by
  obtain ⟨q, h1, h2, h3⟩ := nn_s hr_
  subst h3
  exact c0_X6_pewOf hC h1 h2
abbrev rnX6_seatOf : Room := { frames := 5, cells := 0, slots := 0, locals := 119 }
set_option maxRecDepth 100000 in
set_option maxHeartbeats 4000000 in
theorem c0_X6_seatOf {Λ : jL kC} (hC : LC Λ) {x1 : Int32} {x2 : Int32} {l : Launch} {v : mC} {r : Int32 × Nat × mC} (hr_ : f_X6_seatOf x1 x2 v = some r) (h0_ : r.2.1 = 0) : Ct l yX6_seatOf wsX6_seatOf rnX6_seatOf Λ [.ref (Λ.2.2.2.1 (0, 0, 0)), .int x1, .int x2] v (some (.int r.1)) r.2.2 := by
  refine ct0_of (cc := cX6_seatOf) (maxL := 4) (ret := (some .int)) (fun (q : Int32 × Nat × mC) => (some (Value.int q.1), q.2)) (fun _ => rfl) hC.1 hr_ h0_ (by decide) rfl (Nat.le_of_ble_eq_true rfl) (fun Γ hG hT hN hl => ?_)
  subst hl
  have f10 : Cond.fieldLink RX6 10 "ChoirRegister" "book" "LChoirRegister$Book;" ∈ wsX6_seatOf := by decide +kernel
  have f137 : Cond.fieldLink RX6 137 "ChoirRegister$Book" "roster" "LChoirRegister$Roster;" ∈ wsX6_seatOf := by decide +kernel
  have f44 : Cond.fieldLink RX6 44 "ChoirRegister" "lineup" "LChoirRegister$Lineup;" ∈ wsX6_seatOf := by decide +kernel
  have u0 : ∀ w ∈ wsX00, w ∈ wsX6_seatOf := by decide +kernel
  have u6 : ∀ w ∈ wsX60, w ∈ wsX6_seatOf := by decide +kernel
  show Sm Γ Λ (0, 0) 0 [(0, .ref (Λ.2.2.2.1 (0, 0, 0))), (1, .int x1), (2, .int x2)] [] v _
  unfold f_X6_seatOf
  refine sm_aload_n hG 1 rfl dX6_seatOf_0 rfl 0 rfl ?_
  refine sm_iload_n hG 2 rfl dX6_seatOf_1 rfl 1 rfl ?_
  refine sm_ncallV hG hT (finc := (fun (q : Int32 × Nat × mC) => ((none : Option Value), q.2))) (fun _ => rfl) (0, 0, 0) [.int x1] 5 rfl (ok0 hC) (ce_0 hC _) (ci := 6) rfl (fun r_ hr_ h0_ => c0_X6_requireFeast hC hr_ h0_) gX6_seatOf_X6_requireFeast rfl (by decide) (by decide) (n := 1) rfl (Nat.le_of_ble_eq_true rfl) ⟨rfl, rfl⟩ (by decide) rfl dX6_seatOf_2 (fun r_2 w_2 => ?_)
  refine sm_aload_n hG 6 rfl dX6_seatOf_5 rfl 0 rfl ?_
  refine sm_iload_n hG 7 rfl dX6_seatOf_6 rfl 2 rfl ?_
  refine sm_ncallV hG hT (finc := (fun (q : Int32 × Nat × mC) => ((none : Option Value), q.2))) (fun _ => rfl) (0, 0, 0) [.int x2] 10 rfl (ok0 hC) (ce_0 hC _) (ci := 6) rfl (fun r_ hr_ h0_ => c0_X6_requireSinger hC hr_ h0_) gX6_seatOf_X6_requireSinger rfl (by decide) (by decide) (n := 1) rfl (Nat.le_of_ble_eq_true rfl) ⟨rfl, rfl⟩ (by decide) rfl dX6_seatOf_7 (fun r_7 w_7 => ?_)
  refine sm_aload_n hG 11 rfl dX6_seatOf_10 rfl 0 rfl ?_
  refine gC0_7 hG hC  14 rfl u6 f44 dX6_seatOf_11 ?_
  refine sm_aload_n hG 15 rfl dX6_seatOf_14 rfl 0 rfl ?_
  refine gC0_0 hG hC  18 rfl u6 f10 dX6_seatOf_15 ?_
  refine sm_iload_n hG 19 rfl dX6_seatOf_18 rfl 1 rfl ?_
  refine sm_callV hG (fun (w : mC) => ((none : Option Value), w)) (35, 0, 0) [.ref (Λ.2.2.2.1 (1, 0, 0)), .int x1] 22 rfl (oks hC (by decide)) (ce_35 hC _) (ci := 3) rfl (fun r_ hr_ => c_X3_tell hC (by decide)  hr_) gX6_seatOf_X3_tell rfl (by decide) (by decide) (n := 2) rfl (Nat.le_of_ble_eq_true rfl) (by decide) (by decide) rfl dX6_seatOf_19 (fun r_19 => ?_)
  refine sm_aload_n hG 23 rfl dX6_seatOf_22 rfl 0 rfl ?_
  refine gC0_7 hG hC  26 rfl u6 f44 dX6_seatOf_23 ?_
  refine sm_aload_n hG 27 rfl dX6_seatOf_26 rfl 0 rfl ?_
  refine gC0_0 hG hC  30 rfl u6 f10 dX6_seatOf_27 ?_
  refine gC1_1 hG hC (by decide) 33 rfl u0 f137 dX6_seatOf_30 ?_
  refine sm_iload_n hG 34 rfl dX6_seatOf_33 rfl 2 rfl ?_
  refine sm_callV hG (fun (q : Int32) => (some (Value.int q), r_19)) (35, 0, 0) [.ref (Λ.2.2.2.1 (2, 0, 0)), .int x2] 37 rfl (oks hC (by decide)) (ce_35 hC _) (ci := 3) rfl (fun r_ hr_ => c_X3_rankByHeight hC (by decide)  hr_) gX6_seatOf_X3_rankByHeight rfl (by decide) (by decide) (n := 2) rfl (Nat.le_of_ble_eq_true rfl) (by decide) (by decide) rfl dX6_seatOf_34 (fun r_34 => ?_)
  refine sm_istore_n hG 38 rfl dX6_seatOf_37 rfl (jlt hN rfl) [(3, .int r_34), (0, .ref (Λ.2.2.2.1 (0, 0, 0))), (1, .int x1), (2, .int x2)] rfl ?_
  refine sm_iload_n hG 39 rfl dX6_seatOf_38 rfl 0 rfl ?_
  refine sm_iconst (x := (-1 : Int32)) hG 40 rfl dX6_seatOf_39 rfl ?_
  refine sm_icmp_ne hG 47 43 rfl dX6_seatOf_40 (by decide) ?_ ?_
  · refine sm_iload_n hG 48 rfl dX6_seatOf_47 rfl 0 rfl ?_
    refine sm_iconst (x := (2 : Int32)) hG 49 rfl dX6_seatOf_48 rfl ?_
    refine sm_irem hG 50 rfl dX6_seatOf_49 (by decide) ?_
    exact sm_niret hG hT (by decide) dX6_seatOf_50 rfl
  · refine sm_iconst (x := (-1 : Int32)) hG 44 rfl dX6_seatOf_43 rfl ?_
    refine sm_goto hG 50 dX6_seatOf_44 (by decide) ?_
    exact sm_niret hG hT (by decide) dX6_seatOf_50 rfl
theorem c0n_X6_seatOf {Λ : jL kC} (hC : LC Λ) {x1 : Int32} {x2 : Int32} {l : Launch} {v : mC} {r : Int32 × mC} (hr_ : nn (f_X6_seatOf x1 x2 v) = some r) : Ct l yX6_seatOf wsX6_seatOf rnX6_seatOf Λ [.ref (Λ.2.2.2.1 (0, 0, 0)), .int x1, .int x2] v (some (.int r.1)) r.2 := by
  obtain ⟨q, h1, h2, h3⟩ := nn_s hr_
  subst h3
  exact c0_X6_seatOf hC h1 h2
abbrev rnX6_favoursOf : Room := { frames := 1, cells := 0, slots := 0, locals := 22 }
set_option maxRecDepth 100000 in
set_option maxHeartbeats 4000000 in
theorem c0_X6_favoursOf {Λ : jL kC} (hC : LC Λ) {x1 : Int32} {l : Launch} {v : mC} {r : Int32 × Nat × mC} (hr_ : f_X6_favoursOf x1 v = some r) (h0_ : r.2.1 = 0) : Ct l yX6_favoursOf wsX6_favoursOf rnX6_favoursOf Λ [.ref (Λ.2.2.2.1 (0, 0, 0)), .int x1] v (some (.int r.1)) r.2.2 := by
  refine ct0_of (cc := cX6_favoursOf) (maxL := 2) (ret := (some .int)) (fun (q : Int32 × Nat × mC) => (some (Value.int q.1), q.2)) (fun _ => rfl) hC.1 hr_ h0_ (by decide) rfl (Nat.le_of_ble_eq_true rfl) (fun Γ hG hT hN hl => ?_)
  subst hl
  have f10 : Cond.fieldLink RX6 10 "ChoirRegister" "book" "LChoirRegister$Book;" ∈ wsX6_favoursOf := by decide +kernel
  have f263 : Cond.fieldLink RX6 263 "ChoirRegister$Book" "favours" "[I" ∈ wsX6_favoursOf := by decide +kernel
  have u0 : ∀ w ∈ wsX00, w ∈ wsX6_favoursOf := by decide +kernel
  have u6 : ∀ w ∈ wsX60, w ∈ wsX6_favoursOf := by decide +kernel
  show Sm Γ Λ (0, 0) 0 [(0, .ref (Λ.2.2.2.1 (0, 0, 0))), (1, .int x1)] [] v _
  unfold f_X6_favoursOf
  refine sm_jn (fun (X14 : Int32 → Option (Int32 × Nat × mC)) => ∀ (s0_14 : Int32), Sm Γ Λ (0, 0) 14 [(0, .ref (Λ.2.2.2.1 (0, 0, 0))), (1, .int x1)] [.int s0_14] v (X14 s0_14)) (fun s0_14 => ?_) (fun j14 hj14 => ?_)
  · refine sm_ncallS hG hT (finc := (fun (q : Int32 × Nat × mC) => ((none : Option Value), q.2))) (fun _ => rfl) [.int s0_14] 17 rfl (fun r_ hr_ h0_ => c0_X6_refuseIf hC hr_ h0_) gX6_favoursOf_X6_refuseIf rfl (by decide) (by decide) (n := 1) rfl (Nat.le_of_ble_eq_true rfl) ⟨rfl, rfl⟩ (by decide) rfl dX6_favoursOf_14 (fun r_14 w_14 => ?_)
    refine sm_aload_n hG 18 rfl dX6_favoursOf_17 rfl 0 rfl ?_
    refine gC0_0 hG hC  21 rfl u6 f10 dX6_favoursOf_18 ?_
    refine gC1_4 hG hC (by decide) 24 rfl u0 f263 dX6_favoursOf_21 ?_
    refine sm_iload_n hG 25 rfl dX6_favoursOf_24 rfl 1 rfl ?_
    refine lC30 hG hC (by decide) 26 rfl dX6_favoursOf_25 ?_
    exact sm_niret hG hT (by decide) dX6_favoursOf_26 rfl
  · refine sm_iload_n hG 1 rfl dX6_favoursOf_0 rfl 1 rfl ?_
    refine sm_iconst (x := (0 : Int32)) hG 2 rfl dX6_favoursOf_1 rfl ?_
    refine sm_iconst (x := (4 : Int32)) hG 3 rfl dX6_favoursOf_2 rfl ?_
    refine sm_callS hG (fun (q : Int32) => (some (Value.int q), v)) [.int x1, .int (0 : Int32), .int (4 : Int32)] 6 rfl (fun r_ hr_ => c_X6_isWithin hC   hr_) gX6_favoursOf_X6_isWithin rfl (by decide) (by decide) (n := 3) rfl (Nat.le_of_ble_eq_true rfl) (by decide) (by decide) rfl dX6_favoursOf_3 (fun r_3 => ?_)
    refine sm_if_eq hG 13 9 rfl dX6_favoursOf_6 (by decide) ?_ ?_
    · refine sm_iconst (x := (1 : Int32)) hG 14 rfl dX6_favoursOf_13 rfl ?_
      exact hj14 _
    · refine sm_iconst (x := (0 : Int32)) hG 10 rfl dX6_favoursOf_9 rfl ?_
      refine sm_goto hG 14 dX6_favoursOf_10 (by decide) ?_
      exact hj14 _
theorem c0n_X6_favoursOf {Λ : jL kC} (hC : LC Λ) {x1 : Int32} {l : Launch} {v : mC} {r : Int32 × mC} (hr_ : nn (f_X6_favoursOf x1 v) = some r) : Ct l yX6_favoursOf wsX6_favoursOf rnX6_favoursOf Λ [.ref (Λ.2.2.2.1 (0, 0, 0)), .int x1] v (some (.int r.1)) r.2 := by
  obtain ⟨q, h1, h2, h3⟩ := nn_s hr_
  subst h3
  exact c0_X6_favoursOf hC h1 h2
