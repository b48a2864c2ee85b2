/-! printed by wip/whole/jgen.py out of the bytecode: the walks -/
abbrev rmX0_refusalToAddFeast : Room := { frames := 1, cells := 0, slots := 0, locals := 22 }
set_option maxRecDepth 100000 in
set_option maxHeartbeats 4000000 in
theorem c_X0_refusalToAddFeast {Λ : jL kC} (hC : LC Λ) {o : Nat} {x1 : Int32} {x2 : Int32} (ho : o < 7) {l : Launch} {v : mC} {r : Int32} (hr_ : f_X0_refusalToAddFeast o x1 x2 v = some r) : Ct l yX0_refusalToAddFeast wsX0_refusalToAddFeast rmX0_refusalToAddFeast Λ [.ref (Λ.2.2.2.1 (1, o, 0)), .int x1, .int x2] v (some (.int r)) v := by
  refine ct_of (cc := cX0_refusalToAddFeast) (maxL := 3) (ret := (some .int)) (fun (q : Int32) => (some (Value.int q), v)) hC.1 hr_ (by decide) rfl (Nat.le_of_ble_eq_true rfl) (fun Γ hG hT hN hl => ?_)
  subst hl
  have f32 : Cond.fieldLink RX0 32 "ChoirRegister$Book" "calendar" "LChoirRegister$Calendar;" ∈ wsX0_refusalToAddFeast := by decide +kernel
  have f9 : Cond.fieldLink RX0 9 "ChoirRegister$Book" "day" "I" ∈ wsX0_refusalToAddFeast := by decide +kernel
  have fi_X6_isWithin : Cond.initialized yX6_isWithin.cls ∈ wsX0_refusalToAddFeast := by decide +kernel
  have fs_X6_isWithin : Cond.static yX6_isWithin ∈ wsX0_refusalToAddFeast := by decide +kernel
  have u0 : ∀ w ∈ wsX00, w ∈ wsX0_refusalToAddFeast := by decide +kernel
  show Sm Γ Λ (0, 0) 0 [(0, .ref (Λ.2.2.2.1 (1, o, 0))), (1, .int x1), (2, .int x2)] [] v _
  unfold f_X0_refusalToAddFeast
  refine sm_iload_n hG 1 rfl dX0_refusalToAddFeast_0 rfl 1 rfl ?_
  refine sm_aload_n hG 2 rfl dX0_refusalToAddFeast_1 rfl 0 rfl ?_
  refine gC1_0 hG hC ho 5 rfl u0 f9 dX0_refusalToAddFeast_2 ?_
  refine sm_iconst (x := (1 : Int32)) hG 6 rfl dX0_refusalToAddFeast_5 rfl ?_
  refine sm_iadd hG 7 rfl dX0_refusalToAddFeast_6 ?_
  refine sm_sipush (x := (9999 : Int32)) hG 10 rfl dX0_refusalToAddFeast_7 rfl ?_
  refine sm_callN hG (host := "ChoirRegister") (fun (q : Int32) => (some (Value.int q), v)) [.int x1, .int ((v (1, o, 0) 0) + (1 : Int32)), .int (9999 : Int32)] 13 rfl (fun hX => (hC.2.2.2 _ _ hX).1 _ (by decide +kernel)) (fun r_ hr_ => c_X6_isWithin hC   hr_) gX0_refusalToAddFeast_X6_isWithin_n71 fs_X6_isWithin fi_X6_isWithin rfl (by decide) (by decide) (n := 3) rfl (Nat.le_of_ble_eq_true rfl) (by decide) ⟨Nat.zero_le _, Nat.zero_le _⟩ rfl dX0_refusalToAddFeast_10 (fun r_10 => ?_)
  refine sm_if_eq hG 25 16 rfl dX0_refusalToAddFeast_13 (by decide) ?_ ?_
  · refine sm_iconst (x := (2 : Int32)) hG 26 rfl dX0_refusalToAddFeast_25 rfl ?_
    exact sm_iret hG hT ⟨Nat.zero_le _, Nat.zero_le _⟩ dX0_refusalToAddFeast_26 rfl
  · refine sm_iload_n hG 17 rfl dX0_refusalToAddFeast_16 rfl 2 rfl ?_
    refine sm_iconst (x := (1 : Int32)) hG 18 rfl dX0_refusalToAddFeast_17 rfl ?_
    refine sm_iconst (x := (3 : Int32)) hG 19 rfl dX0_refusalToAddFeast_18 rfl ?_
    refine sm_callN hG (host := "ChoirRegister") (fun (q : Int32) => (some (Value.int q), v)) [.int x2, .int (1 : Int32), .int (3 : Int32)] 22 rfl (fun hX => (hC.2.2.2 _ _ hX).1 _ (by decide +kernel)) (fun r_ hr_ => c_X6_isWithin hC   hr_) gX0_refusalToAddFeast_X6_isWithin_n71 fs_X6_isWithin fi_X6_isWithin rfl (by decide) (by decide) (n := 3) rfl (Nat.le_of_ble_eq_true rfl) (by decide) ⟨Nat.zero_le _, Nat.zero_le _⟩ rfl dX0_refusalToAddFeast_19 (fun r_19 => ?_)
    refine sm_if_ne hG 27 25 rfl dX0_refusalToAddFeast_22 (by decide) ?_ ?_
    · refine sm_aload_n hG 28 rfl dX0_refusalToAddFeast_27 rfl 0 rfl ?_
      refine gC1_3 hG hC ho 31 rfl u0 f32 dX0_refusalToAddFeast_28 ?_
      refine sm_callV hG (fun (q : Int32) => (some (Value.int q), v)) (18, o, 0) [] 34 rfl (okb hC (by decide) ho) (ce_18 hC _) (ci := 1) rfl (fun r_ hr_ => c_X1_isFull hC ho  hr_) gX0_refusalToAddFeast_X1_isFull rfl (by decide) (by decide) (n := 0) rfl (Nat.le_of_ble_eq_true rfl) (by decide) ⟨Nat.zero_le _, Nat.zero_le _⟩ rfl dX0_refusalToAddFeast_31 (fun r_31 => ?_)
      refine sm_if_ne hG 48 37 rfl dX0_refusalToAddFeast_34 (by decide) ?_ ?_
      · refine sm_iconst (x := (3 : Int32)) hG 49 rfl dX0_refusalToAddFeast_48 rfl ?_
        refine sm_goto hG 53 dX0_refusalToAddFeast_49 (by decide) ?_
        exact sm_iret hG hT ⟨Nat.zero_le _, Nat.zero_le _⟩ dX0_refusalToAddFeast_53 rfl
      · refine sm_aload_n hG 38 rfl dX0_refusalToAddFeast_37 rfl 0 rfl ?_
        refine gC1_3 hG hC ho 41 rfl u0 f32 dX0_refusalToAddFeast_38 ?_
        refine sm_iload_n hG 42 rfl dX0_refusalToAddFeast_41 rfl 1 rfl ?_
        refine sm_callV hG (fun (q : Int32) => (some (Value.int q), v)) (18, o, 0) [.int x1] 45 rfl (okb hC (by decide) ho) (ce_18 hC _) (ci := 1) rfl (fun r_ hr_ => c_X1_hasFeastOn hC ho  hr_) gX0_refusalToAddFeast_X1_hasFeastOn rfl (by decide) (by decide) (n := 1) rfl (Nat.le_of_ble_eq_true rfl) (by decide) ⟨Nat.zero_le _, Nat.zero_le _⟩ rfl dX0_refusalToAddFeast_42 (fun r_42 => ?_)
        refine sm_if_eq hG 52 48 rfl dX0_refusalToAddFeast_45 (by decide) ?_ ?_
        · refine sm_iconst (x := (0 : Int32)) hG 53 rfl dX0_refusalToAddFeast_52 rfl ?_
          exact sm_iret hG hT ⟨Nat.zero_le _, Nat.zero_le _⟩ dX0_refusalToAddFeast_53 rfl
        · refine sm_iconst (x := (3 : Int32)) hG 49 rfl dX0_refusalToAddFeast_48 rfl ?_
          refine sm_goto hG 53 dX0_refusalToAddFeast_49 (by decide) ?_
          exact sm_iret hG hT ⟨Nat.zero_le _, Nat.zero_le _⟩ dX0_refusalToAddFeast_53 rfl
    · refine sm_iconst (x := (2 : Int32)) hG 26 rfl dX0_refusalToAddFeast_25 rfl ?_
      exact sm_iret hG hT ⟨Nat.zero_le _, Nat.zero_le _⟩ dX0_refusalToAddFeast_26 rfl
abbrev rmJ7_fill_53178 : Room := { frames := 0, cells := 0, slots := 0, locals := 0 }
set_option maxRecDepth 100000 in
set_option maxHeartbeats 4000000 in
theorem c_J7_fill_53178 {Λ : jL kC} (hC : LC Λ) {n0 : Nat} {k0 : kC} {x1 : Int32} (hk0 : isA Λ 0 n0 k0) {l : Launch} {v : mC} {r : mC} (hr_ : f_J7_fill_53178 n0 k0 x1 v = some r) : Ct l yJ7_fill_53178 wsJ7_fill_53178 rmJ7_fill_53178 Λ [.ref (Λ.2.2.2.1 k0), .int x1] v none r := by
  refine ct_of (cc := cJ7_fill_53178) (maxL := 4) (ret := none) (fun (w : mC) => ((none : Option Value), w)) hC.1 hr_ (by decide) rfl (Nat.le_of_ble_eq_true rfl) (fun Γ hG hT hN hl => ?_)
  subst hl
  show Sm Γ Λ (0, 0) 0 [(0, .ref (Λ.2.2.2.1 k0)), (1, .int x1)] [] v _
  unfold f_J7_fill_53178
  refine sm_iconst (x := (0 : Int32)) hG 1 rfl dJ7_fill_53178_0 rfl ?_
  refine sm_istore_n hG 2 rfl dJ7_fill_53178_1 rfl (jlt hN rfl) [(2, .int (0 : Int32)), (0, .ref (Λ.2.2.2.1 k0)), (1, .int x1)] rfl ?_
  refine sm_aload_n hG 3 rfl dJ7_fill_53178_2 rfl 1 rfl ?_
  refine nA hG hk0 (x := (Int32.ofNat n0)) rfl 4 rfl dJ7_fill_53178_3 ?_
  refine sm_istore_n hG 5 rfl dJ7_fill_53178_4 rfl (jlt hN rfl) [(3, .int (Int32.ofNat n0)), (2, .int (0 : Int32)), (0, .ref (Λ.2.2.2.1 k0)), (1, .int x1)] rfl ?_
  refine sm_loc [2, 3, 1, 0] [(0, .ref (Λ.2.2.2.1 k0)), (1, .int x1), (2, .int (0 : Int32)), (3, .int (Int32.ofNat n0))] rfl ?_
  refine lp_ind (fun (X5 : Int32 → mC → Option mC) => ∀ (x2_5 : Int32) (v_5 : mC), Sm Γ Λ (0, 0) 5 [(0, .ref (Λ.2.2.2.1 k0)), (1, .int x1), (2, .int x2_5), (3, .int (Int32.ofNat n0))] [] v_5 (X5 x2_5 v_5)) (fun _ _ => sm_none) (fun self5 hs5 x2_5 v_5 => ?_) 8192 _ _
  refine sm_iload_n hG 6 rfl dJ7_fill_53178_5 rfl 2 rfl ?_
  refine sm_iload_n hG 7 rfl dJ7_fill_53178_6 rfl 3 rfl ?_
  refine sm_icmp_ge hG 20 10 rfl dJ7_fill_53178_7 (by decide) ?_ ?_
  · exact sm_vret hG hT ⟨Nat.zero_le _, Nat.zero_le _⟩ dJ7_fill_53178_20 rfl
  · refine sm_aload_n hG 11 rfl dJ7_fill_53178_10 rfl 0 rfl ?_
    refine sm_iload_n hG 12 rfl dJ7_fill_53178_11 rfl 2 rfl ?_
    refine sm_iload_n hG 13 rfl dJ7_fill_53178_12 rfl 1 rfl ?_
    refine sA hG hk0 14 rfl dJ7_fill_53178_13 ?_
    refine sm_nmv (fun w13_1 => ?_)
    refine sm_iinc hG 17 rfl dJ7_fill_53178_14 (j := 2) rfl rfl (jlt hN rfl) [(2, .int (x2_5 + (1 : Int32))), (0, .ref (Λ.2.2.2.1 k0)), (1, .int x1), (3, .int (Int32.ofNat n0))] rfl ?_
    refine sm_goto hG 5 dJ7_fill_53178_17 (by decide) ?_
    refine sm_loc [1, 2, 0, 3] [(0, .ref (Λ.2.2.2.1 k0)), (1, .int x1), (2, .int (x2_5 + (1 : Int32))), (3, .int (Int32.ofNat n0))] rfl ?_
    exact hs5 _ _
abbrev rmX1_add : Room := { frames := 1, cells := 0, slots := 0, locals := 23 }
set_option maxRecDepth 100000 in
set_option maxHeartbeats 4000000 in
theorem c_X1_add {Λ : jL kC} (hC : LC Λ) {o : Nat} {x1 : Int32} {x2 : Int32} (ho : o < 7) {l : Launch} {v : mC} {r : (Int32 × mC)} (hr_ : f_X1_add o x1 x2 v = some r) : Ct l yX1_add wsX1_add rmX1_add Λ [.ref (Λ.2.2.2.1 (18, o, 0)), .int x1, .int x2] v (some (.int r.1)) r.2 := by
  refine ct_of (cc := cX1_add) (maxL := 4) (ret := (some .int)) (fun (q : Int32 × mC) => (some (Value.int q.1), q.2)) hC.1 hr_ (by decide) rfl (Nat.le_of_ble_eq_true rfl) (fun Γ hG hT hN hl => ?_)
  subst hl
  have f15 : Cond.fieldLink RX1 15 "ChoirRegister$Calendar" "day" "[I" ∈ wsX1_add := by decide +kernel
  have f19 : Cond.fieldLink RX1 19 "ChoirRegister$Calendar" "rank" "[I" ∈ wsX1_add := by decide +kernel
  have f27 : Cond.fieldLink RX1 27 "ChoirRegister$Calendar" "places" "[[I" ∈ wsX1_add := by decide +kernel
  have f30 : Cond.fieldLink RX1 30 "ChoirRegister$Calendar" "lowest" "[[I" ∈ wsX1_add := by decide +kernel
  have f33 : Cond.fieldLink RX1 33 "ChoirRegister$Calendar" "highest" "[[I" ∈ wsX1_add := by decide +kernel
  have f9 : Cond.fieldLink RX1 9 "ChoirRegister$Calendar" "count" "I" ∈ wsX1_add := by decide +kernel
  have u1 : ∀ w ∈ wsX10, w ∈ wsX1_add := by decide +kernel
  show Sm Γ Λ (0, 0) 0 [(0, .ref (Λ.2.2.2.1 (18, o, 0))), (1, .int x1), (2, .int x2)] [] v _
  unfold f_X1_add
  refine sm_aload_n hG 1 rfl dX1_add_0 rfl 0 rfl ?_
  refine gC18_0 hG hC ho 4 rfl u1 f9 dX1_add_1 ?_
  refine sm_istore_n hG 5 rfl dX1_add_4 rfl (jlt hN rfl) [(3, .int (v (18, o, 0) 0)), (0, .ref (Λ.2.2.2.1 (18, o, 0))), (1, .int x1), (2, .int x2)] rfl ?_
  refine sm_aload_n hG 6 rfl dX1_add_5 rfl 1 rfl ?_
  refine gC18_1 hG hC ho 9 rfl u1 f15 dX1_add_6 ?_
  refine sm_iload_n hG 10 rfl dX1_add_9 rfl 0 rfl ?_
  refine sm_iload_n hG 11 rfl dX1_add_10 rfl 2 rfl ?_
  refine sC19 hG hC ho 12 rfl dX1_add_11 ?_
  refine sm_nmv (fun w11_1 => ?_)
  refine sm_aload_n hG 13 rfl dX1_add_12 rfl 1 rfl ?_
  refine gC18_2 hG hC ho 16 rfl u1 f19 dX1_add_13 ?_
  refine sm_iload_n hG 17 rfl dX1_add_16 rfl 0 rfl ?_
  refine sm_iload_n hG 18 rfl dX1_add_17 rfl 3 rfl ?_
  refine sC20 hG hC ho 19 rfl dX1_add_18 ?_
  refine sm_nmv (fun w18_2 => ?_)
  refine sm_aload_n hG 20 rfl dX1_add_19 rfl 1 rfl ?_
  refine gC18_4 hG hC ho 23 rfl u1 f27 dX1_add_20 ?_
  refine sm_iload_n hG 24 rfl dX1_add_23 rfl 0 rfl ?_
  refine lC22 hG hC ho 25 rfl dX1_add_24 (fun hf24_1 => ?_)
  refine sm_iconst (x := (0 : Int32)) hG 26 rfl dX1_add_25 rfl ?_
  refine sm_callS hG (fun (w : mC) => ((none : Option Value), w)) [.ref (Λ.2.2.2.1 (26, o, ix (v (18, o, 0) 0))), .int (0 : Int32)] 29 rfl (fun r_ hr_ => c_J7_fill_53178 hC (ic_26 hC ho hf24_1)  hr_) gX1_add_J7_fill_53178 rfl (by decide) (by decide) (n := 2) rfl (Nat.le_of_ble_eq_true rfl) (by decide) ⟨Nat.zero_le _, Nat.zero_le _⟩ rfl dX1_add_26 (fun r_26 => ?_)
  refine sm_aload_n hG 30 rfl dX1_add_29 rfl 1 rfl ?_
  refine gC18_5 hG hC ho 33 rfl u1 f30 dX1_add_30 ?_
  refine sm_iload_n hG 34 rfl dX1_add_33 rfl 0 rfl ?_
  refine lC23 hG hC ho 35 rfl dX1_add_34 (fun hf34_2 => ?_)
  refine sm_iconst (x := (0 : Int32)) hG 36 rfl dX1_add_35 rfl ?_
  refine sm_callS hG (fun (w : mC) => ((none : Option Value), w)) [.ref (Λ.2.2.2.1 (27, o, ix (v (18, o, 0) 0))), .int (0 : Int32)] 39 rfl (fun r_ hr_ => c_J7_fill_53178 hC (ic_27 hC ho hf34_2)  hr_) gX1_add_J7_fill_53178 rfl (by decide) (by decide) (n := 2) rfl (Nat.le_of_ble_eq_true rfl) (by decide) ⟨Nat.zero_le _, Nat.zero_le _⟩ rfl dX1_add_36 (fun r_36 => ?_)
  refine sm_aload_n hG 40 rfl dX1_add_39 rfl 1 rfl ?_
  refine gC18_6 hG hC ho 43 rfl u1 f33 dX1_add_40 ?_
  refine sm_iload_n hG 44 rfl dX1_add_43 rfl 0 rfl ?_
  refine lC24 hG hC ho 45 rfl dX1_add_44 (fun hf44_3 => ?_)
  refine sm_iconst (x := (0 : Int32)) hG 46 rfl dX1_add_45 rfl ?_
  refine sm_callS hG (fun (w : mC) => ((none : Option Value), w)) [.ref (Λ.2.2.2.1 (28, o, ix (v (18, o, 0) 0))), .int (0 : Int32)] 49 rfl (fun r_ hr_ => c_J7_fill_53178 hC (ic_28 hC ho hf44_3)  hr_) gX1_add_J7_fill_53178 rfl (by decide) (by decide) (n := 2) rfl (Nat.le_of_ble_eq_true rfl) (by decide) ⟨Nat.zero_le _, Nat.zero_le _⟩ rfl dX1_add_46 (fun r_46 => ?_)
  refine sm_aload_n hG 50 rfl dX1_add_49 rfl 1 rfl ?_
  refine sm_dup hG 51 rfl dX1_add_50 rfl ?_
  refine gC18_0 hG hC ho 54 rfl u1 f9 dX1_add_51 ?_
  refine sm_iconst (x := (1 : Int32)) hG 55 rfl dX1_add_54 rfl ?_
  refine sm_iadd hG 56 rfl dX1_add_55 ?_
  refine pC18_0 hG hC ho 59 rfl u1 f9 dX1_add_56 ?_
  refine sm_nmv (fun w56_3 => ?_)
  refine sm_iload_n hG 60 rfl dX1_add_59 rfl 0 rfl ?_
  exact sm_iret hG hT ⟨Nat.zero_le _, Nat.zero_le _⟩ dX1_add_60 rfl
abbrev rmX0_addFeast : Room := { frames := 2, cells := 0, slots := 0, locals := 46 }
set_option maxRecDepth 100000 in
set_option maxHeartbeats 4000000 in
theorem c_X0_addFeast {Λ : jL kC} (hC : LC Λ) {o : Nat} {x1 : Int32} {x2 : Int32} (ho : o < 7) {l : Launch} {v : mC} {r : (Int32 × mC)} (hr_ : f_X0_addFeast o x1 x2 v = some r) : Ct l yX0_addFeast wsX0_addFeast rmX0_addFeast Λ [.ref (Λ.2.2.2.1 (1, o, 0)), .int x1, .int x2] v (some (.int r.1)) r.2 := by
  refine ct_of (cc := cX0_addFeast) (maxL := 3) (ret := (some .int)) (fun (q : Int32 × mC) => (some (Value.int q.1), q.2)) hC.1 hr_ (by decide) rfl (Nat.le_of_ble_eq_true rfl) (fun Γ hG hT hN hl => ?_)
  subst hl
  have f32 : Cond.fieldLink RX0 32 "ChoirRegister$Book" "calendar" "LChoirRegister$Calendar;" ∈ wsX0_addFeast := by decide +kernel
  have u0 : ∀ w ∈ wsX00, w ∈ wsX0_addFeast := by decide +kernel
  show Sm Γ Λ (0, 0) 0 [(0, .ref (Λ.2.2.2.1 (1, o, 0))), (1, .int x1), (2, .int x2)] [] v _
  unfold f_X0_addFeast
  refine sm_aload_n hG 1 rfl dX0_addFeast_0 rfl 0 rfl ?_
  refine gC1_3 hG hC ho 4 rfl u0 f32 dX0_addFeast_1 ?_
  refine sm_iload_n hG 5 rfl dX0_addFeast_4 rfl 1 rfl ?_
  refine sm_iload_n hG 6 rfl dX0_addFeast_5 rfl 2 rfl ?_
  refine sm_callV hG (fun (q : Int32 × mC) => (some (Value.int q.1), q.2)) (18, o, 0) [.int x1, .int x2] 9 rfl (okb hC (by decide) ho) (ce_18 hC _) (ci := 1) rfl (fun r_ hr_ => c_X1_add hC ho  hr_) gX0_addFeast_X1_add rfl (by decide) (by decide) (n := 2) rfl (Nat.le_of_ble_eq_true rfl) (by decide) ⟨Nat.zero_le _, Nat.zero_le _⟩ rfl dX0_addFeast_6 (fun r_6 => ?_)
  exact sm_iret hG hT ⟨Nat.zero_le _, Nat.zero_le _⟩ dX0_addFeast_9 rfl
abbrev rmX1_has : Room := { frames := 0, cells := 0, slots := 0, locals := 0 }
set_option maxRecDepth 100000 in
set_option maxHeartbeats 4000000 in
theorem c_X1_has {Λ : jL kC} (hC : LC Λ) {o : Nat} {x1 : Int32} (ho : o < 7) {l : Launch} {v : mC} {r : Int32} (hr_ : f_X1_has o x1 v = some r) : Ct l yX1_has wsX1_has rmX1_has Λ [.ref (Λ.2.2.2.1 (18, o, 0)), .int x1] v (some (.int r)) v := by
  refine ct_of (cc := cX1_has) (maxL := 2) (ret := (some .boolean)) (fun (q : Int32) => (some (Value.int q), v)) hC.1 hr_ (by decide) rfl (Nat.le_of_ble_eq_true rfl) (fun Γ hG hT hN hl => ?_)
  subst hl
  have f9 : Cond.fieldLink RX1 9 "ChoirRegister$Calendar" "count" "I" ∈ wsX1_has := by decide +kernel
  have u1 : ∀ w ∈ wsX10, w ∈ wsX1_has := by decide +kernel
  show Sm Γ Λ (0, 0) 0 [(0, .ref (Λ.2.2.2.1 (18, o, 0))), (1, .int x1)] [] v _
  unfold f_X1_has
  refine sm_iload_n hG 1 rfl dX1_has_0 rfl 1 rfl ?_
  refine sm_if_lt hG 16 4 rfl dX1_has_1 (by decide) ?_ ?_
  · refine sm_iconst (x := (0 : Int32)) hG 17 rfl dX1_has_16 rfl ?_
    exact sm_bret hG hT ⟨Nat.zero_le _, Nat.zero_le _⟩ dX1_has_17 rfl
  · refine sm_iload_n hG 5 rfl dX1_has_4 rfl 1 rfl ?_
    refine sm_aload_n hG 6 rfl dX1_has_5 rfl 0 rfl ?_
    refine gC18_0 hG hC ho 9 rfl u1 f9 dX1_has_6 ?_
    refine sm_icmp_ge hG 16 12 rfl dX1_has_9 (by decide) ?_ ?_
    · refine sm_iconst (x := (0 : Int32)) hG 17 rfl dX1_has_16 rfl ?_
      exact sm_bret hG hT ⟨Nat.zero_le _, Nat.zero_le _⟩ dX1_has_17 rfl
    · refine sm_iconst (x := (1 : Int32)) hG 13 rfl dX1_has_12 rfl ?_
      refine sm_goto hG 17 dX1_has_13 (by decide) ?_
      exact sm_bret hG hT ⟨Nat.zero_le _, Nat.zero_le _⟩ dX1_has_17 rfl
abbrev rmX6_isLine : Room := { frames := 1, cells := 0, slots := 0, locals := 22 }
set_option maxRecDepth 100000 in
set_option maxHeartbeats 4000000 in
theorem c_X6_isLine {Λ : jL kC} (hC : LC Λ) {x0 : Int32}  {l : Launch} {v : mC} {r : Int32} (hr_ : f_X6_isLine x0 v = some r) : Ct l yX6_isLine wsX6_isLine rmX6_isLine Λ [.int x0] v (some (.int r)) v := by
  refine ct_of (cc := cX6_isLine) (maxL := 1) (ret := (some .boolean)) (fun (q : Int32) => (some (Value.int q), v)) hC.1 hr_ (by decide) rfl (Nat.le_of_ble_eq_true rfl) (fun Γ hG hT hN hl => ?_)
  subst hl
  show Sm Γ Λ (0, 0) 0 [(0, .int x0)] [] v _
  unfold f_X6_isLine
  refine sm_iload_n hG 1 rfl dX6_isLine_0 rfl 0 rfl ?_
  refine sm_iconst (x := (0 : Int32)) hG 2 rfl dX6_isLine_1 rfl ?_
  refine sm_iconst (x := (3 : Int32)) hG 3 rfl dX6_isLine_2 rfl ?_
  refine sm_callS hG (fun (q : Int32) => (some (Value.int q), v)) [.int x0, .int (0 : Int32), .int (3 : Int32)] 6 rfl (fun r_ hr_ => c_X6_isWithin hC   hr_) gX6_isLine_X6_isWithin rfl (by decide) (by decide) (n := 3) rfl (Nat.le_of_ble_eq_true rfl) (by decide) ⟨Nat.zero_le _, Nat.zero_le _⟩ rfl dX6_isLine_3 (fun r_3 => ?_)
  exact sm_bret hG hT ⟨Nat.zero_le _, Nat.zero_le _⟩ dX6_isLine_6 rfl
abbrev rmX0_hasHeld : Room := { frames := 0, cells := 0, slots := 0, locals := 0 }
set_option maxRecDepth 100000 in
set_option maxHeartbeats 4000000 in
theorem c_X0_hasHeld {Λ : jL kC} (hC : LC Λ) {o : Nat} {x1 : Int32} (ho : o < 7) {l : Launch} {v : mC} {r : Int32} (hr_ : f_X0_hasHeld o x1 v = some r) : Ct l yX0_hasHeld wsX0_hasHeld rmX0_hasHeld Λ [.ref (Λ.2.2.2.1 (1, o, 0)), .int x1] v (some (.int r)) v := by
  refine ct_of (cc := cX0_hasHeld) (maxL := 2) (ret := (some .boolean)) (fun (q : Int32) => (some (Value.int q), v)) hC.1 hr_ (by decide) rfl (Nat.le_of_ble_eq_true rfl) (fun Γ hG hT hN hl => ?_)
  subst hl
  have f158 : Cond.fieldLink RX0 158 "ChoirRegister$Calendar" "day" "[I" ∈ wsX0_hasHeld := by decide +kernel
  have f32 : Cond.fieldLink RX0 32 "ChoirRegister$Book" "calendar" "LChoirRegister$Calendar;" ∈ wsX0_hasHeld := by decide +kernel
  have f9 : Cond.fieldLink RX0 9 "ChoirRegister$Book" "day" "I" ∈ wsX0_hasHeld := by decide +kernel
  have u0 : ∀ w ∈ wsX00, w ∈ wsX0_hasHeld := by decide +kernel
  have u1 : ∀ w ∈ wsX10, w ∈ wsX0_hasHeld := by decide +kernel
  show Sm Γ Λ (0, 0) 0 [(0, .ref (Λ.2.2.2.1 (1, o, 0))), (1, .int x1)] [] v _
  unfold f_X0_hasHeld
  refine sm_aload_n hG 1 rfl dX0_hasHeld_0 rfl 0 rfl ?_
  refine gC1_3 hG hC ho 4 rfl u0 f32 dX0_hasHeld_1 ?_
  refine gC18_1 hG hC ho 7 rfl u1 f158 dX0_hasHeld_4 ?_
  refine sm_iload_n hG 8 rfl dX0_hasHeld_7 rfl 1 rfl ?_
  refine lC19 hG hC ho 9 rfl dX0_hasHeld_8 ?_
  refine sm_aload_n hG 10 rfl dX0_hasHeld_9 rfl 0 rfl ?_
  refine gC1_0 hG hC ho 13 rfl u0 f9 dX0_hasHeld_10 ?_
  refine sm_icmp_gt hG 20 16 rfl dX0_hasHeld_13 (by decide) ?_ ?_
  · refine sm_iconst (x := (0 : Int32)) hG 21 rfl dX0_hasHeld_20 rfl ?_
    exact sm_bret hG hT ⟨Nat.zero_le _, Nat.zero_le _⟩ dX0_hasHeld_21 rfl
  · refine sm_iconst (x := (1 : Int32)) hG 17 rfl dX0_hasHeld_16 rfl ?_
    refine sm_goto hG 21 dX0_hasHeld_17 (by decide) ?_
    exact sm_bret hG hT ⟨Nat.zero_le _, Nat.zero_le _⟩ dX0_hasHeld_21 rfl
abbrev rmX0_refusalToArrange : Room := { frames := 2, cells := 0, slots := 0, locals := 43 }
set_option maxRecDepth 100000 in
set_option maxHeartbeats 4000000 in
theorem c_X0_refusalToArrange {Λ : jL kC} (hC : LC Λ) {o : Nat} {x1 : Int32} {x2 : Int32} {x3 : Int32} {x4 : Int32} {x5 : Int32} (ho : o < 7) {l : Launch} {v : mC} {r : Int32} (hr_ : f_X0_refusalToArrange o x1 x2 x3 x4 x5 v = some r) : Ct l yX0_refusalToArrange wsX0_refusalToArrange rmX0_refusalToArrange Λ [.ref (Λ.2.2.2.1 (1, o, 0)), .int x1, .int x2, .int x3, .int x4, .int x5] v (some (.int r)) v := by
  refine ct_of (cc := cX0_refusalToArrange) (maxL := 6) (ret := (some .int)) (fun (q : Int32) => (some (Value.int q), v)) hC.1 hr_ (by decide) rfl (Nat.le_of_ble_eq_true rfl) (fun Γ hG hT hN hl => ?_)
  subst hl
  have f32 : Cond.fieldLink RX0 32 "ChoirRegister$Book" "calendar" "LChoirRegister$Calendar;" ∈ wsX0_refusalToArrange := by decide +kernel
  have fi_X6_isLine : Cond.initialized yX6_isLine.cls ∈ wsX0_refusalToArrange := by decide +kernel
  have fi_X6_isRange : Cond.initialized yX6_isRange.cls ∈ wsX0_refusalToArrange := by decide +kernel
  have fi_X6_isWithin : Cond.initialized yX6_isWithin.cls ∈ wsX0_refusalToArrange := by decide +kernel
  have fs_X6_isLine : Cond.static yX6_isLine ∈ wsX0_refusalToArrange := by decide +kernel
  have fs_X6_isRange : Cond.static yX6_isRange ∈ wsX0_refusalToArrange := by decide +kernel
  have fs_X6_isWithin : Cond.static yX6_isWithin ∈ wsX0_refusalToArrange := by decide +kernel
  have u0 : ∀ w ∈ wsX00, w ∈ wsX0_refusalToArrange := by decide +kernel
  show Sm Γ Λ (0, 0) 0 [(0, .ref (Λ.2.2.2.1 (1, o, 0))), (1, .int x1), (2, .int x2), (3, .int x3), (4, .int x4), (5, .int x5)] [] v _
  unfold f_X0_refusalToArrange
  refine sm_aload_n hG 1 rfl dX0_refusalToArrange_0 rfl 0 rfl ?_
  refine gC1_3 hG hC ho 4 rfl u0 f32 dX0_refusalToArrange_1 ?_
  refine sm_iload_n hG 5 rfl dX0_refusalToArrange_4 rfl 1 rfl ?_
  refine sm_callV hG (fun (q : Int32) => (some (Value.int q), v)) (18, o, 0) [.int x1] 8 rfl (okb hC (by decide) ho) (ce_18 hC _) (ci := 1) rfl (fun r_ hr_ => c_X1_has hC ho  hr_) gX0_refusalToArrange_X1_has rfl (by decide) (by decide) (n := 1) rfl (Nat.le_of_ble_eq_true rfl) (by decide) ⟨Nat.zero_le _, Nat.zero_le _⟩ rfl dX0_refusalToArrange_5 (fun r_5 => ?_)
  refine sm_if_eq hG 18 11 rfl dX0_refusalToArrange_8 (by decide) ?_ ?_
  · refine sm_iconst (x := (1 : Int32)) hG 19 rfl dX0_refusalToArrange_18 rfl ?_
    exact sm_iret hG hT ⟨Nat.zero_le _, Nat.zero_le _⟩ dX0_refusalToArrange_19 rfl
  · refine sm_iload_n hG 12 rfl dX0_refusalToArrange_11 rfl 2 rfl ?_
    refine sm_callN hG (host := "ChoirRegister") (fun (q : Int32) => (some (Value.int q), v)) [.int x2] 15 rfl (fun hX => (hC.2.2.2 _ _ hX).1 _ (by decide +kernel)) (fun r_ hr_ => c_X6_isLine hC   hr_) gX0_refusalToArrange_X6_isLine_n133 fs_X6_isLine fi_X6_isLine rfl (by decide) (by decide) (n := 1) rfl (Nat.le_of_ble_eq_true rfl) (by decide) ⟨Nat.zero_le _, Nat.zero_le _⟩ rfl dX0_refusalToArrange_12 (fun r_12 => ?_)
    refine sm_if_ne hG 20 18 rfl dX0_refusalToArrange_15 (by decide) ?_ ?_
    · refine sm_iload_n hG 21 rfl dX0_refusalToArrange_20 rfl 3 rfl ?_
      refine sm_iconst (x := (0 : Int32)) hG 22 rfl dX0_refusalToArrange_21 rfl ?_
      refine sm_bipush (x := (6 : Int32)) hG 24 rfl dX0_refusalToArrange_22 rfl ?_
      refine sm_callN hG (host := "ChoirRegister") (fun (q : Int32) => (some (Value.int q), v)) [.int x3, .int (0 : Int32), .int (6 : Int32)] 27 rfl (fun hX => (hC.2.2.2 _ _ hX).1 _ (by decide +kernel)) (fun r_ hr_ => c_X6_isWithin hC   hr_) gX0_refusalToArrange_X6_isWithin_n71 fs_X6_isWithin fi_X6_isWithin rfl (by decide) (by decide) (n := 3) rfl (Nat.le_of_ble_eq_true rfl) (by decide) ⟨Nat.zero_le _, Nat.zero_le _⟩ rfl dX0_refusalToArrange_24 (fun r_24 => ?_)
      refine sm_if_eq hG 40 30 rfl dX0_refusalToArrange_27 (by decide) ?_ ?_
      · refine sm_iconst (x := (2 : Int32)) hG 41 rfl dX0_refusalToArrange_40 rfl ?_
        exact sm_iret hG hT ⟨Nat.zero_le _, Nat.zero_le _⟩ dX0_refusalToArrange_41 rfl
      · refine sm_iload hG 32 rfl dX0_refusalToArrange_30 4 rfl ?_
        refine sm_iload hG 34 rfl dX0_refusalToArrange_32 5 rfl ?_
        refine sm_callN hG (host := "ChoirRegister") (fun (q : Int32) => (some (Value.int q), v)) [.int x4, .int x5] 37 rfl (fun hX => (hC.2.2.2 _ _ hX).1 _ (by decide +kernel)) (fun r_ hr_ => c_X6_isRange hC   hr_) gX0_refusalToArrange_X6_isRange_n136 fs_X6_isRange fi_X6_isRange rfl (by decide) (by decide) (n := 2) rfl (Nat.le_of_ble_eq_true rfl) (by decide) ⟨Nat.zero_le _, Nat.zero_le _⟩ rfl dX0_refusalToArrange_34 (fun r_34 => ?_)
        refine sm_if_ne hG 42 40 rfl dX0_refusalToArrange_37 (by decide) ?_ ?_
        · refine sm_aload_n hG 43 rfl dX0_refusalToArrange_42 rfl 0 rfl ?_
          refine sm_iload_n hG 44 rfl dX0_refusalToArrange_43 rfl 1 rfl ?_
          refine sm_callV hG (fun (q : Int32) => (some (Value.int q), v)) (1, o, 0) [.int x1] 47 rfl (okb hC (by decide) ho) (ce_1 hC _) (ci := 0) rfl (fun r_ hr_ => c_X0_hasHeld hC ho  hr_) gX0_refusalToArrange_X0_hasHeld rfl (by decide) (by decide) (n := 1) rfl (Nat.le_of_ble_eq_true rfl) (by decide) ⟨Nat.zero_le _, Nat.zero_le _⟩ rfl dX0_refusalToArrange_44 (fun r_44 => ?_)
          refine sm_if_eq hG 54 50 rfl dX0_refusalToArrange_47 (by decide) ?_ ?_
          · refine sm_iconst (x := (0 : Int32)) hG 55 rfl dX0_refusalToArrange_54 rfl ?_
            exact sm_iret hG hT ⟨Nat.zero_le _, Nat.zero_le _⟩ dX0_refusalToArrange_55 rfl
          · refine sm_iconst (x := (3 : Int32)) hG 51 rfl dX0_refusalToArrange_50 rfl ?_
            refine sm_goto hG 55 dX0_refusalToArrange_51 (by decide) ?_
            exact sm_iret hG hT ⟨Nat.zero_le _, Nat.zero_le _⟩ dX0_refusalToArrange_55 rfl
        · refine sm_iconst (x := (2 : Int32)) hG 41 rfl dX0_refusalToArrange_40 rfl ?_
          exact sm_iret hG hT ⟨Nat.zero_le _, Nat.zero_le _⟩ dX0_refusalToArrange_41 rfl
    · refine sm_iconst (x := (1 : Int32)) hG 19 rfl dX0_refusalToArrange_18 rfl ?_
      exact sm_iret hG hT ⟨Nat.zero_le _, Nat.zero_le _⟩ dX0_refusalToArrange_19 rfl
abbrev rmX1_allPlaces : Room := { frames := 0, cells := 0, slots := 0, locals := 0 }
set_option maxRecDepth 100000 in
set_option maxHeartbeats 4000000 in
theorem c_X1_allPlaces {Λ : jL kC} (hC : LC Λ) {o : Nat} {x1 : Int32} (ho : o < 7) {l : Launch} {v : mC} {r : Int32} (hr_ : f_X1_allPlaces o x1 v = some r) : Ct l yX1_allPlaces wsX1_allPlaces rmX1_allPlaces Λ [.ref (Λ.2.2.2.1 (18, o, 0)), .int x1] v (some (.int r)) v := by
  refine ct_of (cc := cX1_allPlaces) (maxL := 4) (ret := (some .int)) (fun (q : Int32) => (some (Value.int q), v)) hC.1 hr_ (by decide) rfl (Nat.le_of_ble_eq_true rfl) (fun Γ hG hT hN hl => ?_)
  subst hl
  have f27 : Cond.fieldLink RX1 27 "ChoirRegister$Calendar" "places" "[[I" ∈ wsX1_allPlaces := by decide +kernel
  have u1 : ∀ w ∈ wsX10, w ∈ wsX1_allPlaces := by decide +kernel
  show Sm Γ Λ (0, 0) 0 [(0, .ref (Λ.2.2.2.1 (18, o, 0))), (1, .int x1)] [] v _
  unfold f_X1_allPlaces
  refine sm_iconst (x := (0 : Int32)) hG 1 rfl dX1_allPlaces_0 rfl ?_
  refine sm_istore_n hG 2 rfl dX1_allPlaces_1 rfl (jlt hN rfl) [(2, .int (0 : Int32)), (0, .ref (Λ.2.2.2.1 (18, o, 0))), (1, .int x1)] rfl ?_
  refine sm_iconst (x := (0 : Int32)) hG 3 rfl dX1_allPlaces_2 rfl ?_
  refine sm_istore_n hG 4 rfl dX1_allPlaces_3 rfl (jlt hN rfl) [(3, .int (0 : Int32)), (2, .int (0 : Int32)), (0, .ref (Λ.2.2.2.1 (18, o, 0))), (1, .int x1)] rfl ?_
  refine sm_loc [2, 3, 1, 0] [(0, .ref (Λ.2.2.2.1 (18, o, 0))), (1, .int x1), (2, .int (0 : Int32)), (3, .int (0 : Int32))] rfl ?_
  refine lp_ind (fun (X4 : Int32 → Int32 → Option Int32) => ∀ (x2_4 : Int32) (x3_4 : Int32), Sm Γ Λ (0, 0) 4 [(0, .ref (Λ.2.2.2.1 (18, o, 0))), (1, .int x1), (2, .int x2_4), (3, .int x3_4)] [] v (X4 x2_4 x3_4)) (fun _ _ => sm_none) (fun self4 hs4 x2_4 x3_4 => ?_) 8192 _ _
  refine sm_iload_n hG 5 rfl dX1_allPlaces_4 rfl 3 rfl ?_
  refine sm_iconst (x := (4 : Int32)) hG 6 rfl dX1_allPlaces_5 rfl ?_
  refine sm_icmp_ge hG 26 9 rfl dX1_allPlaces_6 (by decide) ?_ ?_
  · refine sm_iload_n hG 27 rfl dX1_allPlaces_26 rfl 2 rfl ?_
    exact sm_iret hG hT ⟨Nat.zero_le _, Nat.zero_le _⟩ dX1_allPlaces_27 rfl
  · refine sm_iload_n hG 10 rfl dX1_allPlaces_9 rfl 2 rfl ?_
    refine sm_aload_n hG 11 rfl dX1_allPlaces_10 rfl 0 rfl ?_
    refine gC18_4 hG hC ho 14 rfl u1 f27 dX1_allPlaces_11 ?_
    refine sm_iload_n hG 15 rfl dX1_allPlaces_14 rfl 1 rfl ?_
    refine lC22 hG hC ho 16 rfl dX1_allPlaces_15 (fun hf15_1 => ?_)
    refine sm_iload_n hG 17 rfl dX1_allPlaces_16 rfl 3 rfl ?_
    refine lC26 hG hC ho hf15_1 18 rfl dX1_allPlaces_17 ?_
    refine sm_iadd hG 19 rfl dX1_allPlaces_18 ?_
    refine sm_istore_n hG 20 rfl dX1_allPlaces_19 rfl (jlt hN rfl) [(2, .int (x2_4 + (v (26, o, ix x1) (ix x3_4)))), (0, .ref (Λ.2.2.2.1 (18, o, 0))), (1, .int x1), (3, .int x3_4)] rfl ?_
    refine sm_iinc hG 23 rfl dX1_allPlaces_20 (j := 3) rfl rfl (jlt hN rfl) [(3, .int (x3_4 + (1 : Int32))), (2, .int (x2_4 + (v (26, o, ix x1) (ix x3_4)))), (0, .ref (Λ.2.2.2.1 (18, o, 0))), (1, .int x1)] rfl ?_
    refine sm_goto hG 4 dX1_allPlaces_23 (by decide) ?_
    refine sm_loc [2, 3, 1, 0] [(0, .ref (Λ.2.2.2.1 (18, o, 0))), (1, .int x1), (2, .int (x2_4 + (v (26, o, ix x1) (ix x3_4)))), (3, .int (x3_4 + (1 : Int32)))] rfl ?_
    exact hs4 _ _
abbrev rmX0_arrange : Room := { frames := 1, cells := 0, slots := 0, locals := 23 }
set_option maxRecDepth 100000 in
set_option maxHeartbeats 4000000 in
theorem c_X0_arrange {Λ : jL kC} (hC : LC Λ) {o : Nat} {x1 : Int32} {x2 : Int32} {x3 : Int32} {x4 : Int32} {x5 : Int32} (ho : o < 7) {l : Launch} {v : mC} {r : (Int32 × mC)} (hr_ : f_X0_arrange o x1 x2 x3 x4 x5 v = some r) : Ct l yX0_arrange wsX0_arrange rmX0_arrange Λ [.ref (Λ.2.2.2.1 (1, o, 0)), .int x1, .int x2, .int x3, .int x4, .int x5] v (some (.int r.1)) r.2 := by
  refine ct_of (cc := cX0_arrange) (maxL := 6) (ret := (some .int)) (fun (q : Int32 × mC) => (some (Value.int q.1), q.2)) hC.1 hr_ (by decide) rfl (Nat.le_of_ble_eq_true rfl) (fun Γ hG hT hN hl => ?_)
  subst hl
  have f142 : Cond.fieldLink RX0 142 "ChoirRegister$Calendar" "places" "[[I" ∈ wsX0_arrange := by decide +kernel
  have f146 : Cond.fieldLink RX0 146 "ChoirRegister$Calendar" "lowest" "[[I" ∈ wsX0_arrange := by decide +kernel
  have f149 : Cond.fieldLink RX0 149 "ChoirRegister$Calendar" "highest" "[[I" ∈ wsX0_arrange := by decide +kernel
  have f32 : Cond.fieldLink RX0 32 "ChoirRegister$Book" "calendar" "LChoirRegister$Calendar;" ∈ wsX0_arrange := by decide +kernel
  have u0 : ∀ w ∈ wsX00, w ∈ wsX0_arrange := by decide +kernel
  have u1 : ∀ w ∈ wsX10, w ∈ wsX0_arrange := by decide +kernel
  show Sm Γ Λ (0, 0) 0 [(0, .ref (Λ.2.2.2.1 (1, o, 0))), (1, .int x1), (2, .int x2), (3, .int x3), (4, .int x4), (5, .int x5)] [] v _
  unfold f_X0_arrange
  refine sm_aload_n hG 1 rfl dX0_arrange_0 rfl 0 rfl ?_
  refine gC1_3 hG hC ho 4 rfl u0 f32 dX0_arrange_1 ?_
  refine gC18_4 hG hC ho 7 rfl u1 f142 dX0_arrange_4 ?_
  refine sm_iload_n hG 8 rfl dX0_arrange_7 rfl 1 rfl ?_
  refine lC22 hG hC ho 9 rfl dX0_arrange_8 (fun hf8_1 => ?_)
  refine sm_iload_n hG 10 rfl dX0_arrange_9 rfl 2 rfl ?_
  refine sm_iload_n hG 11 rfl dX0_arrange_10 rfl 3 rfl ?_
  refine sC26 hG hC ho hf8_1 12 rfl dX0_arrange_11 ?_
  refine sm_nmv (fun w11_1 => ?_)
  refine sm_aload_n hG 13 rfl dX0_arrange_12 rfl 0 rfl ?_
  refine gC1_3 hG hC ho 16 rfl u0 f32 dX0_arrange_13 ?_
  refine gC18_5 hG hC ho 19 rfl u1 f146 dX0_arrange_16 ?_
  refine sm_iload_n hG 20 rfl dX0_arrange_19 rfl 1 rfl ?_
  refine lC23 hG hC ho 21 rfl dX0_arrange_20 (fun hf20_2 => ?_)
  refine sm_iload_n hG 22 rfl dX0_arrange_21 rfl 2 rfl ?_
  refine sm_iload hG 24 rfl dX0_arrange_22 4 rfl ?_
  refine sC27 hG hC ho hf20_2 25 rfl dX0_arrange_24 ?_
  refine sm_nmv (fun w24_2 => ?_)
  refine sm_aload_n hG 26 rfl dX0_arrange_25 rfl 0 rfl ?_
  refine gC1_3 hG hC ho 29 rfl u0 f32 dX0_arrange_26 ?_
  refine gC18_6 hG hC ho 32 rfl u1 f149 dX0_arrange_29 ?_
  refine sm_iload_n hG 33 rfl dX0_arrange_32 rfl 1 rfl ?_
  refine lC24 hG hC ho 34 rfl dX0_arrange_33 (fun hf33_3 => ?_)
  refine sm_iload_n hG 35 rfl dX0_arrange_34 rfl 2 rfl ?_
  refine sm_iload hG 37 rfl dX0_arrange_35 5 rfl ?_
  refine sC28 hG hC ho hf33_3 38 rfl dX0_arrange_37 ?_
  refine sm_nmv (fun w37_3 => ?_)
  refine sm_aload_n hG 39 rfl dX0_arrange_38 rfl 0 rfl ?_
  refine gC1_3 hG hC ho 42 rfl u0 f32 dX0_arrange_39 ?_
  refine sm_iload_n hG 43 rfl dX0_arrange_42 rfl 1 rfl ?_
  refine sm_callV hG (fun (q : Int32) => (some (Value.int q), w37_3)) (18, o, 0) [.int x1] 46 rfl (okb hC (by decide) ho) (ce_18 hC _) (ci := 1) rfl (fun r_ hr_ => c_X1_allPlaces hC ho  hr_) gX0_arrange_X1_allPlaces rfl (by decide) (by decide) (n := 1) rfl (Nat.le_of_ble_eq_true rfl) (by decide) ⟨Nat.zero_le _, Nat.zero_le _⟩ rfl dX0_arrange_43 (fun r_43 => ?_)
  exact sm_iret hG hT ⟨Nat.zero_le _, Nat.zero_le _⟩ dX0_arrange_46 rfl
abbrev rmX0_refusalToAdvance : Room := { frames := 1, cells := 0, slots := 0, locals := 22 }
set_option maxRecDepth 100000 in
set_option maxHeartbeats 4000000 in
theorem c_X0_refusalToAdvance {Λ : jL kC} (hC : LC Λ) {o : Nat} {x1 : Int32} (ho : o < 7) {l : Launch} {v : mC} {r : Int32} (hr_ : f_X0_refusalToAdvance o x1 v = some r) : Ct l yX0_refusalToAdvance wsX0_refusalToAdvance rmX0_refusalToAdvance Λ [.ref (Λ.2.2.2.1 (1, o, 0)), .int x1] v (some (.int r)) v := by
  refine ct_of (cc := cX0_refusalToAdvance) (maxL := 2) (ret := (some .int)) (fun (q : Int32) => (some (Value.int q), v)) hC.1 hr_ (by decide) rfl (Nat.le_of_ble_eq_true rfl) (fun Γ hG hT hN hl => ?_)
  subst hl
  have f9 : Cond.fieldLink RX0 9 "ChoirRegister$Book" "day" "I" ∈ wsX0_refusalToAdvance := by decide +kernel
  have fi_X6_isWithin : Cond.initialized yX6_isWithin.cls ∈ wsX0_refusalToAdvance := by decide +kernel
  have fs_X6_isWithin : Cond.static yX6_isWithin ∈ wsX0_refusalToAdvance := by decide +kernel
  have u0 : ∀ w ∈ wsX00, w ∈ wsX0_refusalToAdvance := by decide +kernel
  show Sm Γ Λ (0, 0) 0 [(0, .ref (Λ.2.2.2.1 (1, o, 0))), (1, .int x1)] [] v _
  unfold f_X0_refusalToAdvance
  refine sm_iload_n hG 1 rfl dX0_refusalToAdvance_0 rfl 1 rfl ?_
  refine sm_iconst (x := (1 : Int32)) hG 2 rfl dX0_refusalToAdvance_1 rfl ?_
  refine sm_bipush (x := (99 : Int32)) hG 4 rfl dX0_refusalToAdvance_2 rfl ?_
  refine sm_callN hG (host := "ChoirRegister") (fun (q : Int32) => (some (Value.int q), v)) [.int x1, .int (1 : Int32), .int (99 : Int32)] 7 rfl (fun hX => (hC.2.2.2 _ _ hX).1 _ (by decide +kernel)) (fun r_ hr_ => c_X6_isWithin hC   hr_) gX0_refusalToAdvance_X6_isWithin_n71 fs_X6_isWithin fi_X6_isWithin rfl (by decide) (by decide) (n := 3) rfl (Nat.le_of_ble_eq_true rfl) (by decide) ⟨Nat.zero_le _, Nat.zero_le _⟩ rfl dX0_refusalToAdvance_4 (fun r_4 => ?_)
  refine sm_if_ne hG 12 10 rfl dX0_refusalToAdvance_7 (by decide) ?_ ?_
  · refine sm_aload_n hG 13 rfl dX0_refusalToAdvance_12 rfl 0 rfl ?_
    refine gC1_0 hG hC ho 16 rfl u0 f9 dX0_refusalToAdvance_13 ?_
    refine sm_iload_n hG 17 rfl dX0_refusalToAdvance_16 rfl 1 rfl ?_
    refine sm_iadd hG 18 rfl dX0_refusalToAdvance_17 ?_
    refine sm_sipush (x := (9999 : Int32)) hG 21 rfl dX0_refusalToAdvance_18 rfl ?_
    refine sm_icmp_le hG 28 24 rfl dX0_refusalToAdvance_21 (by decide) ?_ ?_
    · refine sm_iconst (x := (0 : Int32)) hG 29 rfl dX0_refusalToAdvance_28 rfl ?_
      exact sm_iret hG hT ⟨Nat.zero_le _, Nat.zero_le _⟩ dX0_refusalToAdvance_29 rfl
    · refine sm_iconst (x := (3 : Int32)) hG 25 rfl dX0_refusalToAdvance_24 rfl ?_
      refine sm_goto hG 29 dX0_refusalToAdvance_25 (by decide) ?_
      exact sm_iret hG hT ⟨Nat.zero_le _, Nat.zero_le _⟩ dX0_refusalToAdvance_29 rfl
  · refine sm_iconst (x := (2 : Int32)) hG 11 rfl dX0_refusalToAdvance_10 rfl ?_
    exact sm_iret hG hT ⟨Nat.zero_le _, Nat.zero_le _⟩ dX0_refusalToAdvance_11 rfl
abbrev rmX1_nextAfter : Room := { frames := 0, cells := 0, slots := 0, locals := 0 }
set_option maxRecDepth 100000 in
set_option maxHeartbeats 4000000 in
theorem c_X1_nextAfter {Λ : jL kC} (hC : LC Λ) {o : Nat} {x1 : Int32} (ho : o < 7) {l : Launch} {v : mC} {r : Int32} (hr_ : f_X1_nextAfter o x1 v = some r) : Ct l yX1_nextAfter wsX1_nextAfter rmX1_nextAfter Λ [.ref (Λ.2.2.2.1 (18, o, 0)), .int x1] v (some (.int r)) v := by
  refine ct_of (cc := cX1_nextAfter) (maxL := 4) (ret := (some .int)) (fun (q : Int32) => (some (Value.int q), v)) hC.1 hr_ (by decide) rfl (Nat.le_of_ble_eq_true rfl) (fun Γ hG hT hN hl => ?_)
  subst hl
  have f15 : Cond.fieldLink RX1 15 "ChoirRegister$Calendar" "day" "[I" ∈ wsX1_nextAfter := by decide +kernel
  have f9 : Cond.fieldLink RX1 9 "ChoirRegister$Calendar" "count" "I" ∈ wsX1_nextAfter := by decide +kernel
  have u1 : ∀ w ∈ wsX10, w ∈ wsX1_nextAfter := by decide +kernel
  show Sm Γ Λ (0, 0) 0 [(0, .ref (Λ.2.2.2.1 (18, o, 0))), (1, .int x1)] [] v _
  unfold f_X1_nextAfter
  refine sm_iconst (x := (-1 : Int32)) hG 1 rfl dX1_nextAfter_0 rfl ?_
  refine sm_istore_n hG 2 rfl dX1_nextAfter_1 rfl (jlt hN rfl) [(2, .int (-1 : Int32)), (0, .ref (Λ.2.2.2.1 (18, o, 0))), (1, .int x1)] rfl ?_
  refine sm_iconst (x := (0 : Int32)) hG 3 rfl dX1_nextAfter_2 rfl ?_
  refine sm_istore_n hG 4 rfl dX1_nextAfter_3 rfl (jlt hN rfl) [(3, .int (0 : Int32)), (2, .int (-1 : Int32)), (0, .ref (Λ.2.2.2.1 (18, o, 0))), (1, .int x1)] rfl ?_
  refine sm_loc [2, 3, 1, 0] [(0, .ref (Λ.2.2.2.1 (18, o, 0))), (1, .int x1), (2, .int (-1 : Int32)), (3, .int (0 : Int32))] rfl ?_
  refine lp_ind (fun (X4 : Int32 → Int32 → Option Int32) => ∀ (x2_4 : Int32) (x3_4 : Int32), Sm Γ Λ (0, 0) 4 [(0, .ref (Λ.2.2.2.1 (18, o, 0))), (1, .int x1), (2, .int x2_4), (3, .int x3_4)] [] v (X4 x2_4 x3_4)) (fun _ _ => sm_none) (fun self4 hs4 x2_4 x3_4 => ?_) 8192 _ _
  refine sm_iload_n hG 5 rfl dX1_nextAfter_4 rfl 3 rfl ?_
  refine sm_aload_n hG 6 rfl dX1_nextAfter_5 rfl 0 rfl ?_
  refine gC18_0 hG hC ho 9 rfl u1 f9 dX1_nextAfter_6 ?_
  refine sm_icmp_ge hG 50 12 rfl dX1_nextAfter_9 (by decide) ?_ ?_
  · refine sm_iload_n hG 51 rfl dX1_nextAfter_50 rfl 2 rfl ?_
    exact sm_iret hG hT ⟨Nat.zero_le _, Nat.zero_le _⟩ dX1_nextAfter_51 rfl
  · refine sm_aload_n hG 13 rfl dX1_nextAfter_12 rfl 0 rfl ?_
    refine gC18_1 hG hC ho 16 rfl u1 f15 dX1_nextAfter_13 ?_
    refine sm_iload_n hG 17 rfl dX1_nextAfter_16 rfl 3 rfl ?_
    refine lC19 hG hC ho 18 rfl dX1_nextAfter_17 ?_
    refine sm_iload_n hG 19 rfl dX1_nextAfter_18 rfl 1 rfl ?_
    refine sm_icmp_le hG 44 22 rfl dX1_nextAfter_19 (by decide) ?_ ?_
    · refine sm_iinc hG 47 rfl dX1_nextAfter_44 (j := 3) rfl rfl (jlt hN rfl) [(3, .int (x3_4 + (1 : Int32))), (0, .ref (Λ.2.2.2.1 (18, o, 0))), (1, .int x1), (2, .int x2_4)] rfl ?_
      refine sm_goto hG 4 dX1_nextAfter_47 (by decide) ?_
      refine sm_loc [1, 2, 3, 0] [(0, .ref (Λ.2.2.2.1 (18, o, 0))), (1, .int x1), (2, .int x2_4), (3, .int (x3_4 + (1 : Int32)))] rfl ?_
      exact hs4 _ _
    · refine sm_iload_n hG 23 rfl dX1_nextAfter_22 rfl 2 rfl ?_
      refine sm_iconst (x := (-1 : Int32)) hG 24 rfl dX1_nextAfter_23 rfl ?_
      refine sm_icmp_eq hG 42 27 rfl dX1_nextAfter_24 (by decide) ?_ ?_
      · refine sm_iload_n hG 43 rfl dX1_nextAfter_42 rfl 3 rfl ?_
        refine sm_istore_n hG 44 rfl dX1_nextAfter_43 rfl (jlt hN rfl) [(2, .int x3_4), (0, .ref (Λ.2.2.2.1 (18, o, 0))), (1, .int x1), (3, .int x3_4)] rfl ?_
        refine sm_iinc hG 47 rfl dX1_nextAfter_44 (j := 3) rfl rfl (jlt hN rfl) [(3, .int (x3_4 + (1 : Int32))), (2, .int x3_4), (0, .ref (Λ.2.2.2.1 (18, o, 0))), (1, .int x1)] rfl ?_
        refine sm_goto hG 4 dX1_nextAfter_47 (by decide) ?_
        refine sm_loc [2, 3, 1, 0] [(0, .ref (Λ.2.2.2.1 (18, o, 0))), (1, .int x1), (2, .int x3_4), (3, .int (x3_4 + (1 : Int32)))] rfl ?_
        exact hs4 _ _
      · refine sm_aload_n hG 28 rfl dX1_nextAfter_27 rfl 0 rfl ?_
        refine gC18_1 hG hC ho 31 rfl u1 f15 dX1_nextAfter_28 ?_
        refine sm_iload_n hG 32 rfl dX1_nextAfter_31 rfl 3 rfl ?_
        refine lC19 hG hC ho 33 rfl dX1_nextAfter_32 ?_
        refine sm_aload_n hG 34 rfl dX1_nextAfter_33 rfl 0 rfl ?_
        refine gC18_1 hG hC ho 37 rfl u1 f15 dX1_nextAfter_34 ?_
        refine sm_iload_n hG 38 rfl dX1_nextAfter_37 rfl 2 rfl ?_
        refine lC19 hG hC ho 39 rfl dX1_nextAfter_38 ?_
        refine sm_icmp_ge hG 44 42 rfl dX1_nextAfter_39 (by decide) ?_ ?_
        · refine sm_iinc hG 47 rfl dX1_nextAfter_44 (j := 3) rfl rfl (jlt hN rfl) [(3, .int (x3_4 + (1 : Int32))), (0, .ref (Λ.2.2.2.1 (18, o, 0))), (1, .int x1), (2, .int x2_4)] rfl ?_
          refine sm_goto hG 4 dX1_nextAfter_47 (by decide) ?_
          refine sm_loc [1, 2, 3, 0] [(0, .ref (Λ.2.2.2.1 (18, o, 0))), (1, .int x1), (2, .int x2_4), (3, .int (x3_4 + (1 : Int32)))] rfl ?_
          exact hs4 _ _
        · refine sm_iload_n hG 43 rfl dX1_nextAfter_42 rfl 3 rfl ?_
          refine sm_istore_n hG 44 rfl dX1_nextAfter_43 rfl (jlt hN rfl) [(2, .int x3_4), (0, .ref (Λ.2.2.2.1 (18, o, 0))), (1, .int x1), (3, .int x3_4)] rfl ?_
          refine sm_iinc hG 47 rfl dX1_nextAfter_44 (j := 3) rfl rfl (jlt hN rfl) [(3, .int (x3_4 + (1 : Int32))), (2, .int x3_4), (0, .ref (Λ.2.2.2.1 (18, o, 0))), (1, .int x1)] rfl ?_
          refine sm_goto hG 4 dX1_nextAfter_47 (by decide) ?_
          refine sm_loc [2, 3, 1, 0] [(0, .ref (Λ.2.2.2.1 (18, o, 0))), (1, .int x1), (2, .int x3_4), (3, .int (x3_4 + (1 : Int32)))] rfl ?_
          exact hs4 _ _
abbrev rmX5_isBreakingOn : Room := { frames := 0, cells := 0, slots := 0, locals := 0 }
set_option maxRecDepth 100000 in
set_option maxHeartbeats 4000000 in
theorem c_X5_isBreakingOn {Λ : jL kC} (hC : LC Λ) {o : Nat} {x1 : Int32} {x2 : Int32} (ho : o < 7) {l : Launch} {v : mC} {r : Int32} (hr_ : f_X5_isBreakingOn o x1 x2 v = some r) : Ct l yX5_isBreakingOn wsX5_isBreakingOn rmX5_isBreakingOn Λ [.ref (Λ.2.2.2.1 (2, o, 0)), .int x1, .int x2] v (some (.int r)) v := by
  refine ct_of (cc := cX5_isBreakingOn) (maxL := 4) (ret := (some .boolean)) (fun (q : Int32) => (some (Value.int q), v)) hC.1 hr_ (by decide) rfl (Nat.le_of_ble_eq_true rfl) (fun Γ hG hT hN hl => ?_)
  subst hl
  have f28 : Cond.fieldLink RX5 28 "ChoirRegister$Roster" "breakDay" "[I" ∈ wsX5_isBreakingOn := by decide +kernel
  have u5 : ∀ w ∈ wsX50, w ∈ wsX5_isBreakingOn := by decide +kernel
  show Sm Γ Λ (0, 0) 0 [(0, .ref (Λ.2.2.2.1 (2, o, 0))), (1, .int x1), (2, .int x2)] [] v _
  unfold f_X5_isBreakingOn
  refine sm_aload_n hG 1 rfl dX5_isBreakingOn_0 rfl 0 rfl ?_
  refine gC2_5 hG hC ho 4 rfl u5 f28 dX5_isBreakingOn_1 ?_
  refine sm_iload_n hG 5 rfl dX5_isBreakingOn_4 rfl 1 rfl ?_
  refine lC7 hG hC ho 6 rfl dX5_isBreakingOn_5 ?_
  refine sm_istore_n hG 7 rfl dX5_isBreakingOn_6 rfl (jlt hN rfl) [(3, .int (v (7, o, 0) (ix x1))), (0, .ref (Λ.2.2.2.1 (2, o, 0))), (1, .int x1), (2, .int x2)] rfl ?_
  refine sm_iload_n hG 8 rfl dX5_isBreakingOn_7 rfl 0 rfl ?_
  refine sm_iconst (x := (-1 : Int32)) hG 9 rfl dX5_isBreakingOn_8 rfl ?_
  refine sm_icmp_eq hG 29 12 rfl dX5_isBreakingOn_9 (by decide) ?_ ?_
  · refine sm_iconst (x := (0 : Int32)) hG 30 rfl dX5_isBreakingOn_29 rfl ?_
    exact sm_bret hG hT ⟨Nat.zero_le _, Nat.zero_le _⟩ dX5_isBreakingOn_30 rfl
  · refine sm_iload_n hG 13 rfl dX5_isBreakingOn_12 rfl 3 rfl ?_
    refine sm_iload_n hG 14 rfl dX5_isBreakingOn_13 rfl 0 rfl ?_
    refine sm_icmp_lt hG 29 17 rfl dX5_isBreakingOn_14 (by decide) ?_ ?_
    · refine sm_iconst (x := (0 : Int32)) hG 30 rfl dX5_isBreakingOn_29 rfl ?_
      exact sm_bret hG hT ⟨Nat.zero_le _, Nat.zero_le _⟩ dX5_isBreakingOn_30 rfl
    · refine sm_iload_n hG 18 rfl dX5_isBreakingOn_17 rfl 3 rfl ?_
      refine sm_iload_n hG 19 rfl dX5_isBreakingOn_18 rfl 0 rfl ?_
      refine sm_bipush (x := (90 : Int32)) hG 21 rfl dX5_isBreakingOn_19 rfl ?_
      refine sm_iadd hG 22 rfl dX5_isBreakingOn_21 ?_
      refine sm_icmp_ge hG 29 25 rfl dX5_isBreakingOn_22 (by decide) ?_ ?_
      · refine sm_iconst (x := (0 : Int32)) hG 30 rfl dX5_isBreakingOn_29 rfl ?_
        exact sm_bret hG hT ⟨Nat.zero_le _, Nat.zero_le _⟩ dX5_isBreakingOn_30 rfl
      · refine sm_iconst (x := (1 : Int32)) hG 26 rfl dX5_isBreakingOn_25 rfl ?_
        refine sm_goto hG 30 dX5_isBreakingOn_26 (by decide) ?_
        exact sm_bret hG hT ⟨Nat.zero_le _, Nat.zero_le _⟩ dX5_isBreakingOn_30 rfl
abbrev rmX0_hindrance : Room := { frames := 1, cells := 0, slots := 0, locals := 24 }
set_option maxRecDepth 100000 in
set_option maxHeartbeats 4000000 in
theorem c_X0_hindrance {Λ : jL kC} (hC : LC Λ) {o : Nat} {x1 : Int32} {x2 : Int32} (ho : o < 7) {l : Launch} {v : mC} {r : Int32} (hr_ : f_X0_hindrance o x1 x2 v = some r) : Ct l yX0_hindrance wsX0_hindrance rmX0_hindrance Λ [.ref (Λ.2.2.2.1 (1, o, 0)), .int x1, .int x2] v (some (.int r)) v := by
  refine ct_of (cc := cX0_hindrance) (maxL := 3) (ret := (some .int)) (fun (q : Int32) => (some (Value.int q), v)) hC.1 hr_ (by decide) rfl (Nat.le_of_ble_eq_true rfl) (fun Γ hG hT hN hl => ?_)
  subst hl
  have f18 : Cond.fieldLink RX0 18 "ChoirRegister$Book" "roster" "LChoirRegister$Roster;" ∈ wsX0_hindrance := by decide +kernel
  have f25 : Cond.fieldLink RX0 25 "ChoirRegister$Book" "notes" "LChoirRegister$Notes;" ∈ wsX0_hindrance := by decide +kernel
  have u0 : ∀ w ∈ wsX00, w ∈ wsX0_hindrance := by decide +kernel
  show Sm Γ Λ (0, 0) 0 [(0, .ref (Λ.2.2.2.1 (1, o, 0))), (1, .int x1), (2, .int x2)] [] v _
  unfold f_X0_hindrance
  refine sm_aload_n hG 1 rfl dX0_hindrance_0 rfl 0 rfl ?_
  refine gC1_1 hG hC ho 4 rfl u0 f18 dX0_hindrance_1 ?_
  refine sm_iload_n hG 5 rfl dX0_hindrance_4 rfl 1 rfl ?_
  refine sm_iload_n hG 6 rfl dX0_hindrance_5 rfl 2 rfl ?_
  refine sm_callV hG (fun (q : Int32) => (some (Value.int q), v)) (2, o, 0) [.int x1, .int x2] 9 rfl (okb hC (by decide) ho) (ce_2 hC _) (ci := 5) rfl (fun r_ hr_ => c_X5_hasLeftBy hC ho  hr_) gX0_hindrance_X5_hasLeftBy rfl (by decide) (by decide) (n := 2) rfl (Nat.le_of_ble_eq_true rfl) (by decide) ⟨Nat.zero_le _, Nat.zero_le _⟩ rfl dX0_hindrance_6 (fun r_6 => ?_)
  refine sm_if_eq hG 14 12 rfl dX0_hindrance_9 (by decide) ?_ ?_
  · refine sm_aload_n hG 15 rfl dX0_hindrance_14 rfl 0 rfl ?_
    refine gC1_1 hG hC ho 18 rfl u0 f18 dX0_hindrance_15 ?_
    refine sm_iload_n hG 19 rfl dX0_hindrance_18 rfl 1 rfl ?_
    refine sm_iload_n hG 20 rfl dX0_hindrance_19 rfl 2 rfl ?_
    refine sm_callV hG (fun (q : Int32) => (some (Value.int q), v)) (2, o, 0) [.int x1, .int x2] 23 rfl (okb hC (by decide) ho) (ce_2 hC _) (ci := 5) rfl (fun r_ hr_ => c_X5_isAwayOn hC ho  hr_) gX0_hindrance_X5_isAwayOn rfl (by decide) (by decide) (n := 2) rfl (Nat.le_of_ble_eq_true rfl) (by decide) ⟨Nat.zero_le _, Nat.zero_le _⟩ rfl dX0_hindrance_20 (fun r_20 => ?_)
    refine sm_if_eq hG 28 26 rfl dX0_hindrance_23 (by decide) ?_ ?_
    · refine sm_aload_n hG 29 rfl dX0_hindrance_28 rfl 0 rfl ?_
      refine gC1_2 hG hC ho 32 rfl u0 f25 dX0_hindrance_29 ?_
      refine sm_iload_n hG 33 rfl dX0_hindrance_32 rfl 1 rfl ?_
      refine sm_iload_n hG 34 rfl dX0_hindrance_33 rfl 2 rfl ?_
      refine sm_iload_n hG 35 rfl dX0_hindrance_34 rfl 2 rfl ?_
      refine sm_callV hG (fun (q : Int32) => (some (Value.int q), v)) (14, o, 0) [.int x1, .int x2, .int x2] 38 rfl (okb hC (by decide) ho) (ce_14 hC _) (ci := 4) rfl (fun r_ hr_ => c_X4_coverAnyOf hC ho  hr_) gX0_hindrance_X4_coverAnyOf rfl (by decide) (by decide) (n := 3) rfl (Nat.le_of_ble_eq_true rfl) (by decide) ⟨Nat.zero_le _, Nat.zero_le _⟩ rfl dX0_hindrance_35 (fun r_35 => ?_)
      refine sm_if_eq hG 43 41 rfl dX0_hindrance_38 (by decide) ?_ ?_
      · refine sm_aload_n hG 44 rfl dX0_hindrance_43 rfl 0 rfl ?_
        refine gC1_1 hG hC ho 47 rfl u0 f18 dX0_hindrance_44 ?_
        refine sm_iload_n hG 48 rfl dX0_hindrance_47 rfl 1 rfl ?_
        refine sm_iload_n hG 49 rfl dX0_hindrance_48 rfl 2 rfl ?_
        refine sm_callV hG (fun (q : Int32) => (some (Value.int q), v)) (2, o, 0) [.int x1, .int x2] 52 rfl (okb hC (by decide) ho) (ce_2 hC _) (ci := 5) rfl (fun r_ hr_ => c_X5_isBreakingOn hC ho  hr_) gX0_hindrance_X5_isBreakingOn rfl (by decide) (by decide) (n := 2) rfl (Nat.le_of_ble_eq_true rfl) (by decide) ⟨Nat.zero_le _, Nat.zero_le _⟩ rfl dX0_hindrance_49 (fun r_49 => ?_)
        refine sm_if_eq hG 59 55 rfl dX0_hindrance_52 (by decide) ?_ ?_
        · refine sm_iconst (x := (0 : Int32)) hG 60 rfl dX0_hindrance_59 rfl ?_
          exact sm_iret hG hT ⟨Nat.zero_le _, Nat.zero_le _⟩ dX0_hindrance_60 rfl
        · refine sm_iconst (x := (4 : Int32)) hG 56 rfl dX0_hindrance_55 rfl ?_
          refine sm_goto hG 60 dX0_hindrance_56 (by decide) ?_
          exact sm_iret hG hT ⟨Nat.zero_le _, Nat.zero_le _⟩ dX0_hindrance_60 rfl
      · refine sm_iconst (x := (3 : Int32)) hG 42 rfl dX0_hindrance_41 rfl ?_
        exact sm_iret hG hT ⟨Nat.zero_le _, Nat.zero_le _⟩ dX0_hindrance_42 rfl
    · refine sm_iconst (x := (2 : Int32)) hG 27 rfl dX0_hindrance_26 rfl ?_
      exact sm_iret hG hT ⟨Nat.zero_le _, Nat.zero_le _⟩ dX0_hindrance_27 rfl
  · refine sm_iconst (x := (1 : Int32)) hG 13 rfl dX0_hindrance_12 rfl ?_
    exact sm_iret hG hT ⟨Nat.zero_le _, Nat.zero_le _⟩ dX0_hindrance_13 rfl
abbrev rmX5_noteOn : Room := { frames := 0, cells := 0, slots := 0, locals := 0 }
set_option maxRecDepth 100000 in
set_option maxHeartbeats 4000000 in
theorem c_X5_noteOn {Λ : jL kC} (hC : LC Λ) {o : Nat} {x1 : Int32} {x2 : Int32} {x3 : Int32} (ho : o < 7) {l : Launch} {v : mC} {r : Int32} (hr_ : f_X5_noteOn o x1 x2 x3 v = some r) : Ct l yX5_noteOn wsX5_noteOn rmX5_noteOn Λ [.ref (Λ.2.2.2.1 (2, o, 0)), .int x1, .int x2, .int x3] v (some (.int r)) v := by
  refine ct_of (cc := cX5_noteOn) (maxL := 5) (ret := (some .int)) (fun (q : Int32) => (some (Value.int q), v)) hC.1 hr_ (by decide) rfl (Nat.le_of_ble_eq_true rfl) (fun Γ hG hT hN hl => ?_)
  subst hl
  have f28 : Cond.fieldLink RX5 28 "ChoirRegister$Roster" "breakDay" "[I" ∈ wsX5_noteOn := by decide +kernel
  have u5 : ∀ w ∈ wsX50, w ∈ wsX5_noteOn := by decide +kernel
  show Sm Γ Λ (0, 0) 0 [(0, .ref (Λ.2.2.2.1 (2, o, 0))), (1, .int x1), (2, .int x2), (3, .int x3)] [] v _
  unfold f_X5_noteOn
  refine sm_aload_n hG 1 rfl dX5_noteOn_0 rfl 0 rfl ?_
  refine gC2_5 hG hC ho 4 rfl u5 f28 dX5_noteOn_1 ?_
  refine sm_iload_n hG 5 rfl dX5_noteOn_4 rfl 1 rfl ?_
  refine lC7 hG hC ho 6 rfl dX5_noteOn_5 ?_
  refine sm_istore hG 8 rfl dX5_noteOn_6 (jlt hN rfl) [(4, .int (v (7, o, 0) (ix x1))), (0, .ref (Λ.2.2.2.1 (2, o, 0))), (1, .int x1), (2, .int x2), (3, .int x3)] rfl ?_
  refine sm_iload hG 10 rfl dX5_noteOn_8 0 rfl ?_
  refine sm_iconst (x := (-1 : Int32)) hG 11 rfl dX5_noteOn_10 rfl ?_
  refine sm_icmp_eq hG 23 14 rfl dX5_noteOn_11 (by decide) ?_ ?_
  · refine sm_iload_n hG 24 rfl dX5_noteOn_23 rfl 4 rfl ?_
    exact sm_iret hG hT ⟨Nat.zero_le _, Nat.zero_le _⟩ dX5_noteOn_24 rfl
  · refine sm_iload_n hG 15 rfl dX5_noteOn_14 rfl 3 rfl ?_
    refine sm_iload hG 17 rfl dX5_noteOn_15 0 rfl ?_
    refine sm_bipush (x := (90 : Int32)) hG 19 rfl dX5_noteOn_17 rfl ?_
    refine sm_iadd hG 20 rfl dX5_noteOn_19 ?_
    refine sm_icmp_ge hG 25 23 rfl dX5_noteOn_20 (by decide) ?_ ?_
    · refine sm_iload_n hG 26 rfl dX5_noteOn_25 rfl 4 rfl ?_
      refine sm_bipush (x := (12 : Int32)) hG 28 rfl dX5_noteOn_26 rfl ?_
      refine sm_icmp_ge hG 35 31 rfl dX5_noteOn_28 (by decide) ?_ ?_
      · refine sm_iload_n hG 36 rfl dX5_noteOn_35 rfl 4 rfl ?_
        refine sm_bipush (x := (12 : Int32)) hG 38 rfl dX5_noteOn_36 rfl ?_
        refine sm_isub hG 39 rfl dX5_noteOn_38 ?_
        exact sm_iret hG hT ⟨Nat.zero_le _, Nat.zero_le _⟩ dX5_noteOn_39 rfl
      · refine sm_iconst (x := (0 : Int32)) hG 32 rfl dX5_noteOn_31 rfl ?_
        refine sm_goto hG 39 dX5_noteOn_32 (by decide) ?_
        exact sm_iret hG hT ⟨Nat.zero_le _, Nat.zero_le _⟩ dX5_noteOn_39 rfl
    · refine sm_iload_n hG 24 rfl dX5_noteOn_23 rfl 4 rfl ?_
      exact sm_iret hG hT ⟨Nat.zero_le _, Nat.zero_le _⟩ dX5_noteOn_24 rfl
abbrev rmX0_misfit : Room := { frames := 1, cells := 0, slots := 0, locals := 24 }
set_option maxRecDepth 100000 in
set_option maxHeartbeats 4000000 in
theorem c_X0_misfit {Λ : jL kC} (hC : LC Λ) {o : Nat} {x1 : Int32} {x2 : Int32} {x3 : Int32} (ho : o < 7) {l : Launch} {v : mC} {r : Int32} (hr_ : f_X0_misfit o x1 x2 x3 v = some r) : Ct l yX0_misfit wsX0_misfit rmX0_misfit Λ [.ref (Λ.2.2.2.1 (1, o, 0)), .int x1, .int x2, .int x3] v (some (.int r)) v := by
  refine ct_of (cc := cX0_misfit) (maxL := 5) (ret := (some .int)) (fun (q : Int32) => (some (Value.int q), v)) hC.1 hr_ (by decide) rfl (Nat.le_of_ble_eq_true rfl) (fun Γ hG hT hN hl => ?_)
  subst hl
  have f146 : Cond.fieldLink RX0 146 "ChoirRegister$Calendar" "lowest" "[[I" ∈ wsX0_misfit := by decide +kernel
  have f149 : Cond.fieldLink RX0 149 "ChoirRegister$Calendar" "highest" "[[I" ∈ wsX0_misfit := by decide +kernel
  have f158 : Cond.fieldLink RX0 158 "ChoirRegister$Calendar" "day" "[I" ∈ wsX0_misfit := by decide +kernel
  have f18 : Cond.fieldLink RX0 18 "ChoirRegister$Book" "roster" "LChoirRegister$Roster;" ∈ wsX0_misfit := by decide +kernel
  have f205 : Cond.fieldLink RX0 205 "ChoirRegister$Roster" "lowest" "[I" ∈ wsX0_misfit := by decide +kernel
  have f210 : Cond.fieldLink RX0 210 "ChoirRegister$Roster" "highest" "[I" ∈ wsX0_misfit := by decide +kernel
  have f32 : Cond.fieldLink RX0 32 "ChoirRegister$Book" "calendar" "LChoirRegister$Calendar;" ∈ wsX0_misfit := by decide +kernel
  have u0 : ∀ w ∈ wsX00, w ∈ wsX0_misfit := by decide +kernel
  have u1 : ∀ w ∈ wsX10, w ∈ wsX0_misfit := by decide +kernel
  have u5 : ∀ w ∈ wsX50, w ∈ wsX0_misfit := by decide +kernel
  show Sm Γ Λ (0, 0) 0 [(0, .ref (Λ.2.2.2.1 (1, o, 0))), (1, .int x1), (2, .int x2), (3, .int x3)] [] v _
  unfold f_X0_misfit
  refine sm_aload_n hG 1 rfl dX0_misfit_0 rfl 0 rfl ?_
  refine gC1_3 hG hC ho 4 rfl u0 f32 dX0_misfit_1 ?_
  refine gC18_1 hG hC ho 7 rfl u1 f158 dX0_misfit_4 ?_
  refine sm_iload_n hG 8 rfl dX0_misfit_7 rfl 1 rfl ?_
  refine lC19 hG hC ho 9 rfl dX0_misfit_8 ?_
  refine sm_istore hG 11 rfl dX0_misfit_9 (jlt hN rfl) [(4, .int (v (19, o, 0) (ix x1))), (0, .ref (Λ.2.2.2.1 (1, o, 0))), (1, .int x1), (2, .int x2), (3, .int x3)] rfl ?_
  refine sm_aload_n hG 12 rfl dX0_misfit_11 rfl 1 rfl ?_
  refine gC1_3 hG hC ho 15 rfl u0 f32 dX0_misfit_12 ?_
  refine gC18_5 hG hC ho 18 rfl u1 f146 dX0_misfit_15 ?_
  refine sm_iload_n hG 19 rfl dX0_misfit_18 rfl 2 rfl ?_
  refine lC23 hG hC ho 20 rfl dX0_misfit_19 (fun hf19_1 => ?_)
  refine sm_iload_n hG 21 rfl dX0_misfit_20 rfl 4 rfl ?_
  refine lC27 hG hC ho hf19_1 22 rfl dX0_misfit_21 ?_
  refine sm_aload_n hG 23 rfl dX0_misfit_22 rfl 1 rfl ?_
  refine gC1_1 hG hC ho 26 rfl u0 f18 dX0_misfit_23 ?_
  refine sm_iload_n hG 27 rfl dX0_misfit_26 rfl 3 rfl ?_
  refine sm_iload hG 29 rfl dX0_misfit_27 0 rfl ?_
  refine sm_aload_n hG 30 rfl dX0_misfit_29 rfl 1 rfl ?_
  refine gC1_1 hG hC ho 33 rfl u0 f18 dX0_misfit_30 ?_
  refine gC2_2 hG hC ho 36 rfl u5 f205 dX0_misfit_33 ?_
  refine sm_iload_n hG 37 rfl dX0_misfit_36 rfl 3 rfl ?_
  refine lC4 hG hC ho 38 rfl dX0_misfit_37 ?_
  refine sm_callV hG (fun (q : Int32) => (some (Value.int q), v)) (2, o, 0) [.int x2, .int (v (19, o, 0) (ix x1)), .int (v (4, o, 0) (ix x2))] 41 rfl (okb hC (by decide) ho) (ce_2 hC _) (ci := 5) rfl (fun r_ hr_ => c_X5_noteOn hC ho  hr_) gX0_misfit_X5_noteOn rfl (by decide) (by decide) (n := 3) rfl (Nat.le_of_ble_eq_true rfl) (by decide) ⟨Nat.zero_le _, Nat.zero_le _⟩ rfl dX0_misfit_38 (fun r_38 => ?_)
  refine sm_icmp_ge hG 46 44 rfl dX0_misfit_41 (by decide) ?_ ?_
  · refine sm_aload_n hG 47 rfl dX0_misfit_46 rfl 1 rfl ?_
    refine gC1_3 hG hC ho 50 rfl u0 f32 dX0_misfit_47 ?_
    refine gC18_6 hG hC ho 53 rfl u1 f149 dX0_misfit_50 ?_
    refine sm_iload_n hG 54 rfl dX0_misfit_53 rfl 2 rfl ?_
    refine lC24 hG hC ho 55 rfl dX0_misfit_54 (fun hf54_2 => ?_)
    refine sm_iload_n hG 56 rfl dX0_misfit_55 rfl 4 rfl ?_
    refine lC28 hG hC ho hf54_2 57 rfl dX0_misfit_56 ?_
    refine sm_aload_n hG 58 rfl dX0_misfit_57 rfl 1 rfl ?_
    refine gC1_1 hG hC ho 61 rfl u0 f18 dX0_misfit_58 ?_
    refine sm_iload_n hG 62 rfl dX0_misfit_61 rfl 3 rfl ?_
    refine sm_iload hG 64 rfl dX0_misfit_62 0 rfl ?_
    refine sm_aload_n hG 65 rfl dX0_misfit_64 rfl 1 rfl ?_
    refine gC1_1 hG hC ho 68 rfl u0 f18 dX0_misfit_65 ?_
    refine gC2_3 hG hC ho 71 rfl u5 f210 dX0_misfit_68 ?_
    refine sm_iload_n hG 72 rfl dX0_misfit_71 rfl 3 rfl ?_
    refine lC5 hG hC ho 73 rfl dX0_misfit_72 ?_
    refine sm_callV hG (fun (q : Int32) => (some (Value.int q), v)) (2, o, 0) [.int x2, .int (v (19, o, 0) (ix x1)), .int (v (5, o, 0) (ix x2))] 76 rfl (okb hC (by decide) ho) (ce_2 hC _) (ci := 5) rfl (fun r_ hr_ => c_X5_noteOn hC ho  hr_) gX0_misfit_X5_noteOn rfl (by decide) (by decide) (n := 3) rfl (Nat.le_of_ble_eq_true rfl) (by decide) ⟨Nat.zero_le _, Nat.zero_le _⟩ rfl dX0_misfit_73 (fun r_73 => ?_)
    refine sm_icmp_le hG 84 79 rfl dX0_misfit_76 (by decide) ?_ ?_
    · refine sm_iconst (x := (0 : Int32)) hG 85 rfl dX0_misfit_84 rfl ?_
      exact sm_iret hG hT ⟨Nat.zero_le _, Nat.zero_le _⟩ dX0_misfit_85 rfl
    · refine sm_bipush (x := (6 : Int32)) hG 81 rfl dX0_misfit_79 rfl ?_
      refine sm_goto hG 85 dX0_misfit_81 (by decide) ?_
      exact sm_iret hG hT ⟨Nat.zero_le _, Nat.zero_le _⟩ dX0_misfit_85 rfl
  · refine sm_iconst (x := (5 : Int32)) hG 45 rfl dX0_misfit_44 rfl ?_
    exact sm_iret hG hT ⟨Nat.zero_le _, Nat.zero_le _⟩ dX0_misfit_45 rfl
abbrev rmX3_listWhoCanSing : Room := { frames := 2, cells := 0, slots := 0, locals := 48 }
set_option maxRecDepth 100000 in
set_option maxHeartbeats 4000000 in
theorem c_X3_listWhoCanSing {Λ : jL kC} (hC : LC Λ) {o : Nat} {x2 : Int32} (ho : o < 7) {l : Launch} {v : mC} {r : mC} (hr_ : f_X3_listWhoCanSing o x2 v = some r) : Ct l yX3_listWhoCanSing wsX3_listWhoCanSing rmX3_listWhoCanSing Λ [.ref (Λ.2.2.2.1 (35, 0, 0)), .ref (Λ.2.2.2.1 (1, o, 0)), .int x2] v none r := by
  refine ct_of (cc := cX3_listWhoCanSing) (maxL := 5) (ret := none) (fun (w : mC) => ((none : Option Value), w)) hC.1 hr_ (by decide) rfl (Nat.le_of_ble_eq_true rfl) (fun Γ hG hT hN hl => ?_)
  subst hl
  have f15 : Cond.fieldLink RX3 15 "ChoirRegister$Lineup" "canSing" "[I" ∈ wsX3_listWhoCanSing := by decide +kernel
  have f33 : Cond.fieldLink RX3 33 "ChoirRegister$Book" "calendar" "LChoirRegister$Calendar;" ∈ wsX3_listWhoCanSing := by decide +kernel
  have f65 : Cond.fieldLink RX3 65 "ChoirRegister$Book" "roster" "LChoirRegister$Roster;" ∈ wsX3_listWhoCanSing := by decide +kernel
  have f69 : Cond.fieldLink RX3 69 "ChoirRegister$Roster" "count" "I" ∈ wsX3_listWhoCanSing := by decide +kernel
  have f91 : Cond.fieldLink RX3 91 "ChoirRegister$Calendar" "day" "[I" ∈ wsX3_listWhoCanSing := by decide +kernel
  have u0 : ∀ w ∈ wsX00, w ∈ wsX3_listWhoCanSing := by decide +kernel
  have u1 : ∀ w ∈ wsX10, w ∈ wsX3_listWhoCanSing := by decide +kernel
  have u3 : ∀ w ∈ wsX30, w ∈ wsX3_listWhoCanSing := by decide +kernel
  have u5 : ∀ w ∈ wsX50, w ∈ wsX3_listWhoCanSing := by decide +kernel
  show Sm Γ Λ (0, 0) 0 [(0, .ref (Λ.2.2.2.1 (35, 0, 0))), (1, .ref (Λ.2.2.2.1 (1, o, 0))), (2, .int x2)] [] v _
  unfold f_X3_listWhoCanSing
  refine sm_iconst (x := (0 : Int32)) hG 1 rfl dX3_listWhoCanSing_0 rfl ?_
  refine sm_istore_n hG 2 rfl dX3_listWhoCanSing_1 rfl (jlt hN rfl) [(3, .int (0 : Int32)), (0, .ref (Λ.2.2.2.1 (35, 0, 0))), (1, .ref (Λ.2.2.2.1 (1, o, 0))), (2, .int x2)] rfl ?_
  refine sm_loc [1, 2, 3, 0] [(0, .ref (Λ.2.2.2.1 (35, 0, 0))), (1, .ref (Λ.2.2.2.1 (1, o, 0))), (2, .int x2), (3, .int (0 : Int32))] rfl ?_
  refine lp_ind (fun (X2 : Int32 → mC → Option mC) => ∀ (x3_2 : Int32) (v_2 : mC), Sm Γ Λ (0, 0) 2 [(0, .ref (Λ.2.2.2.1 (35, 0, 0))), (1, .ref (Λ.2.2.2.1 (1, o, 0))), (2, .int x2), (3, .int x3_2)] [] v_2 (X2 x3_2 v_2)) (fun _ _ => sm_none) (fun self2 hs2 x3_2 v_2 => ?_) 8192 _ _
  refine sm_iload_n hG 3 rfl dX3_listWhoCanSing_2 rfl 3 rfl ?_
  refine sm_aload_n hG 4 rfl dX3_listWhoCanSing_3 rfl 1 rfl ?_
  refine gC1_1 hG hC ho 7 rfl u0 f65 dX3_listWhoCanSing_4 ?_
  refine gC2_0 hG hC ho 10 rfl u5 f69 dX3_listWhoCanSing_7 ?_
  refine sm_icmp_ge hG 85 13 rfl dX3_listWhoCanSing_10 (by decide) ?_ ?_
  · exact sm_vret hG hT ⟨Nat.zero_le _, Nat.zero_le _⟩ dX3_listWhoCanSing_85 rfl
  · refine sm_aload_n hG 14 rfl dX3_listWhoCanSing_13 rfl 0 rfl ?_
    refine gC35_1 hG hC  17 rfl u3 f15 dX3_listWhoCanSing_14 ?_
    refine sm_iload_n hG 18 rfl dX3_listWhoCanSing_17 rfl 3 rfl ?_
    refine sm_iconst (x := (0 : Int32)) hG 19 rfl dX3_listWhoCanSing_18 rfl ?_
    refine sC37 hG hC  20 rfl dX3_listWhoCanSing_19 ?_
    refine sm_nmv (fun w19_1 => ?_)
    refine sm_aload_n hG 21 rfl dX3_listWhoCanSing_20 rfl 1 rfl ?_
    refine sm_iload_n hG 22 rfl dX3_listWhoCanSing_21 rfl 3 rfl ?_
    refine sm_aload_n hG 23 rfl dX3_listWhoCanSing_22 rfl 1 rfl ?_
    refine gC1_3 hG hC ho 26 rfl u0 f33 dX3_listWhoCanSing_23 ?_
    refine gC18_1 hG hC ho 29 rfl u1 f91 dX3_listWhoCanSing_26 ?_
    refine sm_iload_n hG 30 rfl dX3_listWhoCanSing_29 rfl 2 rfl ?_
    refine lC19 hG hC ho 31 rfl dX3_listWhoCanSing_30 ?_
    refine sm_callV hG (fun (q : Int32) => (some (Value.int q), w19_1)) (1, o, 0) [.int x3_2, .int (w19_1 (19, o, 0) (ix x2))] 34 rfl (okb hC (by decide) ho) (ce_1 hC _) (ci := 0) rfl (fun r_ hr_ => c_X0_hindrance hC ho  hr_) gX3_listWhoCanSing_X0_hindrance rfl (by decide) (by decide) (n := 2) rfl (Nat.le_of_ble_eq_true rfl) (by decide) ⟨Nat.zero_le _, Nat.zero_le _⟩ rfl dX3_listWhoCanSing_31 (fun r_31 => ?_)
    refine sm_if_eq hG 40 37 rfl dX3_listWhoCanSing_34 (by decide) ?_ ?_
    · refine sm_iconst (x := (0 : Int32)) hG 41 rfl dX3_listWhoCanSing_40 rfl ?_
      refine sm_istore hG 43 rfl dX3_listWhoCanSing_41 (jlt hN rfl) [(4, .int (0 : Int32)), (0, .ref (Λ.2.2.2.1 (35, 0, 0))), (1, .ref (Λ.2.2.2.1 (1, o, 0))), (2, .int x2), (3, .int x3_2)] rfl ?_
      refine sm_loc [1, 2, 3, 4, 0] [(0, .ref (Λ.2.2.2.1 (35, 0, 0))), (1, .ref (Λ.2.2.2.1 (1, o, 0))), (2, .int x2), (3, .int x3_2), (4, .int (0 : Int32))] rfl ?_
      refine lp_ind (fun (X43 : Int32 → mC → Option mC) => ∀ (x4_43 : Int32) (v_43 : mC), Sm Γ Λ (0, 0) 43 [(0, .ref (Λ.2.2.2.1 (35, 0, 0))), (1, .ref (Λ.2.2.2.1 (1, o, 0))), (2, .int x2), (3, .int x3_2), (4, .int x4_43)] [] v_43 (X43 x4_43 v_43)) (fun _ _ => sm_none) (fun self43 hs43 x4_43 v_43 => ?_) 8192 _ _
      refine sm_iload hG 45 rfl dX3_listWhoCanSing_43 4 rfl ?_
      refine sm_iconst (x := (4 : Int32)) hG 46 rfl dX3_listWhoCanSing_45 rfl ?_
      refine sm_icmp_ge hG 79 49 rfl dX3_listWhoCanSing_46 (by decide) ?_ ?_
      · refine sm_iinc hG 82 rfl dX3_listWhoCanSing_79 (j := 3) rfl rfl (jlt hN rfl) [(3, .int (x3_2 + (1 : Int32))), (0, .ref (Λ.2.2.2.1 (35, 0, 0))), (1, .ref (Λ.2.2.2.1 (1, o, 0))), (2, .int x2), (4, .int x4_43)] rfl ?_
        refine sm_goto hG 2 dX3_listWhoCanSing_82 (by decide) ?_
        refine sm_loc [1, 2, 3, 0] [(0, .ref (Λ.2.2.2.1 (35, 0, 0))), (1, .ref (Λ.2.2.2.1 (1, o, 0))), (2, .int x2), (3, .int (x3_2 + (1 : Int32)))] rfl ?_
        exact hs2 _ _
      · refine sm_aload_n hG 50 rfl dX3_listWhoCanSing_49 rfl 1 rfl ?_
        refine sm_iload_n hG 51 rfl dX3_listWhoCanSing_50 rfl 2 rfl ?_
        refine sm_iload_n hG 52 rfl dX3_listWhoCanSing_51 rfl 3 rfl ?_
        refine sm_iload hG 54 rfl dX3_listWhoCanSing_52 4 rfl ?_
        refine sm_callV hG (fun (q : Int32) => (some (Value.int q), v_43)) (1, o, 0) [.int x2, .int x3_2, .int x4_43] 57 rfl (okb hC (by decide) ho) (ce_1 hC _) (ci := 0) rfl (fun r_ hr_ => c_X0_misfit hC ho  hr_) gX3_listWhoCanSing_X0_misfit rfl (by decide) (by decide) (n := 3) rfl (Nat.le_of_ble_eq_true rfl) (by decide) ⟨Nat.zero_le _, Nat.zero_le _⟩ rfl dX3_listWhoCanSing_54 (fun r_54 => ?_)
        refine sm_if_ne hG 73 60 rfl dX3_listWhoCanSing_57 (by decide) ?_ ?_
        · refine sm_iinc hG 76 rfl dX3_listWhoCanSing_73 (j := 4) rfl rfl (jlt hN rfl) [(4, .int (x4_43 + (1 : Int32))), (0, .ref (Λ.2.2.2.1 (35, 0, 0))), (1, .ref (Λ.2.2.2.1 (1, o, 0))), (2, .int x2), (3, .int x3_2)] rfl ?_
          refine sm_goto hG 43 dX3_listWhoCanSing_76 (by decide) ?_
          refine sm_loc [1, 2, 3, 4, 0] [(0, .ref (Λ.2.2.2.1 (35, 0, 0))), (1, .ref (Λ.2.2.2.1 (1, o, 0))), (2, .int x2), (3, .int x3_2), (4, .int (x4_43 + (1 : Int32)))] rfl ?_
          exact hs43 _ _
        · refine sm_aload_n hG 61 rfl dX3_listWhoCanSing_60 rfl 0 rfl ?_
          refine gC35_1 hG hC  64 rfl u3 f15 dX3_listWhoCanSing_61 ?_
          refine sm_iload_n hG 65 rfl dX3_listWhoCanSing_64 rfl 3 rfl ?_
          refine sm_dup2 hG 66 rfl dX3_listWhoCanSing_65 rfl rfl ?_
          refine lC37 hG hC  67 rfl dX3_listWhoCanSing_66 ?_
          refine sm_iconst (x := (1 : Int32)) hG 68 rfl dX3_listWhoCanSing_67 rfl ?_
          refine sm_iload hG 70 rfl dX3_listWhoCanSing_68 4 rfl ?_
          refine sm_ishl hG 71 rfl dX3_listWhoCanSing_70 ?_
          refine sm_ior hG 72 rfl dX3_listWhoCanSing_71 ?_
          refine sm_nmi (fun y71_2 => ?_)
          refine sC37 hG hC  73 rfl dX3_listWhoCanSing_72 ?_
          refine sm_nmv (fun w72_3 => ?_)
          refine sm_iinc hG 76 rfl dX3_listWhoCanSing_73 (j := 4) rfl rfl (jlt hN rfl) [(4, .int (x4_43 + (1 : Int32))), (0, .ref (Λ.2.2.2.1 (35, 0, 0))), (1, .ref (Λ.2.2.2.1 (1, o, 0))), (2, .int x2), (3, .int x3_2)] rfl ?_
          refine sm_goto hG 43 dX3_listWhoCanSing_76 (by decide) ?_
          refine sm_loc [1, 2, 3, 4, 0] [(0, .ref (Λ.2.2.2.1 (35, 0, 0))), (1, .ref (Λ.2.2.2.1 (1, o, 0))), (2, .int x2), (3, .int x3_2), (4, .int (x4_43 + (1 : Int32)))] rfl ?_
          exact hs43 _ _
    · refine sm_goto hG 79 dX3_listWhoCanSing_37 (by decide) ?_
      refine sm_iinc hG 82 rfl dX3_listWhoCanSing_79 (j := 3) rfl rfl (jlt hN rfl) [(3, .int (x3_2 + (1 : Int32))), (0, .ref (Λ.2.2.2.1 (35, 0, 0))), (1, .ref (Λ.2.2.2.1 (1, o, 0))), (2, .int x2)] rfl ?_
      refine sm_goto hG 2 dX3_listWhoCanSing_82 (by decide) ?_
      refine sm_loc [1, 2, 3, 0] [(0, .ref (Λ.2.2.2.1 (35, 0, 0))), (1, .ref (Λ.2.2.2.1 (1, o, 0))), (2, .int x2), (3, .int (x3_2 + (1 : Int32)))] rfl ?_
      exact hs2 _ _
abbrev rmX3_countWhoCanSing : Room := { frames := 0, cells := 0, slots := 0, locals := 0 }
set_option maxRecDepth 100000 in
set_option maxHeartbeats 4000000 in
theorem c_X3_countWhoCanSing {Λ : jL kC} (hC : LC Λ) {x1 : Int32} {x2 : Int32}  {l : Launch} {v : mC} {r : Int32} (hr_ : f_X3_countWhoCanSing x1 x2 v = some r) : Ct l yX3_countWhoCanSing wsX3_countWhoCanSing rmX3_countWhoCanSing Λ [.ref (Λ.2.2.2.1 (35, 0, 0)), .int x1, .int x2] v (some (.int r)) v := by
  refine ct_of (cc := cX3_countWhoCanSing) (maxL := 5) (ret := (some .int)) (fun (q : Int32) => (some (Value.int q), v)) hC.1 hr_ (by decide) rfl (Nat.le_of_ble_eq_true rfl) (fun Γ hG hT hN hl => ?_)
  subst hl
  have f15 : Cond.fieldLink RX3 15 "ChoirRegister$Lineup" "canSing" "[I" ∈ wsX3_countWhoCanSing := by decide +kernel
  have u3 : ∀ w ∈ wsX30, w ∈ wsX3_countWhoCanSing := by decide +kernel
  show Sm Γ Λ (0, 0) 0 [(0, .ref (Λ.2.2.2.1 (35, 0, 0))), (1, .int x1), (2, .int x2)] [] v _
  unfold f_X3_countWhoCanSing
  refine sm_iconst (x := (0 : Int32)) hG 1 rfl dX3_countWhoCanSing_0 rfl ?_
  refine sm_istore_n hG 2 rfl dX3_countWhoCanSing_1 rfl (jlt hN rfl) [(3, .int (0 : Int32)), (0, .ref (Λ.2.2.2.1 (35, 0, 0))), (1, .int x1), (2, .int x2)] rfl ?_
  refine sm_iconst (x := (0 : Int32)) hG 3 rfl dX3_countWhoCanSing_2 rfl ?_
  refine sm_istore hG 5 rfl dX3_countWhoCanSing_3 (jlt hN rfl) [(4, .int (0 : Int32)), (3, .int (0 : Int32)), (0, .ref (Λ.2.2.2.1 (35, 0, 0))), (1, .int x1), (2, .int x2)] rfl ?_
  refine sm_loc [2, 3, 4, 1, 0] [(0, .ref (Λ.2.2.2.1 (35, 0, 0))), (1, .int x1), (2, .int x2), (3, .int (0 : Int32)), (4, .int (0 : Int32))] rfl ?_
  refine lp_ind (fun (X5 : Int32 → Int32 → Option Int32) => ∀ (x3_5 : Int32) (x4_5 : Int32), Sm Γ Λ (0, 0) 5 [(0, .ref (Λ.2.2.2.1 (35, 0, 0))), (1, .int x1), (2, .int x2), (3, .int x3_5), (4, .int x4_5)] [] v (X5 x3_5 x4_5)) (fun _ _ => sm_none) (fun self5 hs5 x3_5 x4_5 => ?_) 8192 _ _
  refine sm_iload hG 7 rfl dX3_countWhoCanSing_5 4 rfl ?_
  refine sm_iload_n hG 8 rfl dX3_countWhoCanSing_7 rfl 2 rfl ?_
  refine sm_icmp_ge hG 32 11 rfl dX3_countWhoCanSing_8 (by decide) ?_ ?_
  · refine sm_iload_n hG 33 rfl dX3_countWhoCanSing_32 rfl 3 rfl ?_
    exact sm_iret hG hT ⟨Nat.zero_le _, Nat.zero_le _⟩ dX3_countWhoCanSing_33 rfl
  · refine sm_aload_n hG 12 rfl dX3_countWhoCanSing_11 rfl 0 rfl ?_
    refine gC35_1 hG hC  15 rfl u3 f15 dX3_countWhoCanSing_12 ?_
    refine sm_iload hG 17 rfl dX3_countWhoCanSing_15 4 rfl ?_
    refine lC37 hG hC  18 rfl dX3_countWhoCanSing_17 ?_
    refine sm_iload_n hG 19 rfl dX3_countWhoCanSing_18 rfl 1 rfl ?_
    refine sm_iand hG 20 rfl dX3_countWhoCanSing_19 ?_
    refine sm_if_eq hG 26 23 rfl dX3_countWhoCanSing_20 (by decide) ?_ ?_
    · refine sm_iinc hG 29 rfl dX3_countWhoCanSing_26 (j := 4) rfl rfl (jlt hN rfl) [(4, .int (x4_5 + (1 : Int32))), (0, .ref (Λ.2.2.2.1 (35, 0, 0))), (1, .int x1), (2, .int x2), (3, .int x3_5)] rfl ?_
      refine sm_goto hG 5 dX3_countWhoCanSing_29 (by decide) ?_
      refine sm_loc [1, 2, 3, 4, 0] [(0, .ref (Λ.2.2.2.1 (35, 0, 0))), (1, .int x1), (2, .int x2), (3, .int x3_5), (4, .int (x4_5 + (1 : Int32)))] rfl ?_
      exact hs5 _ _
    · refine sm_iinc hG 26 rfl dX3_countWhoCanSing_23 (j := 3) rfl rfl (jlt hN rfl) [(3, .int (x3_5 + (1 : Int32))), (0, .ref (Λ.2.2.2.1 (35, 0, 0))), (1, .int x1), (2, .int x2), (4, .int x4_5)] rfl ?_
      refine sm_iinc hG 29 rfl dX3_countWhoCanSing_26 (j := 4) rfl rfl (jlt hN rfl) [(4, .int (x4_5 + (1 : Int32))), (3, .int (x3_5 + (1 : Int32))), (0, .ref (Λ.2.2.2.1 (35, 0, 0))), (1, .int x1), (2, .int x2)] rfl ?_
      refine sm_goto hG 5 dX3_countWhoCanSing_29 (by decide) ?_
      refine sm_loc [2, 3, 4, 1, 0] [(0, .ref (Λ.2.2.2.1 (35, 0, 0))), (1, .int x1), (2, .int x2), (3, .int (x3_5 + (1 : Int32))), (4, .int (x4_5 + (1 : Int32)))] rfl ?_
      exact hs5 _ _
abbrev rmX3_contains : Room := { frames := 0, cells := 0, slots := 0, locals := 0 }
set_option maxRecDepth 100000 in
set_option maxHeartbeats 4000000 in
theorem c_X3_contains {Λ : jL kC} (hC : LC Λ) {x0 : Int32} {x1 : Int32}  {l : Launch} {v : mC} {r : Int32} (hr_ : f_X3_contains x0 x1 v = some r) : Ct l yX3_contains wsX3_contains rmX3_contains Λ [.int x0, .int x1] v (some (.int r)) v := by
  refine ct_of (cc := cX3_contains) (maxL := 2) (ret := (some .boolean)) (fun (q : Int32) => (some (Value.int q), v)) hC.1 hr_ (by decide) rfl (Nat.le_of_ble_eq_true rfl) (fun Γ hG hT hN hl => ?_)
  subst hl
  show Sm Γ Λ (0, 0) 0 [(0, .int x0), (1, .int x1)] [] v _
  unfold f_X3_contains
  refine sm_iload_n hG 1 rfl dX3_contains_0 rfl 0 rfl ?_
  refine sm_iconst (x := (1 : Int32)) hG 2 rfl dX3_contains_1 rfl ?_
  refine sm_iload_n hG 3 rfl dX3_contains_2 rfl 1 rfl ?_
  refine sm_ishl hG 4 rfl dX3_contains_3 ?_
  refine sm_iand hG 5 rfl dX3_contains_4 ?_
  refine sm_if_eq hG 12 8 rfl dX3_contains_5 (by decide) ?_ ?_
  · refine sm_iconst (x := (0 : Int32)) hG 13 rfl dX3_contains_12 rfl ?_
    exact sm_bret hG hT ⟨Nat.zero_le _, Nat.zero_le _⟩ dX3_contains_13 rfl
  · refine sm_iconst (x := (1 : Int32)) hG 9 rfl dX3_contains_8 rfl ?_
    refine sm_goto hG 13 dX3_contains_9 (by decide) ?_
    exact sm_bret hG hT ⟨Nat.zero_le _, Nat.zero_le _⟩ dX3_contains_13 rfl
abbrev rmX3_setBounds : Room := { frames := 1, cells := 0, slots := 0, locals := 24 }
set_option maxRecDepth 100000 in
set_option maxHeartbeats 4000000 in
theorem c_X3_setBounds {Λ : jL kC} (hC : LC Λ) {x1 : Int32}  {l : Launch} {v : mC} {r : mC} (hr_ : f_X3_setBounds x1 v = some r) : Ct l yX3_setBounds wsX3_setBounds rmX3_setBounds Λ [.ref (Λ.2.2.2.1 (35, 0, 0)), .int x1] v none r := by
  refine ct_of (cc := cX3_setBounds) (maxL := 4) (ret := none) (fun (w : mC) => ((none : Option Value), w)) hC.1 hr_ (by decide) rfl (Nat.le_of_ble_eq_true rfl) (fun Γ hG hT hN hl => ?_)
  subst hl
  have f18 : Cond.fieldLink RX3 18 "ChoirRegister$Lineup" "open" "[I" ∈ wsX3_setBounds := by decide +kernel
  have f21 : Cond.fieldLink RX3 21 "ChoirRegister$Lineup" "bounds" "[I" ∈ wsX3_setBounds := by decide +kernel
  have u3 : ∀ w ∈ wsX30, w ∈ wsX3_setBounds := by decide +kernel
  show Sm Γ Λ (0, 0) 0 [(0, .ref (Λ.2.2.2.1 (35, 0, 0))), (1, .int x1)] [] v _
  unfold f_X3_setBounds
  refine sm_iconst (x := (0 : Int32)) hG 1 rfl dX3_setBounds_0 rfl ?_
  refine sm_istore_n hG 2 rfl dX3_setBounds_1 rfl (jlt hN rfl) [(2, .int (0 : Int32)), (0, .ref (Λ.2.2.2.1 (35, 0, 0))), (1, .int x1)] rfl ?_
  refine sm_loc [1, 2, 0] [(0, .ref (Λ.2.2.2.1 (35, 0, 0))), (1, .int x1), (2, .int (0 : Int32))] rfl ?_
  refine lp_ind (fun (X2 : Int32 → mC → Option mC) => ∀ (x2_2 : Int32) (v_2 : mC), Sm Γ Λ (0, 0) 2 [(0, .ref (Λ.2.2.2.1 (35, 0, 0))), (1, .int x1), (2, .int x2_2)] [] v_2 (X2 x2_2 v_2)) (fun _ _ => sm_none) (fun self2 hs2 x2_2 v_2 => ?_) 8192 _ _
  refine sm_iload_n hG 3 rfl dX3_setBounds_2 rfl 2 rfl ?_
  refine sm_bipush (x := (16 : Int32)) hG 5 rfl dX3_setBounds_3 rfl ?_
  refine sm_icmp_ge hG 62 8 rfl dX3_setBounds_5 (by decide) ?_ ?_
  · exact sm_vret hG hT ⟨Nat.zero_le _, Nat.zero_le _⟩ dX3_setBounds_62 rfl
  · refine sm_aload_n hG 9 rfl dX3_setBounds_8 rfl 0 rfl ?_
    refine gC35_3 hG hC  12 rfl u3 f21 dX3_setBounds_9 ?_
    refine sm_iload_n hG 13 rfl dX3_setBounds_12 rfl 2 rfl ?_
    refine sm_aload_n hG 14 rfl dX3_setBounds_13 rfl 0 rfl ?_
    refine sm_iload_n hG 15 rfl dX3_setBounds_14 rfl 2 rfl ?_
    refine sm_iload_n hG 16 rfl dX3_setBounds_15 rfl 1 rfl ?_
    refine sm_callV hG (fun (q : Int32) => (some (Value.int q), v_2)) (35, 0, 0) [.int x2_2, .int x1] 19 rfl (oks hC (by decide)) (ce_35 hC _) (ci := 3) rfl (fun r_ hr_ => c_X3_countWhoCanSing hC   hr_) gX3_setBounds_X3_countWhoCanSing rfl (by decide) (by decide) (n := 2) rfl (Nat.le_of_ble_eq_true rfl) (by decide) ⟨Nat.zero_le _, Nat.zero_le _⟩ rfl dX3_setBounds_16 (fun r_16 => ?_)
    refine sC39 hG hC  20 rfl dX3_setBounds_19 ?_
    refine sm_nmv (fun w19_1 => ?_)
    refine sm_iconst (x := (0 : Int32)) hG 21 rfl dX3_setBounds_20 rfl ?_
    refine sm_istore_n hG 22 rfl dX3_setBounds_21 rfl (jlt hN rfl) [(3, .int (0 : Int32)), (0, .ref (Λ.2.2.2.1 (35, 0, 0))), (1, .int x1), (2, .int x2_2)] rfl ?_
    refine sm_loc [1, 2, 3, 0] [(0, .ref (Λ.2.2.2.1 (35, 0, 0))), (1, .int x1), (2, .int x2_2), (3, .int (0 : Int32))] rfl ?_
    refine lp_ind (fun (X22 : Int32 → mC → Option mC) => ∀ (x3_22 : Int32) (v_22 : mC), Sm Γ Λ (0, 0) 22 [(0, .ref (Λ.2.2.2.1 (35, 0, 0))), (1, .int x1), (2, .int x2_2), (3, .int x3_22)] [] v_22 (X22 x3_22 v_22)) (fun _ _ => sm_none) (fun self22 hs22 x3_22 v_22 => ?_) 8192 _ _
    refine sm_iload_n hG 23 rfl dX3_setBounds_22 rfl 3 rfl ?_
    refine sm_iconst (x := (4 : Int32)) hG 24 rfl dX3_setBounds_23 rfl ?_
    refine sm_icmp_ge hG 56 27 rfl dX3_setBounds_24 (by decide) ?_ ?_
    · refine sm_iinc hG 59 rfl dX3_setBounds_56 (j := 2) rfl rfl (jlt hN rfl) [(2, .int (x2_2 + (1 : Int32))), (0, .ref (Λ.2.2.2.1 (35, 0, 0))), (1, .int x1), (3, .int x3_22)] rfl ?_
      refine sm_goto hG 2 dX3_setBounds_59 (by decide) ?_
      refine sm_loc [1, 2, 0] [(0, .ref (Λ.2.2.2.1 (35, 0, 0))), (1, .int x1), (2, .int (x2_2 + (1 : Int32)))] rfl ?_
      exact hs2 _ _
    · refine sm_iload_n hG 28 rfl dX3_setBounds_27 rfl 2 rfl ?_
      refine sm_iload_n hG 29 rfl dX3_setBounds_28 rfl 3 rfl ?_
      refine sm_callS hG (fun (q : Int32) => (some (Value.int q), v_22)) [.int x2_2, .int x3_22] 32 rfl (fun r_ hr_ => c_X3_contains hC   hr_) gX3_setBounds_X3_contains rfl (by decide) (by decide) (n := 2) rfl (Nat.le_of_ble_eq_true rfl) (by decide) ⟨Nat.zero_le _, Nat.zero_le _⟩ rfl dX3_setBounds_29 (fun r_29 => ?_)
      refine sm_if_ne hG 50 35 rfl dX3_setBounds_32 (by decide) ?_ ?_
      · refine sm_iinc hG 53 rfl dX3_setBounds_50 (j := 3) rfl rfl (jlt hN rfl) [(3, .int (x3_22 + (1 : Int32))), (0, .ref (Λ.2.2.2.1 (35, 0, 0))), (1, .int x1), (2, .int x2_2)] rfl ?_
        refine sm_goto hG 22 dX3_setBounds_53 (by decide) ?_
        refine sm_loc [1, 2, 3, 0] [(0, .ref (Λ.2.2.2.1 (35, 0, 0))), (1, .int x1), (2, .int x2_2), (3, .int (x3_22 + (1 : Int32)))] rfl ?_
        exact hs22 _ _
      · refine sm_aload_n hG 36 rfl dX3_setBounds_35 rfl 0 rfl ?_
        refine gC35_3 hG hC  39 rfl u3 f21 dX3_setBounds_36 ?_
        refine sm_iload_n hG 40 rfl dX3_setBounds_39 rfl 2 rfl ?_
        refine sm_dup2 hG 41 rfl dX3_setBounds_40 rfl rfl ?_
        refine lC39 hG hC  42 rfl dX3_setBounds_41 ?_
        refine sm_aload_n hG 43 rfl dX3_setBounds_42 rfl 0 rfl ?_
        refine gC35_2 hG hC  46 rfl u3 f18 dX3_setBounds_43 ?_
        refine sm_iload_n hG 47 rfl dX3_setBounds_46 rfl 3 rfl ?_
        refine lC38 hG hC  48 rfl dX3_setBounds_47 ?_
        refine sm_iadd hG 49 rfl dX3_setBounds_48 ?_
        refine sm_nmi (fun y48_2 => ?_)
        refine sC39 hG hC  50 rfl dX3_setBounds_49 ?_
        refine sm_nmv (fun w49_3 => ?_)
        refine sm_iinc hG 53 rfl dX3_setBounds_50 (j := 3) rfl rfl (jlt hN rfl) [(3, .int (x3_22 + (1 : Int32))), (0, .ref (Λ.2.2.2.1 (35, 0, 0))), (1, .int x1), (2, .int x2_2)] rfl ?_
        refine sm_goto hG 22 dX3_setBounds_53 (by decide) ?_
        refine sm_loc [1, 2, 3, 0] [(0, .ref (Λ.2.2.2.1 (35, 0, 0))), (1, .int x1), (2, .int x2_2), (3, .int (x3_22 + (1 : Int32)))] rfl ?_
        exact hs22 _ _
abbrev rmX3_leastBound : Room := { frames := 0, cells := 0, slots := 0, locals := 0 }
set_option maxRecDepth 100000 in
set_option maxHeartbeats 4000000 in
theorem c_X3_leastBound {Λ : jL kC} (hC : LC Λ)   {l : Launch} {v : mC} {r : Int32} (hr_ : f_X3_leastBound v = some r) : Ct l yX3_leastBound wsX3_leastBound rmX3_leastBound Λ [.ref (Λ.2.2.2.1 (35, 0, 0))] v (some (.int r)) v := by
  refine ct_of (cc := cX3_leastBound) (maxL := 3) (ret := (some .int)) (fun (q : Int32) => (some (Value.int q), v)) hC.1 hr_ (by decide) rfl (Nat.le_of_ble_eq_true rfl) (fun Γ hG hT hN hl => ?_)
  subst hl
  have f21 : Cond.fieldLink RX3 21 "ChoirRegister$Lineup" "bounds" "[I" ∈ wsX3_leastBound := by decide +kernel
  have u3 : ∀ w ∈ wsX30, w ∈ wsX3_leastBound := by decide +kernel
  show Sm Γ Λ (0, 0) 0 [(0, .ref (Λ.2.2.2.1 (35, 0, 0)))] [] v _
  unfold f_X3_leastBound
  refine sm_aload_n hG 1 rfl dX3_leastBound_0 rfl 0 rfl ?_
  refine gC35_3 hG hC  4 rfl u3 f21 dX3_leastBound_1 ?_
  refine sm_iconst (x := (0 : Int32)) hG 5 rfl dX3_leastBound_4 rfl ?_
  refine lC39 hG hC  6 rfl dX3_leastBound_5 ?_
  refine sm_istore_n hG 7 rfl dX3_leastBound_6 rfl (jlt hN rfl) [(1, .int (v (39, 0, 0) (ix (0 : Int32)))), (0, .ref (Λ.2.2.2.1 (35, 0, 0)))] rfl ?_
  refine sm_iconst (x := (1 : Int32)) hG 8 rfl dX3_leastBound_7 rfl ?_
  refine sm_istore_n hG 9 rfl dX3_leastBound_8 rfl (jlt hN rfl) [(2, .int (1 : Int32)), (1, .int (v (39, 0, 0) (ix (0 : Int32)))), (0, .ref (Λ.2.2.2.1 (35, 0, 0)))] rfl ?_
  refine sm_loc [2, 1, 0] [(0, .ref (Λ.2.2.2.1 (35, 0, 0))), (1, .int (v (39, 0, 0) (ix (0 : Int32)))), (2, .int (1 : Int32))] rfl ?_
  refine lp_ind (fun (X9 : Int32 → Int32 → Option Int32) => ∀ (x1_9 : Int32) (x2_9 : Int32), Sm Γ Λ (0, 0) 9 [(0, .ref (Λ.2.2.2.1 (35, 0, 0))), (1, .int x1_9), (2, .int x2_9)] [] v (X9 x1_9 x2_9)) (fun _ _ => sm_none) (fun self9 hs9 x1_9 x2_9 => ?_) 8192 _ _
  refine sm_iload_n hG 10 rfl dX3_leastBound_9 rfl 2 rfl ?_
  refine sm_bipush (x := (16 : Int32)) hG 12 rfl dX3_leastBound_10 rfl ?_
  refine sm_icmp_ge hG 42 15 rfl dX3_leastBound_12 (by decide) ?_ ?_
  · refine sm_iload_n hG 43 rfl dX3_leastBound_42 rfl 1 rfl ?_
    exact sm_iret hG hT ⟨Nat.zero_le _, Nat.zero_le _⟩ dX3_leastBound_43 rfl
  · refine sm_aload_n hG 16 rfl dX3_leastBound_15 rfl 0 rfl ?_
    refine gC35_3 hG hC  19 rfl u3 f21 dX3_leastBound_16 ?_
    refine sm_iload_n hG 20 rfl dX3_leastBound_19 rfl 2 rfl ?_
    refine lC39 hG hC  21 rfl dX3_leastBound_20 ?_
    refine sm_iload_n hG 22 rfl dX3_leastBound_21 rfl 1 rfl ?_
    refine sm_icmp_ge hG 34 25 rfl dX3_leastBound_22 (by decide) ?_ ?_
    · refine sm_iload_n hG 35 rfl dX3_leastBound_34 rfl 1 rfl ?_
      refine sm_istore_n hG 36 rfl dX3_leastBound_35 rfl (jlt hN rfl) [(1, .int x1_9), (0, .ref (Λ.2.2.2.1 (35, 0, 0))), (2, .int x2_9)] rfl ?_
      refine sm_iinc hG 39 rfl dX3_leastBound_36 (j := 2) rfl rfl (jlt hN rfl) [(2, .int (x2_9 + (1 : Int32))), (1, .int x1_9), (0, .ref (Λ.2.2.2.1 (35, 0, 0)))] rfl ?_
      refine sm_goto hG 9 dX3_leastBound_39 (by decide) ?_
      refine sm_loc [2, 1, 0] [(0, .ref (Λ.2.2.2.1 (35, 0, 0))), (1, .int x1_9), (2, .int (x2_9 + (1 : Int32)))] rfl ?_
      exact hs9 _ _
    · refine sm_aload_n hG 26 rfl dX3_leastBound_25 rfl 0 rfl ?_
      refine gC35_3 hG hC  29 rfl u3 f21 dX3_leastBound_26 ?_
      refine sm_iload_n hG 30 rfl dX3_leastBound_29 rfl 2 rfl ?_
      refine lC39 hG hC  31 rfl dX3_leastBound_30 ?_
      refine sm_goto hG 35 dX3_leastBound_31 (by decide) ?_
      refine sm_istore_n hG 36 rfl dX3_leastBound_35 rfl (jlt hN rfl) [(1, .int (v (39, 0, 0) (ix x2_9))), (0, .ref (Λ.2.2.2.1 (35, 0, 0))), (2, .int x2_9)] rfl ?_
      refine sm_iinc hG 39 rfl dX3_leastBound_36 (j := 2) rfl rfl (jlt hN rfl) [(2, .int (x2_9 + (1 : Int32))), (1, .int (v (39, 0, 0) (ix x2_9))), (0, .ref (Λ.2.2.2.1 (35, 0, 0)))] rfl ?_
      refine sm_goto hG 9 dX3_leastBound_39 (by decide) ?_
      refine sm_loc [2, 1, 0] [(0, .ref (Λ.2.2.2.1 (35, 0, 0))), (1, .int (v (39, 0, 0) (ix x2_9))), (2, .int (x2_9 + (1 : Int32)))] rfl ?_
      exact hs9 _ _
abbrev rmX3_cost : Room := { frames := 0, cells := 0, slots := 0, locals := 0 }
set_option maxRecDepth 100000 in
set_option maxHeartbeats 4000000 in
theorem c_X3_cost {Λ : jL kC} (hC : LC Λ) {x0 : Int32} {x1 : Int32} {x2 : Int32}  {l : Launch} {v : mC} {r : Int32} (hr_ : f_X3_cost x0 x1 x2 v = some r) : Ct l yX3_cost wsX3_cost rmX3_cost Λ [.int x0, .int x1, .int x2] v (some (.int r)) v := by
  refine ct_of (cc := cX3_cost) (maxL := 4) (ret := (some .int)) (fun (q : Int32) => (some (Value.int q), v)) hC.1 hr_ (by decide) rfl (Nat.le_of_ble_eq_true rfl) (fun Γ hG hT hN hl => ?_)
  subst hl
  show Sm Γ Λ (0, 0) 0 [(0, .int x0), (1, .int x1), (2, .int x2)] [] v _
  unfold f_X3_cost
  refine sm_jn (fun (X11 : Int32 → Option Int32) => ∀ (s0_11 : Int32), Sm Γ Λ (0, 0) 11 [(0, .int x0), (2, .int x2)] [.int s0_11] v (X11 s0_11)) (fun s0_11 => ?_) (fun j11 hj11 => ?_)
  · refine sm_istore_n hG 12 rfl dX3_cost_11 rfl (jlt hN rfl) [(3, .int s0_11), (0, .int x0), (2, .int x2)] rfl ?_
    refine sm_iload_n hG 13 rfl dX3_cost_12 rfl 2 rfl ?_
    refine sm_iconst (x := (-1 : Int32)) hG 14 rfl dX3_cost_13 rfl ?_
    refine sm_icmp_eq hG 31 17 rfl dX3_cost_14 (by decide) ?_ ?_
    · refine sm_iload_n hG 32 rfl dX3_cost_31 rfl 0 rfl ?_
      exact sm_iret hG hT ⟨Nat.zero_le _, Nat.zero_le _⟩ dX3_cost_32 rfl
    · refine sm_iload_n hG 18 rfl dX3_cost_17 rfl 1 rfl ?_
      refine sm_iconst (x := (1 : Int32)) hG 19 rfl dX3_cost_18 rfl ?_
      refine sm_iload_n hG 20 rfl dX3_cost_19 rfl 2 rfl ?_
      refine sm_ishl hG 21 rfl dX3_cost_20 ?_
      refine sm_iand hG 22 rfl dX3_cost_21 ?_
      refine sm_if_ne hG 31 25 rfl dX3_cost_22 (by decide) ?_ ?_
      · refine sm_iload_n hG 32 rfl dX3_cost_31 rfl 0 rfl ?_
        exact sm_iret hG hT ⟨Nat.zero_le _, Nat.zero_le _⟩ dX3_cost_32 rfl
      · refine sm_iload_n hG 26 rfl dX3_cost_25 rfl 0 rfl ?_
        refine sm_iconst (x := (1 : Int32)) hG 27 rfl dX3_cost_26 rfl ?_
        refine sm_iadd hG 28 rfl dX3_cost_27 ?_
        refine sm_goto hG 32 dX3_cost_28 (by decide) ?_
        exact sm_iret hG hT ⟨Nat.zero_le _, Nat.zero_le _⟩ dX3_cost_32 rfl
  · refine sm_iload_n hG 1 rfl dX3_cost_0 rfl 1 rfl ?_
    refine sm_iload_n hG 2 rfl dX3_cost_1 rfl 0 rfl ?_
    refine sm_iand hG 3 rfl dX3_cost_2 ?_
    refine sm_if_eq hG 10 6 rfl dX3_cost_3 (by decide) ?_ ?_
    · refine sm_iconst (x := (0 : Int32)) hG 11 rfl dX3_cost_10 rfl ?_
      refine sm_loc [0, 2] [(0, .int x0), (2, .int x2)] rfl ?_
      exact hj11 _
    · refine sm_iconst (x := (1 : Int32)) hG 7 rfl dX3_cost_6 rfl ?_
      refine sm_goto hG 11 dX3_cost_7 (by decide) ?_
      refine sm_loc [0, 2] [(0, .int x0), (2, .int x2)] rfl ?_
      exact hj11 _
abbrev rmX3_keepsFillable : Room := { frames := 1, cells := 0, slots := 0, locals := 23 }
set_option maxRecDepth 100000 in
set_option maxHeartbeats 4000000 in
theorem c_X3_keepsFillable {Λ : jL kC} (hC : LC Λ) {x1 : Int32} {x2 : Int32} {x3 : Int32}  {l : Launch} {v : mC} {r : Int32} (hr_ : f_X3_keepsFillable x1 x2 x3 v = some r) : Ct l yX3_keepsFillable wsX3_keepsFillable rmX3_keepsFillable Λ [.ref (Λ.2.2.2.1 (35, 0, 0)), .int x1, .int x2, .int x3] v (some (.int r)) v := by
  refine ct_of (cc := cX3_keepsFillable) (maxL := 5) (ret := (some .boolean)) (fun (q : Int32) => (some (Value.int q), v)) hC.1 hr_ (by decide) rfl (Nat.le_of_ble_eq_true rfl) (fun Γ hG hT hN hl => ?_)
  subst hl
  have f21 : Cond.fieldLink RX3 21 "ChoirRegister$Lineup" "bounds" "[I" ∈ wsX3_keepsFillable := by decide +kernel
  have u3 : ∀ w ∈ wsX30, w ∈ wsX3_keepsFillable := by decide +kernel
  show Sm Γ Λ (0, 0) 0 [(0, .ref (Λ.2.2.2.1 (35, 0, 0))), (1, .int x1), (2, .int x2), (3, .int x3)] [] v _
  unfold f_X3_keepsFillable
  refine sm_iconst (x := (0 : Int32)) hG 1 rfl dX3_keepsFillable_0 rfl ?_
  refine sm_istore hG 3 rfl dX3_keepsFillable_1 (jlt hN rfl) [(4, .int (0 : Int32)), (0, .ref (Λ.2.2.2.1 (35, 0, 0))), (1, .int x1), (2, .int x2), (3, .int x3)] rfl ?_
  refine sm_loc [1, 2, 3, 4, 0] [(0, .ref (Λ.2.2.2.1 (35, 0, 0))), (1, .int x1), (2, .int x2), (3, .int x3), (4, .int (0 : Int32))] rfl ?_
  refine lp_ind (fun (X3 : Int32 → Option Int32) => ∀ (x4_3 : Int32), Sm Γ Λ (0, 0) 3 [(0, .ref (Λ.2.2.2.1 (35, 0, 0))), (1, .int x1), (2, .int x2), (3, .int x3), (4, .int x4_3)] [] v (X3 x4_3)) (fun _ => sm_none) (fun self3 hs3 x4_3 => ?_) 8192 _
  refine sm_iload hG 5 rfl dX3_keepsFillable_3 4 rfl ?_
  refine sm_bipush (x := (16 : Int32)) hG 7 rfl dX3_keepsFillable_5 rfl ?_
  refine sm_icmp_ge hG 39 10 rfl dX3_keepsFillable_7 (by decide) ?_ ?_
  · refine sm_iconst (x := (1 : Int32)) hG 40 rfl dX3_keepsFillable_39 rfl ?_
    exact sm_bret hG hT ⟨Nat.zero_le _, Nat.zero_le _⟩ dX3_keepsFillable_40 rfl
  · refine sm_aload_n hG 11 rfl dX3_keepsFillable_10 rfl 0 rfl ?_
    refine gC35_3 hG hC  14 rfl u3 f21 dX3_keepsFillable_11 ?_
    refine sm_iload hG 16 rfl dX3_keepsFillable_14 4 rfl ?_
    refine lC39 hG hC  17 rfl dX3_keepsFillable_16 ?_
    refine sm_iload hG 19 rfl dX3_keepsFillable_17 4 rfl ?_
    refine sm_iload_n hG 20 rfl dX3_keepsFillable_19 rfl 1 rfl ?_
    refine sm_iload_n hG 21 rfl dX3_keepsFillable_20 rfl 2 rfl ?_
    refine sm_callS hG (fun (q : Int32) => (some (Value.int q), v)) [.int x4_3, .int x1, .int x2] 24 rfl (fun r_ hr_ => c_X3_cost hC   hr_) gX3_keepsFillable_X3_cost rfl (by decide) (by decide) (n := 3) rfl (Nat.le_of_ble_eq_true rfl) (by decide) ⟨Nat.zero_le _, Nat.zero_le _⟩ rfl dX3_keepsFillable_21 (fun r_21 => ?_)
    refine sm_isub hG 25 rfl dX3_keepsFillable_24 ?_
    refine sm_iload_n hG 26 rfl dX3_keepsFillable_25 rfl 3 rfl ?_
    refine sm_iconst (x := (1 : Int32)) hG 27 rfl dX3_keepsFillable_26 rfl ?_
    refine sm_isub hG 28 rfl dX3_keepsFillable_27 ?_
    refine sm_icmp_ge hG 33 31 rfl dX3_keepsFillable_28 (by decide) ?_ ?_
    · refine sm_iinc hG 36 rfl dX3_keepsFillable_33 (j := 4) rfl rfl (jlt hN rfl) [(4, .int (x4_3 + (1 : Int32))), (0, .ref (Λ.2.2.2.1 (35, 0, 0))), (1, .int x1), (2, .int x2), (3, .int x3)] rfl ?_
      refine sm_goto hG 3 dX3_keepsFillable_36 (by decide) ?_
      refine sm_loc [1, 2, 3, 4, 0] [(0, .ref (Λ.2.2.2.1 (35, 0, 0))), (1, .int x1), (2, .int x2), (3, .int x3), (4, .int (x4_3 + (1 : Int32)))] rfl ?_
      exact hs3 _
    · refine sm_iconst (x := (0 : Int32)) hG 32 rfl dX3_keepsFillable_31 rfl ?_
      exact sm_bret hG hT ⟨Nat.zero_le _, Nat.zero_le _⟩ dX3_keepsFillable_32 rfl
abbrev rmX3_firstGoodLine : Room := { frames := 2, cells := 0, slots := 0, locals := 47 }
set_option maxRecDepth 100000 in
set_option maxHeartbeats 4000000 in
theorem c_X3_firstGoodLine {Λ : jL kC} (hC : LC Λ) {x1 : Int32} {x2 : Int32}  {l : Launch} {v : mC} {r : Int32} (hr_ : f_X3_firstGoodLine x1 x2 v = some r) : Ct l yX3_firstGoodLine wsX3_firstGoodLine rmX3_firstGoodLine Λ [.ref (Λ.2.2.2.1 (35, 0, 0)), .int x1, .int x2] v (some (.int r)) v := by
  refine ct_of (cc := cX3_firstGoodLine) (maxL := 4) (ret := (some .int)) (fun (q : Int32) => (some (Value.int q), v)) hC.1 hr_ (by decide) rfl (Nat.le_of_ble_eq_true rfl) (fun Γ hG hT hN hl => ?_)
  subst hl
  have f18 : Cond.fieldLink RX3 18 "ChoirRegister$Lineup" "open" "[I" ∈ wsX3_firstGoodLine := by decide +kernel
  have u3 : ∀ w ∈ wsX30, w ∈ wsX3_firstGoodLine := by decide +kernel
  show Sm Γ Λ (0, 0) 0 [(0, .ref (Λ.2.2.2.1 (35, 0, 0))), (1, .int x1), (2, .int x2)] [] v _
  unfold f_X3_firstGoodLine
  refine sm_iconst (x := (0 : Int32)) hG 1 rfl dX3_firstGoodLine_0 rfl ?_
  refine sm_istore_n hG 2 rfl dX3_firstGoodLine_1 rfl (jlt hN rfl) [(3, .int (0 : Int32)), (0, .ref (Λ.2.2.2.1 (35, 0, 0))), (1, .int x1), (2, .int x2)] rfl ?_
  refine sm_loc [1, 2, 3, 0] [(0, .ref (Λ.2.2.2.1 (35, 0, 0))), (1, .int x1), (2, .int x2), (3, .int (0 : Int32))] rfl ?_
  refine lp_ind (fun (X2 : Int32 → Option Int32) => ∀ (x3_2 : Int32), Sm Γ Λ (0, 0) 2 [(0, .ref (Λ.2.2.2.1 (35, 0, 0))), (1, .int x1), (2, .int x2), (3, .int x3_2)] [] v (X2 x3_2)) (fun _ => sm_none) (fun self2 hs2 x3_2 => ?_) 8192 _
  refine sm_iload_n hG 3 rfl dX3_firstGoodLine_2 rfl 3 rfl ?_
  refine sm_iconst (x := (4 : Int32)) hG 4 rfl dX3_firstGoodLine_3 rfl ?_
  refine sm_icmp_ge hG 42 7 rfl dX3_firstGoodLine_4 (by decide) ?_ ?_
  · refine sm_iconst (x := (-1 : Int32)) hG 43 rfl dX3_firstGoodLine_42 rfl ?_
    exact sm_iret hG hT ⟨Nat.zero_le _, Nat.zero_le _⟩ dX3_firstGoodLine_43 rfl
  · refine sm_iload_n hG 8 rfl dX3_firstGoodLine_7 rfl 1 rfl ?_
    refine sm_iload_n hG 9 rfl dX3_firstGoodLine_8 rfl 3 rfl ?_
    refine sm_callS hG (fun (q : Int32) => (some (Value.int q), v)) [.int x1, .int x3_2] 12 rfl (fun r_ hr_ => c_X3_contains hC   hr_) gX3_firstGoodLine_X3_contains rfl (by decide) (by decide) (n := 2) rfl (Nat.le_of_ble_eq_true rfl) (by decide) ⟨Nat.zero_le _, Nat.zero_le _⟩ rfl dX3_firstGoodLine_9 (fun r_9 => ?_)
    refine sm_if_eq hG 36 15 rfl dX3_firstGoodLine_12 (by decide) ?_ ?_
    · refine sm_iinc hG 39 rfl dX3_firstGoodLine_36 (j := 3) rfl rfl (jlt hN rfl) [(3, .int (x3_2 + (1 : Int32))), (0, .ref (Λ.2.2.2.1 (35, 0, 0))), (1, .int x1), (2, .int x2)] rfl ?_
      refine sm_goto hG 2 dX3_firstGoodLine_39 (by decide) ?_
      refine sm_loc [1, 2, 3, 0] [(0, .ref (Λ.2.2.2.1 (35, 0, 0))), (1, .int x1), (2, .int x2), (3, .int (x3_2 + (1 : Int32)))] rfl ?_
      exact hs2 _
    · refine sm_aload_n hG 16 rfl dX3_firstGoodLine_15 rfl 0 rfl ?_
      refine gC35_2 hG hC  19 rfl u3 f18 dX3_firstGoodLine_16 ?_
      refine sm_iload_n hG 20 rfl dX3_firstGoodLine_19 rfl 3 rfl ?_
      refine lC38 hG hC  21 rfl dX3_firstGoodLine_20 ?_
      refine sm_if_le hG 36 24 rfl dX3_firstGoodLine_21 (by decide) ?_ ?_
      · refine sm_iinc hG 39 rfl dX3_firstGoodLine_36 (j := 3) rfl rfl (jlt hN rfl) [(3, .int (x3_2 + (1 : Int32))), (0, .ref (Λ.2.2.2.1 (35, 0, 0))), (1, .int x1), (2, .int x2)] rfl ?_
        refine sm_goto hG 2 dX3_firstGoodLine_39 (by decide) ?_
        refine sm_loc [1, 2, 3, 0] [(0, .ref (Λ.2.2.2.1 (35, 0, 0))), (1, .int x1), (2, .int x2), (3, .int (x3_2 + (1 : Int32)))] rfl ?_
        exact hs2 _
      · refine sm_aload_n hG 25 rfl dX3_firstGoodLine_24 rfl 0 rfl ?_
        refine sm_iload_n hG 26 rfl dX3_firstGoodLine_25 rfl 1 rfl ?_
        refine sm_iload_n hG 27 rfl dX3_firstGoodLine_26 rfl 3 rfl ?_
        refine sm_iload_n hG 28 rfl dX3_firstGoodLine_27 rfl 2 rfl ?_
        refine sm_callV hG (fun (q : Int32) => (some (Value.int q), v)) (35, 0, 0) [.int x1, .int x3_2, .int x2] 31 rfl (oks hC (by decide)) (ce_35 hC _) (ci := 3) rfl (fun r_ hr_ => c_X3_keepsFillable hC   hr_) gX3_firstGoodLine_X3_keepsFillable rfl (by decide) (by decide) (n := 3) rfl (Nat.le_of_ble_eq_true rfl) (by decide) ⟨Nat.zero_le _, Nat.zero_le _⟩ rfl dX3_firstGoodLine_28 (fun r_28 => ?_)
        refine sm_if_eq hG 36 34 rfl dX3_firstGoodLine_31 (by decide) ?_ ?_
        · refine sm_iinc hG 39 rfl dX3_firstGoodLine_36 (j := 3) rfl rfl (jlt hN rfl) [(3, .int (x3_2 + (1 : Int32))), (0, .ref (Λ.2.2.2.1 (35, 0, 0))), (1, .int x1), (2, .int x2)] rfl ?_
          refine sm_goto hG 2 dX3_firstGoodLine_39 (by decide) ?_
          refine sm_loc [1, 2, 3, 0] [(0, .ref (Λ.2.2.2.1 (35, 0, 0))), (1, .int x1), (2, .int x2), (3, .int (x3_2 + (1 : Int32)))] rfl ?_
          exact hs2 _
        · refine sm_iload_n hG 35 rfl dX3_firstGoodLine_34 rfl 3 rfl ?_
          exact sm_iret hG hT ⟨Nat.zero_le _, Nat.zero_le _⟩ dX3_firstGoodLine_35 rfl
abbrev rmX3_strikeOut : Room := { frames := 1, cells := 0, slots := 0, locals := 23 }
set_option maxRecDepth 100000 in
set_option maxHeartbeats 4000000 in
theorem c_X3_strikeOut {Λ : jL kC} (hC : LC Λ) {x1 : Int32} {x2 : Int32}  {l : Launch} {v : mC} {r : mC} (hr_ : f_X3_strikeOut x1 x2 v = some r) : Ct l yX3_strikeOut wsX3_strikeOut rmX3_strikeOut Λ [.ref (Λ.2.2.2.1 (35, 0, 0)), .int x1, .int x2] v none r := by
  refine ct_of (cc := cX3_strikeOut) (maxL := 4) (ret := none) (fun (w : mC) => ((none : Option Value), w)) hC.1 hr_ (by decide) rfl (Nat.le_of_ble_eq_true rfl) (fun Γ hG hT hN hl => ?_)
  subst hl
  have f18 : Cond.fieldLink RX3 18 "ChoirRegister$Lineup" "open" "[I" ∈ wsX3_strikeOut := by decide +kernel
  have f21 : Cond.fieldLink RX3 21 "ChoirRegister$Lineup" "bounds" "[I" ∈ wsX3_strikeOut := by decide +kernel
  have u3 : ∀ w ∈ wsX30, w ∈ wsX3_strikeOut := by decide +kernel
  show Sm Γ Λ (0, 0) 0 [(0, .ref (Λ.2.2.2.1 (35, 0, 0))), (1, .int x1), (2, .int x2)] [] v _
  unfold f_X3_strikeOut
  refine sm_iconst (x := (0 : Int32)) hG 1 rfl dX3_strikeOut_0 rfl ?_
  refine sm_istore_n hG 2 rfl dX3_strikeOut_1 rfl (jlt hN rfl) [(3, .int (0 : Int32)), (0, .ref (Λ.2.2.2.1 (35, 0, 0))), (1, .int x1), (2, .int x2)] rfl ?_
  refine sm_loc [1, 2, 3, 0] [(0, .ref (Λ.2.2.2.1 (35, 0, 0))), (1, .int x1), (2, .int x2), (3, .int (0 : Int32))] rfl ?_
  refine lp_ind (fun (X2 : Int32 → mC → Option mC) => ∀ (x3_2 : Int32) (v_2 : mC), Sm Γ Λ (0, 0) 2 [(0, .ref (Λ.2.2.2.1 (35, 0, 0))), (1, .int x1), (2, .int x2), (3, .int x3_2)] [] v_2 (X2 x3_2 v_2)) (fun _ _ => sm_none) (fun self2 hs2 x3_2 v_2 => ?_) 8192 _ _
  refine sm_iload_n hG 3 rfl dX3_strikeOut_2 rfl 3 rfl ?_
  refine sm_bipush (x := (16 : Int32)) hG 5 rfl dX3_strikeOut_3 rfl ?_
  refine sm_icmp_ge hG 29 8 rfl dX3_strikeOut_5 (by decide) ?_ ?_
  · refine sm_iload_n hG 30 rfl dX3_strikeOut_29 rfl 2 rfl ?_
    refine sm_iconst (x := (-1 : Int32)) hG 31 rfl dX3_strikeOut_30 rfl ?_
    refine sm_icmp_eq hG 44 34 rfl dX3_strikeOut_31 (by decide) ?_ ?_
    · exact sm_vret hG hT ⟨Nat.zero_le _, Nat.zero_le _⟩ dX3_strikeOut_44 rfl
    · refine sm_aload_n hG 35 rfl dX3_strikeOut_34 rfl 0 rfl ?_
      refine gC35_2 hG hC  38 rfl u3 f18 dX3_strikeOut_35 ?_
      refine sm_iload_n hG 39 rfl dX3_strikeOut_38 rfl 2 rfl ?_
      refine sm_dup2 hG 40 rfl dX3_strikeOut_39 rfl rfl ?_
      refine lC38 hG hC  41 rfl dX3_strikeOut_40 ?_
      refine sm_iconst (x := (1 : Int32)) hG 42 rfl dX3_strikeOut_41 rfl ?_
      refine sm_isub hG 43 rfl dX3_strikeOut_42 ?_
      refine sC38 hG hC  44 rfl dX3_strikeOut_43 ?_
      refine sm_nmv (fun w43_1 => ?_)
      exact sm_vret hG hT ⟨Nat.zero_le _, Nat.zero_le _⟩ dX3_strikeOut_44 rfl
  · refine sm_aload_n hG 9 rfl dX3_strikeOut_8 rfl 0 rfl ?_
    refine gC35_3 hG hC  12 rfl u3 f21 dX3_strikeOut_9 ?_
    refine sm_iload_n hG 13 rfl dX3_strikeOut_12 rfl 3 rfl ?_
    refine sm_dup2 hG 14 rfl dX3_strikeOut_13 rfl rfl ?_
    refine lC39 hG hC  15 rfl dX3_strikeOut_14 ?_
    refine sm_iload_n hG 16 rfl dX3_strikeOut_15 rfl 3 rfl ?_
    refine sm_iload_n hG 17 rfl dX3_strikeOut_16 rfl 1 rfl ?_
    refine sm_iload_n hG 18 rfl dX3_strikeOut_17 rfl 2 rfl ?_
    refine sm_callS hG (fun (q : Int32) => (some (Value.int q), v_2)) [.int x3_2, .int x1, .int x2] 21 rfl (fun r_ hr_ => c_X3_cost hC   hr_) gX3_strikeOut_X3_cost rfl (by decide) (by decide) (n := 3) rfl (Nat.le_of_ble_eq_true rfl) (by decide) ⟨Nat.zero_le _, Nat.zero_le _⟩ rfl dX3_strikeOut_18 (fun r_18 => ?_)
    refine sm_isub hG 22 rfl dX3_strikeOut_21 ?_
    refine sC39 hG hC  23 rfl dX3_strikeOut_22 ?_
    refine sm_nmv (fun w22_2 => ?_)
    refine sm_iinc hG 26 rfl dX3_strikeOut_23 (j := 3) rfl rfl (jlt hN rfl) [(3, .int (x3_2 + (1 : Int32))), (0, .ref (Λ.2.2.2.1 (35, 0, 0))), (1, .int x1), (2, .int x2)] rfl ?_
    refine sm_goto hG 2 dX3_strikeOut_26 (by decide) ?_
    refine sm_loc [1, 2, 3, 0] [(0, .ref (Λ.2.2.2.1 (35, 0, 0))), (1, .int x1), (2, .int x2), (3, .int (x3_2 + (1 : Int32)))] rfl ?_
    exact hs2 _ _
abbrev rmX3_make : Room := { frames := 3, cells := 0, slots := 0, locals := 72 }
set_option maxRecDepth 100000 in
set_option maxHeartbeats 4000000 in
theorem c_X3_make {Λ : jL kC} (hC : LC Λ) {o : Nat} {x2 : Int32} (ho : o < 7) {l : Launch} {v : mC} {r : mC} (hr_ : f_X3_make o x2 v = some r) : Ct l yX3_make wsX3_make rmX3_make Λ [.ref (Λ.2.2.2.1 (35, 0, 0)), .ref (Λ.2.2.2.1 (1, o, 0)), .int x2] v none r := by
  refine ct_of (cc := cX3_make) (maxL := 6) (ret := none) (fun (w : mC) => ((none : Option Value), w)) hC.1 hr_ (by decide) rfl (Nat.le_of_ble_eq_true rfl) (fun Γ hG hT hN hl => ?_)
  subst hl
  have f15 : Cond.fieldLink RX3 15 "ChoirRegister$Lineup" "canSing" "[I" ∈ wsX3_make := by decide +kernel
  have f18 : Cond.fieldLink RX3 18 "ChoirRegister$Lineup" "open" "[I" ∈ wsX3_make := by decide +kernel
  have f33 : Cond.fieldLink RX3 33 "ChoirRegister$Book" "calendar" "LChoirRegister$Calendar;" ∈ wsX3_make := by decide +kernel
  have f62 : Cond.fieldLink RX3 62 "ChoirRegister$Calendar" "places" "[[I" ∈ wsX3_make := by decide +kernel
  have f65 : Cond.fieldLink RX3 65 "ChoirRegister$Book" "roster" "LChoirRegister$Roster;" ∈ wsX3_make := by decide +kernel
  have f69 : Cond.fieldLink RX3 69 "ChoirRegister$Roster" "count" "I" ∈ wsX3_make := by decide +kernel
  have f9 : Cond.fieldLink RX3 9 "ChoirRegister$Lineup" "lines" "[I" ∈ wsX3_make := by decide +kernel
  have fa1 : Cond.methodLink RX3 43 arraycopyName ∈ wsX3_make := by decide +kernel
  have fa2 : Cond.native arraycopyName ∈ wsX3_make := by decide +kernel
  have fa3 : Cond.static arraycopyName ∈ wsX3_make := by decide +kernel
  have fa4 : Cond.initialized "java/lang/System" ∈ wsX3_make := by decide +kernel
  have u0 : ∀ w ∈ wsX00, w ∈ wsX3_make := by decide +kernel
  have u1 : ∀ w ∈ wsX10, w ∈ wsX3_make := by decide +kernel
  have u3 : ∀ w ∈ wsX30, w ∈ wsX3_make := by decide +kernel
  have u5 : ∀ w ∈ wsX50, w ∈ wsX3_make := by decide +kernel
  show Sm Γ Λ (0, 0) 0 [(0, .ref (Λ.2.2.2.1 (35, 0, 0))), (1, .ref (Λ.2.2.2.1 (1, o, 0))), (2, .int x2)] [] v _
  unfold f_X3_make
  refine sm_aload_n hG 1 rfl dX3_make_0 rfl 0 rfl ?_
  refine sm_aload_n hG 2 rfl dX3_make_1 rfl 1 rfl ?_
  refine sm_iload_n hG 3 rfl dX3_make_2 rfl 2 rfl ?_
  refine sm_callV hG (fun (w : mC) => ((none : Option Value), w)) (35, 0, 0) [.ref (Λ.2.2.2.1 (1, o, 0)), .int x2] 6 rfl (oks hC (by decide)) (ce_35 hC _) (ci := 3) rfl (fun r_ hr_ => c_X3_listWhoCanSing hC ho  hr_) gX3_make_X3_listWhoCanSing rfl (by decide) (by decide) (n := 2) rfl (Nat.le_of_ble_eq_true rfl) (by decide) ⟨Nat.zero_le _, Nat.zero_le _⟩ rfl dX3_make_3 (fun r_3 => ?_)
  refine sm_aload_n hG 7 rfl dX3_make_6 rfl 0 rfl ?_
  refine gC35_0 hG hC  10 rfl u3 f9 dX3_make_7 ?_
  refine sm_iconst (x := (-1 : Int32)) hG 11 rfl dX3_make_10 rfl ?_
  refine sm_callS hG (fun (w : mC) => ((none : Option Value), w)) [.ref (Λ.2.2.2.1 (36, 0, 0)), .int (-1 : Int32)] 14 rfl (fun r_ hr_ => c_J7_fill_53178 hC (ic_36 hC )  hr_) gX3_make_J7_fill_53178 rfl (by decide) (by decide) (n := 2) rfl (Nat.le_of_ble_eq_true rfl) (by decide) ⟨Nat.zero_le _, Nat.zero_le _⟩ rfl dX3_make_11 (fun r_11 => ?_)
  refine sm_aload_n hG 15 rfl dX3_make_14 rfl 1 rfl ?_
  refine gC1_3 hG hC ho 18 rfl u0 f33 dX3_make_15 ?_
  refine gC18_4 hG hC ho 21 rfl u1 f62 dX3_make_18 ?_
  refine sm_iload_n hG 22 rfl dX3_make_21 rfl 2 rfl ?_
  refine lC22 hG hC ho 23 rfl dX3_make_22 (fun hf22_1 => ?_)
  refine sm_iconst (x := (0 : Int32)) hG 24 rfl dX3_make_23 rfl ?_
  refine sm_aload_n hG 25 rfl dX3_make_24 rfl 0 rfl ?_
  refine gC35_2 hG hC  28 rfl u3 f18 dX3_make_25 ?_
  refine sm_iconst (x := (0 : Int32)) hG 29 rfl dX3_make_28 rfl ?_
  refine sm_iconst (x := (4 : Int32)) hG 30 rfl dX3_make_29 rfl ?_
  refine cA hG (ic_26 hC ho hf22_1) (ic_38 hC ) 33 rfl fa1 fa2 fa3 fa4 (by decide) (Nat.le_of_ble_eq_true rfl) dX3_make_30 ?_
  refine sm_nmv (fun w30_1 => ?_)
  refine sm_aload_n hG 34 rfl dX3_make_33 rfl 0 rfl ?_
  refine sm_aload_n hG 35 rfl dX3_make_34 rfl 1 rfl ?_
  refine gC1_1 hG hC ho 38 rfl u0 f65 dX3_make_35 ?_
  refine gC2_0 hG hC ho 41 rfl u5 f69 dX3_make_38 ?_
  refine sm_callV hG (fun (w : mC) => ((none : Option Value), w)) (35, 0, 0) [.int (w30_1 (2, o, 0) 0)] 44 rfl (oks hC (by decide)) (ce_35 hC _) (ci := 3) rfl (fun r_ hr_ => c_X3_setBounds hC   hr_) gX3_make_X3_setBounds rfl (by decide) (by decide) (n := 1) rfl (Nat.le_of_ble_eq_true rfl) (by decide) ⟨Nat.zero_le _, Nat.zero_le _⟩ rfl dX3_make_41 (fun r_41 => ?_)
  refine sm_aload_n hG 45 rfl dX3_make_44 rfl 0 rfl ?_
  refine sm_callV hG (fun (q : Int32) => (some (Value.int q), r_41)) (35, 0, 0) [] 48 rfl (oks hC (by decide)) (ce_35 hC _) (ci := 3) rfl (fun r_ hr_ => c_X3_leastBound hC   hr_) gX3_make_X3_leastBound rfl (by decide) (by decide) (n := 0) rfl (Nat.le_of_ble_eq_true rfl) (by decide) ⟨Nat.zero_le _, Nat.zero_le _⟩ rfl dX3_make_45 (fun r_45 => ?_)
  refine sm_istore_n hG 49 rfl dX3_make_48 rfl (jlt hN rfl) [(3, .int r_45), (0, .ref (Λ.2.2.2.1 (35, 0, 0))), (1, .ref (Λ.2.2.2.1 (1, o, 0))), (2, .int x2)] rfl ?_
  refine sm_iconst (x := (0 : Int32)) hG 50 rfl dX3_make_49 rfl ?_
  refine sm_istore hG 52 rfl dX3_make_50 (jlt hN rfl) [(4, .int (0 : Int32)), (3, .int r_45), (0, .ref (Λ.2.2.2.1 (35, 0, 0))), (1, .ref (Λ.2.2.2.1 (1, o, 0))), (2, .int x2)] rfl ?_
  refine sm_loc [2, 3, 1, 0] [(0, .ref (Λ.2.2.2.1 (35, 0, 0))), (1, .ref (Λ.2.2.2.1 (1, o, 0))), (3, .int r_45), (4, .int (0 : Int32))] rfl ?_
  refine lp_ind (fun (X52 : Int32 → Int32 → mC → Option mC) => ∀ (x3_52 : Int32) (x4_52 : Int32) (v_52 : mC), Sm Γ Λ (0, 0) 52 [(0, .ref (Λ.2.2.2.1 (35, 0, 0))), (1, .ref (Λ.2.2.2.1 (1, o, 0))), (3, .int x3_52), (4, .int x4_52)] [] v_52 (X52 x3_52 x4_52 v_52)) (fun _ _ _ => sm_none) (fun self52 hs52 x3_52 x4_52 v_52 => ?_) 8192 _ _ _
  refine sm_iload hG 54 rfl dX3_make_52 3 rfl ?_
  refine sm_aload_n hG 55 rfl dX3_make_54 rfl 1 rfl ?_
  refine gC1_1 hG hC ho 58 rfl u0 f65 dX3_make_55 ?_
  refine gC2_0 hG hC ho 61 rfl u5 f69 dX3_make_58 ?_
  refine sm_icmp_ge hG 115 64 rfl dX3_make_61 (by decide) ?_ ?_
  · exact sm_vret hG hT ⟨Nat.zero_le _, Nat.zero_le _⟩ dX3_make_115 rfl
  · refine sm_aload_n hG 65 rfl dX3_make_64 rfl 0 rfl ?_
    refine sm_aload_n hG 66 rfl dX3_make_65 rfl 0 rfl ?_
    refine gC35_1 hG hC  69 rfl u3 f15 dX3_make_66 ?_
    refine sm_iload hG 71 rfl dX3_make_69 3 rfl ?_
    refine lC37 hG hC  72 rfl dX3_make_71 ?_
    refine sm_iload_n hG 73 rfl dX3_make_72 rfl 2 rfl ?_
    refine sm_callV hG (fun (q : Int32) => (some (Value.int q), v_52)) (35, 0, 0) [.int (v_52 (37, 0, 0) (ix x4_52)), .int x3_52] 76 rfl (oks hC (by decide)) (ce_35 hC _) (ci := 3) rfl (fun r_ hr_ => c_X3_firstGoodLine hC   hr_) gX3_make_X3_firstGoodLine rfl (by decide) (by decide) (n := 2) rfl (Nat.le_of_ble_eq_true rfl) (by decide) ⟨Nat.zero_le _, Nat.zero_le _⟩ rfl dX3_make_73 (fun r_73 => ?_)
    refine sm_istore hG 78 rfl dX3_make_76 (jlt hN rfl) [(5, .int r_73), (0, .ref (Λ.2.2.2.1 (35, 0, 0))), (1, .ref (Λ.2.2.2.1 (1, o, 0))), (3, .int x3_52), (4, .int x4_52)] rfl ?_
    refine sm_aload_n hG 79 rfl dX3_make_78 rfl 1 rfl ?_
    refine gC35_0 hG hC  82 rfl u3 f9 dX3_make_79 ?_
    refine sm_iload hG 84 rfl dX3_make_82 4 rfl ?_
    refine sm_iload hG 86 rfl dX3_make_84 0 rfl ?_
    refine sC36 hG hC  87 rfl dX3_make_86 ?_
    refine sm_nmv (fun w86_2 => ?_)
    refine sm_aload_n hG 88 rfl dX3_make_87 rfl 1 rfl ?_
    refine sm_aload_n hG 89 rfl dX3_make_88 rfl 1 rfl ?_
    refine gC35_1 hG hC  92 rfl u3 f15 dX3_make_89 ?_
    refine sm_iload hG 94 rfl dX3_make_92 4 rfl ?_
    refine lC37 hG hC  95 rfl dX3_make_94 ?_
    refine sm_iload hG 97 rfl dX3_make_95 0 rfl ?_
    refine sm_callV hG (fun (w : mC) => ((none : Option Value), w)) (35, 0, 0) [.int (w86_2 (37, 0, 0) (ix x4_52)), .int r_73] 100 rfl (oks hC (by decide)) (ce_35 hC _) (ci := 3) rfl (fun r_ hr_ => c_X3_strikeOut hC   hr_) gX3_make_X3_strikeOut rfl (by decide) (by decide) (n := 2) rfl (Nat.le_of_ble_eq_true rfl) (by decide) ⟨Nat.zero_le _, Nat.zero_le _⟩ rfl dX3_make_97 (fun r_97 => ?_)
    refine sm_iload hG 102 rfl dX3_make_100 0 rfl ?_
    refine sm_iconst (x := (-1 : Int32)) hG 103 rfl dX3_make_102 rfl ?_
    refine sm_icmp_eq hG 109 106 rfl dX3_make_103 (by decide) ?_ ?_
    · refine sm_iinc hG 112 rfl dX3_make_109 (j := 4) rfl rfl (jlt hN rfl) [(4, .int (x4_52 + (1 : Int32))), (5, .int r_73), (0, .ref (Λ.2.2.2.1 (35, 0, 0))), (1, .ref (Λ.2.2.2.1 (1, o, 0))), (3, .int x3_52)] rfl ?_
      refine sm_goto hG 52 dX3_make_112 (by decide) ?_
      refine sm_loc [2, 3, 4, 0] [(0, .ref (Λ.2.2.2.1 (35, 0, 0))), (1, .ref (Λ.2.2.2.1 (1, o, 0))), (3, .int x3_52), (4, .int (x4_52 + (1 : Int32)))] rfl ?_
      exact hs52 _ _ _
    · refine sm_iinc hG 109 rfl dX3_make_106 (j := 3) rfl rfl (jlt hN rfl) [(3, .int (x3_52 + (-1 : Int32))), (5, .int r_73), (0, .ref (Λ.2.2.2.1 (35, 0, 0))), (1, .ref (Λ.2.2.2.1 (1, o, 0))), (4, .int x4_52)] rfl ?_
      refine sm_iinc hG 112 rfl dX3_make_109 (j := 4) rfl rfl (jlt hN rfl) [(4, .int (x4_52 + (1 : Int32))), (3, .int (x3_52 + (-1 : Int32))), (5, .int r_73), (0, .ref (Λ.2.2.2.1 (35, 0, 0))), (1, .ref (Λ.2.2.2.1 (1, o, 0)))] rfl ?_
      refine sm_goto hG 52 dX3_make_112 (by decide) ?_
      refine sm_loc [3, 4, 1, 0] [(0, .ref (Λ.2.2.2.1 (35, 0, 0))), (1, .ref (Λ.2.2.2.1 (1, o, 0))), (3, .int (x3_52 + (-1 : Int32))), (4, .int (x4_52 + (1 : Int32)))] rfl ?_
      exact hs52 _ _ _
abbrev rmX5_isOlder : Room := { frames := 0, cells := 0, slots := 0, locals := 0 }
set_option maxRecDepth 100000 in
set_option maxHeartbeats 4000000 in
theorem c_X5_isOlder {Λ : jL kC} (hC : LC Λ) {o : Nat} {x1 : Int32} {x2 : Int32} (ho : o < 7) {l : Launch} {v : mC} {r : Int32} (hr_ : f_X5_isOlder o x1 x2 v = some r) : Ct l yX5_isOlder wsX5_isOlder rmX5_isOlder Λ [.ref (Λ.2.2.2.1 (2, o, 0)), .int x1, .int x2] v (some (.int r)) v := by
  refine ct_of (cc := cX5_isOlder) (maxL := 3) (ret := (some .boolean)) (fun (q : Int32) => (some (Value.int q), v)) hC.1 hr_ (by decide) rfl (Nat.le_of_ble_eq_true rfl) (fun Γ hG hT hN hl => ?_)
  subst hl
  have f25 : Cond.fieldLink RX5 25 "ChoirRegister$Roster" "birthDay" "[I" ∈ wsX5_isOlder := by decide +kernel
  have u5 : ∀ w ∈ wsX50, w ∈ wsX5_isOlder := by decide +kernel
  show Sm Γ Λ (0, 0) 0 [(0, .ref (Λ.2.2.2.1 (2, o, 0))), (1, .int x1), (2, .int x2)] [] v _
  unfold f_X5_isOlder
  refine sm_aload_n hG 1 rfl dX5_isOlder_0 rfl 0 rfl ?_
  refine gC2_4 hG hC ho 4 rfl u5 f25 dX5_isOlder_1 ?_
  refine sm_iload_n hG 5 rfl dX5_isOlder_4 rfl 1 rfl ?_
  refine lC6 hG hC ho 6 rfl dX5_isOlder_5 ?_
  refine sm_aload_n hG 7 rfl dX5_isOlder_6 rfl 0 rfl ?_
  refine gC2_4 hG hC ho 10 rfl u5 f25 dX5_isOlder_7 ?_
  refine sm_iload_n hG 11 rfl dX5_isOlder_10 rfl 2 rfl ?_
  refine lC6 hG hC ho 12 rfl dX5_isOlder_11 ?_
  refine sm_icmp_ge hG 19 15 rfl dX5_isOlder_12 (by decide) ?_ ?_
  · refine sm_iconst (x := (0 : Int32)) hG 20 rfl dX5_isOlder_19 rfl ?_
    exact sm_bret hG hT ⟨Nat.zero_le _, Nat.zero_le _⟩ dX5_isOlder_20 rfl
  · refine sm_iconst (x := (1 : Int32)) hG 16 rfl dX5_isOlder_15 rfl ?_
    refine sm_goto hG 20 dX5_isOlder_16 (by decide) ?_
    exact sm_bret hG hT ⟨Nat.zero_le _, Nat.zero_le _⟩ dX5_isOlder_20 rfl
abbrev rmX3_chooseDescant : Room := { frames := 1, cells := 0, slots := 0, locals := 22 }
set_option maxRecDepth 100000 in
set_option maxHeartbeats 4000000 in
theorem c_X3_chooseDescant {Λ : jL kC} (hC : LC Λ) {o : Nat} {k2 : kC} (ho : o < 7) (hk2 : isA Λ 0 30 k2) {l : Launch} {v : mC} {r : Int32} (hr_ : f_X3_chooseDescant o k2 v = some r) : Ct l yX3_chooseDescant wsX3_chooseDescant rmX3_chooseDescant Λ [.ref (Λ.2.2.2.1 (35, 0, 0)), .ref (Λ.2.2.2.1 (2, o, 0)), .ref (Λ.2.2.2.1 k2)] v (some (.int r)) v := by
  refine ct_of (cc := cX3_chooseDescant) (maxL := 5) (ret := (some .int)) (fun (q : Int32) => (some (Value.int q), v)) hC.1 hr_ (by decide) rfl (Nat.le_of_ble_eq_true rfl) (fun Γ hG hT hN hl => ?_)
  subst hl
  have f69 : Cond.fieldLink RX3 69 "ChoirRegister$Roster" "count" "I" ∈ wsX3_chooseDescant := by decide +kernel
  have f9 : Cond.fieldLink RX3 9 "ChoirRegister$Lineup" "lines" "[I" ∈ wsX3_chooseDescant := by decide +kernel
  have u3 : ∀ w ∈ wsX30, w ∈ wsX3_chooseDescant := by decide +kernel
  have u5 : ∀ w ∈ wsX50, w ∈ wsX3_chooseDescant := by decide +kernel
  show Sm Γ Λ (0, 0) 0 [(0, .ref (Λ.2.2.2.1 (35, 0, 0))), (1, .ref (Λ.2.2.2.1 (2, o, 0))), (2, .ref (Λ.2.2.2.1 k2))] [] v _
  unfold f_X3_chooseDescant
  refine sm_iconst (x := (-1 : Int32)) hG 1 rfl dX3_chooseDescant_0 rfl ?_
  refine sm_istore_n hG 2 rfl dX3_chooseDescant_1 rfl (jlt hN rfl) [(3, .int (-1 : Int32)), (0, .ref (Λ.2.2.2.1 (35, 0, 0))), (1, .ref (Λ.2.2.2.1 (2, o, 0))), (2, .ref (Λ.2.2.2.1 k2))] rfl ?_
  refine sm_iconst (x := (0 : Int32)) hG 3 rfl dX3_chooseDescant_2 rfl ?_
  refine sm_istore hG 5 rfl dX3_chooseDescant_3 (jlt hN rfl) [(4, .int (0 : Int32)), (3, .int (-1 : Int32)), (0, .ref (Λ.2.2.2.1 (35, 0, 0))), (1, .ref (Λ.2.2.2.1 (2, o, 0))), (2, .ref (Λ.2.2.2.1 k2))] rfl ?_
  refine sm_loc [2, 3, 4, 1, 0] [(0, .ref (Λ.2.2.2.1 (35, 0, 0))), (1, .ref (Λ.2.2.2.1 (2, o, 0))), (2, .ref (Λ.2.2.2.1 k2)), (3, .int (-1 : Int32)), (4, .int (0 : Int32))] rfl ?_
  refine lp_ind (fun (X5 : Int32 → Int32 → Option Int32) => ∀ (x3_5 : Int32) (x4_5 : Int32), Sm Γ Λ (0, 0) 5 [(0, .ref (Λ.2.2.2.1 (35, 0, 0))), (1, .ref (Λ.2.2.2.1 (2, o, 0))), (2, .ref (Λ.2.2.2.1 k2)), (3, .int x3_5), (4, .int x4_5)] [] v (X5 x3_5 x4_5)) (fun _ _ => sm_none) (fun self5 hs5 x3_5 x4_5 => ?_) 8192 _ _
  refine sm_iload hG 7 rfl dX3_chooseDescant_5 4 rfl ?_
  refine sm_aload_n hG 8 rfl dX3_chooseDescant_7 rfl 1 rfl ?_
  refine gC2_0 hG hC ho 11 rfl u5 f69 dX3_chooseDescant_8 ?_
  refine sm_icmp_ge hG 71 14 rfl dX3_chooseDescant_11 (by decide) ?_ ?_
  · refine sm_iload_n hG 72 rfl dX3_chooseDescant_71 rfl 3 rfl ?_
    exact sm_iret hG hT ⟨Nat.zero_le _, Nat.zero_le _⟩ dX3_chooseDescant_72 rfl
  · refine sm_aload_n hG 15 rfl dX3_chooseDescant_14 rfl 0 rfl ?_
    refine gC35_0 hG hC  18 rfl u3 f9 dX3_chooseDescant_15 ?_
    refine sm_iload hG 20 rfl dX3_chooseDescant_18 4 rfl ?_
    refine lC36 hG hC  21 rfl dX3_chooseDescant_20 ?_
    refine sm_if_eq hG 27 24 rfl dX3_chooseDescant_21 (by decide) ?_ ?_
    · refine sm_iload_n hG 28 rfl dX3_chooseDescant_27 rfl 3 rfl ?_
      refine sm_iconst (x := (-1 : Int32)) hG 29 rfl dX3_chooseDescant_28 rfl ?_
      refine sm_icmp_eq hG 62 32 rfl dX3_chooseDescant_29 (by decide) ?_ ?_
      · refine sm_iload hG 64 rfl dX3_chooseDescant_62 4 rfl ?_
        refine sm_istore_n hG 65 rfl dX3_chooseDescant_64 rfl (jlt hN rfl) [(3, .int x4_5), (0, .ref (Λ.2.2.2.1 (35, 0, 0))), (1, .ref (Λ.2.2.2.1 (2, o, 0))), (2, .ref (Λ.2.2.2.1 k2)), (4, .int x4_5)] rfl ?_
        refine sm_iinc hG 68 rfl dX3_chooseDescant_65 (j := 4) rfl rfl (jlt hN rfl) [(4, .int (x4_5 + (1 : Int32))), (3, .int x4_5), (0, .ref (Λ.2.2.2.1 (35, 0, 0))), (1, .ref (Λ.2.2.2.1 (2, o, 0))), (2, .ref (Λ.2.2.2.1 k2))] rfl ?_
        refine sm_goto hG 5 dX3_chooseDescant_68 (by decide) ?_
        refine sm_loc [2, 3, 4, 1, 0] [(0, .ref (Λ.2.2.2.1 (35, 0, 0))), (1, .ref (Λ.2.2.2.1 (2, o, 0))), (2, .ref (Λ.2.2.2.1 k2)), (3, .int x4_5), (4, .int (x4_5 + (1 : Int32)))] rfl ?_
        exact hs5 _ _
      · refine sm_aload_n hG 33 rfl dX3_chooseDescant_32 rfl 2 rfl ?_
        refine sm_iload hG 35 rfl dX3_chooseDescant_33 4 rfl ?_
        refine lA hG hk2 36 rfl dX3_chooseDescant_35 ?_
        refine sm_aload_n hG 37 rfl dX3_chooseDescant_36 rfl 2 rfl ?_
        refine sm_iload_n hG 38 rfl dX3_chooseDescant_37 rfl 3 rfl ?_
        refine lA hG hk2 39 rfl dX3_chooseDescant_38 ?_
        refine sm_icmp_lt hG 62 42 rfl dX3_chooseDescant_39 (by decide) ?_ ?_
        · refine sm_iload hG 64 rfl dX3_chooseDescant_62 4 rfl ?_
          refine sm_istore_n hG 65 rfl dX3_chooseDescant_64 rfl (jlt hN rfl) [(3, .int x4_5), (0, .ref (Λ.2.2.2.1 (35, 0, 0))), (1, .ref (Λ.2.2.2.1 (2, o, 0))), (2, .ref (Λ.2.2.2.1 k2)), (4, .int x4_5)] rfl ?_
          refine sm_iinc hG 68 rfl dX3_chooseDescant_65 (j := 4) rfl rfl (jlt hN rfl) [(4, .int (x4_5 + (1 : Int32))), (3, .int x4_5), (0, .ref (Λ.2.2.2.1 (35, 0, 0))), (1, .ref (Λ.2.2.2.1 (2, o, 0))), (2, .ref (Λ.2.2.2.1 k2))] rfl ?_
          refine sm_goto hG 5 dX3_chooseDescant_68 (by decide) ?_
          refine sm_loc [2, 3, 4, 1, 0] [(0, .ref (Λ.2.2.2.1 (35, 0, 0))), (1, .ref (Λ.2.2.2.1 (2, o, 0))), (2, .ref (Λ.2.2.2.1 k2)), (3, .int x4_5), (4, .int (x4_5 + (1 : Int32)))] rfl ?_
          exact hs5 _ _
        · refine sm_aload_n hG 43 rfl dX3_chooseDescant_42 rfl 2 rfl ?_
          refine sm_iload hG 45 rfl dX3_chooseDescant_43 4 rfl ?_
          refine lA hG hk2 46 rfl dX3_chooseDescant_45 ?_
          refine sm_aload_n hG 47 rfl dX3_chooseDescant_46 rfl 2 rfl ?_
          refine sm_iload_n hG 48 rfl dX3_chooseDescant_47 rfl 3 rfl ?_
          refine lA hG hk2 49 rfl dX3_chooseDescant_48 ?_
          refine sm_icmp_ne hG 65 52 rfl dX3_chooseDescant_49 (by decide) ?_ ?_
          · refine sm_iinc hG 68 rfl dX3_chooseDescant_65 (j := 4) rfl rfl (jlt hN rfl) [(4, .int (x4_5 + (1 : Int32))), (0, .ref (Λ.2.2.2.1 (35, 0, 0))), (1, .ref (Λ.2.2.2.1 (2, o, 0))), (2, .ref (Λ.2.2.2.1 k2)), (3, .int x3_5)] rfl ?_
            refine sm_goto hG 5 dX3_chooseDescant_68 (by decide) ?_
            refine sm_loc [1, 2, 3, 4, 0] [(0, .ref (Λ.2.2.2.1 (35, 0, 0))), (1, .ref (Λ.2.2.2.1 (2, o, 0))), (2, .ref (Λ.2.2.2.1 k2)), (3, .int x3_5), (4, .int (x4_5 + (1 : Int32)))] rfl ?_
            exact hs5 _ _
          · refine sm_aload_n hG 53 rfl dX3_chooseDescant_52 rfl 1 rfl ?_
            refine sm_iload hG 55 rfl dX3_chooseDescant_53 4 rfl ?_
            refine sm_iload_n hG 56 rfl dX3_chooseDescant_55 rfl 3 rfl ?_
            refine sm_callV hG (fun (q : Int32) => (some (Value.int q), v)) (2, o, 0) [.int x4_5, .int x3_5] 59 rfl (okb hC (by decide) ho) (ce_2 hC _) (ci := 5) rfl (fun r_ hr_ => c_X5_isOlder hC ho  hr_) gX3_chooseDescant_X5_isOlder rfl (by decide) (by decide) (n := 2) rfl (Nat.le_of_ble_eq_true rfl) (by decide) ⟨Nat.zero_le _, Nat.zero_le _⟩ rfl dX3_chooseDescant_56 (fun r_56 => ?_)
            refine sm_if_eq hG 65 62 rfl dX3_chooseDescant_59 (by decide) ?_ ?_
            · refine sm_iinc hG 68 rfl dX3_chooseDescant_65 (j := 4) rfl rfl (jlt hN rfl) [(4, .int (x4_5 + (1 : Int32))), (0, .ref (Λ.2.2.2.1 (35, 0, 0))), (1, .ref (Λ.2.2.2.1 (2, o, 0))), (2, .ref (Λ.2.2.2.1 k2)), (3, .int x3_5)] rfl ?_
              refine sm_goto hG 5 dX3_chooseDescant_68 (by decide) ?_
              refine sm_loc [1, 2, 3, 4, 0] [(0, .ref (Λ.2.2.2.1 (35, 0, 0))), (1, .ref (Λ.2.2.2.1 (2, o, 0))), (2, .ref (Λ.2.2.2.1 k2)), (3, .int x3_5), (4, .int (x4_5 + (1 : Int32)))] rfl ?_
              exact hs5 _ _
            · refine sm_iload hG 64 rfl dX3_chooseDescant_62 4 rfl ?_
              refine sm_istore_n hG 65 rfl dX3_chooseDescant_64 rfl (jlt hN rfl) [(3, .int x4_5), (0, .ref (Λ.2.2.2.1 (35, 0, 0))), (1, .ref (Λ.2.2.2.1 (2, o, 0))), (2, .ref (Λ.2.2.2.1 k2)), (4, .int x4_5)] rfl ?_
              refine sm_iinc hG 68 rfl dX3_chooseDescant_65 (j := 4) rfl rfl (jlt hN rfl) [(4, .int (x4_5 + (1 : Int32))), (3, .int x4_5), (0, .ref (Λ.2.2.2.1 (35, 0, 0))), (1, .ref (Λ.2.2.2.1 (2, o, 0))), (2, .ref (Λ.2.2.2.1 k2))] rfl ?_
              refine sm_goto hG 5 dX3_chooseDescant_68 (by decide) ?_
              refine sm_loc [2, 3, 4, 1, 0] [(0, .ref (Λ.2.2.2.1 (35, 0, 0))), (1, .ref (Λ.2.2.2.1 (2, o, 0))), (2, .ref (Λ.2.2.2.1 k2)), (3, .int x4_5), (4, .int (x4_5 + (1 : Int32)))] rfl ?_
              exact hs5 _ _
    · refine sm_goto hG 65 dX3_chooseDescant_24 (by decide) ?_
      refine sm_iinc hG 68 rfl dX3_chooseDescant_65 (j := 4) rfl rfl (jlt hN rfl) [(4, .int (x4_5 + (1 : Int32))), (0, .ref (Λ.2.2.2.1 (35, 0, 0))), (1, .ref (Λ.2.2.2.1 (2, o, 0))), (2, .ref (Λ.2.2.2.1 k2)), (3, .int x3_5)] rfl ?_
      refine sm_goto hG 5 dX3_chooseDescant_68 (by decide) ?_
      refine sm_loc [1, 2, 3, 4, 0] [(0, .ref (Λ.2.2.2.1 (35, 0, 0))), (1, .ref (Λ.2.2.2.1 (2, o, 0))), (2, .ref (Λ.2.2.2.1 k2)), (3, .int x3_5), (4, .int (x4_5 + (1 : Int32)))] rfl ?_
      exact hs5 _ _
abbrev rmX0_enterLineup : Room := { frames := 2, cells := 0, slots := 0, locals := 46 }
set_option maxRecDepth 100000 in
set_option maxHeartbeats 4000000 in
theorem c_X0_enterLineup {Λ : jL kC} (hC : LC Λ) {o : Nat} {x1 : Int32} (ho : o < 7) {l : Launch} {v : mC} {r : mC} (hr_ : f_X0_enterLineup o x1 v = some r) : Ct l yX0_enterLineup wsX0_enterLineup rmX0_enterLineup Λ [.ref (Λ.2.2.2.1 (1, o, 0)), .int x1, .ref (Λ.2.2.2.1 (35, 0, 0))] v none r := by
  refine ct_of (cc := cX0_enterLineup) (maxL := 5) (ret := none) (fun (w : mC) => ((none : Option Value), w)) hC.1 hr_ (by decide) rfl (Nat.le_of_ble_eq_true rfl) (fun Γ hG hT hN hl => ?_)
  subst hl
  have f173 : Cond.fieldLink RX0 173 "ChoirRegister$Roster" "descantsSung" "[I" ∈ wsX0_enterLineup := by decide +kernel
  have f18 : Cond.fieldLink RX0 18 "ChoirRegister$Book" "roster" "LChoirRegister$Roster;" ∈ wsX0_enterLineup := by decide +kernel
  have f180 : Cond.fieldLink RX0 180 "ChoirRegister$Calendar" "descant" "[I" ∈ wsX0_enterLineup := by decide +kernel
  have f183 : Cond.fieldLink RX0 183 "ChoirRegister$Lineup" "lines" "[I" ∈ wsX0_enterLineup := by decide +kernel
  have f186 : Cond.fieldLink RX0 186 "ChoirRegister$Calendar" "linesSung" "[[I" ∈ wsX0_enterLineup := by decide +kernel
  have f189 : Cond.fieldLink RX0 189 "ChoirRegister$Roster" "count" "I" ∈ wsX0_enterLineup := by decide +kernel
  have f192 : Cond.fieldLink RX0 192 "ChoirRegister$Roster" "feastsSung" "[I" ∈ wsX0_enterLineup := by decide +kernel
  have f32 : Cond.fieldLink RX0 32 "ChoirRegister$Book" "calendar" "LChoirRegister$Calendar;" ∈ wsX0_enterLineup := by decide +kernel
  have fa1 : Cond.methodLink RX0 65 arraycopyName ∈ wsX0_enterLineup := by decide +kernel
  have fa2 : Cond.native arraycopyName ∈ wsX0_enterLineup := by decide +kernel
  have fa3 : Cond.static arraycopyName ∈ wsX0_enterLineup := by decide +kernel
  have fa4 : Cond.initialized "java/lang/System" ∈ wsX0_enterLineup := by decide +kernel
  have u0 : ∀ w ∈ wsX00, w ∈ wsX0_enterLineup := by decide +kernel
  have u1 : ∀ w ∈ wsX10, w ∈ wsX0_enterLineup := by decide +kernel
  have u3 : ∀ w ∈ wsX30, w ∈ wsX0_enterLineup := by decide +kernel
  have u5 : ∀ w ∈ wsX50, w ∈ wsX0_enterLineup := by decide +kernel
  show Sm Γ Λ (0, 0) 0 [(0, .ref (Λ.2.2.2.1 (1, o, 0))), (1, .int x1), (2, .ref (Λ.2.2.2.1 (35, 0, 0)))] [] v _
  unfold f_X0_enterLineup
  refine sm_jn (fun (X44 : mC → Option mC) => ∀ (v_44 : mC), Sm Γ Λ (0, 0) 44 [(0, .ref (Λ.2.2.2.1 (1, o, 0))), (1, .int x1), (2, .ref (Λ.2.2.2.1 (35, 0, 0)))] [] v_44 (X44 v_44)) (fun v_44 => ?_) (fun j44 hj44 => ?_)
  · refine sm_aload_n hG 45 rfl dX0_enterLineup_44 rfl 2 rfl ?_
    refine gC35_0 hG hC  48 rfl u3 f183 dX0_enterLineup_45 ?_
    refine sm_iconst (x := (0 : Int32)) hG 49 rfl dX0_enterLineup_48 rfl ?_
    refine sm_aload_n hG 50 rfl dX0_enterLineup_49 rfl 0 rfl ?_
    refine gC1_3 hG hC ho 53 rfl u0 f32 dX0_enterLineup_50 ?_
    refine gC18_7 hG hC ho 56 rfl u1 f186 dX0_enterLineup_53 ?_
    refine sm_iload_n hG 57 rfl dX0_enterLineup_56 rfl 1 rfl ?_
    refine lC25 hG hC ho 58 rfl dX0_enterLineup_57 (fun hf57_1 => ?_)
    refine sm_iconst (x := (0 : Int32)) hG 59 rfl dX0_enterLineup_58 rfl ?_
    refine sm_bipush (x := (30 : Int32)) hG 61 rfl dX0_enterLineup_59 rfl ?_
    refine cA hG (ic_36 hC ) (ic_29 hC ho hf57_1) 64 rfl fa1 fa2 fa3 fa4 (by decide) (Nat.le_of_ble_eq_true rfl) dX0_enterLineup_61 ?_
    refine sm_nmv (fun w61_3 => ?_)
    refine sm_iconst (x := (0 : Int32)) hG 65 rfl dX0_enterLineup_64 rfl ?_
    refine sm_istore hG 67 rfl dX0_enterLineup_65 (jlt hN rfl) [(4, .int (0 : Int32)), (0, .ref (Λ.2.2.2.1 (1, o, 0))), (1, .int x1), (2, .ref (Λ.2.2.2.1 (35, 0, 0)))] rfl ?_
    refine sm_loc [1, 3, 0] [(0, .ref (Λ.2.2.2.1 (1, o, 0))), (2, .ref (Λ.2.2.2.1 (35, 0, 0))), (4, .int (0 : Int32))] rfl ?_
    refine lp_ind (fun (X67 : Int32 → mC → Option mC) => ∀ (x4_67 : Int32) (v_67 : mC), Sm Γ Λ (0, 0) 67 [(0, .ref (Λ.2.2.2.1 (1, o, 0))), (2, .ref (Λ.2.2.2.1 (35, 0, 0))), (4, .int x4_67)] [] v_67 (X67 x4_67 v_67)) (fun _ _ => sm_none) (fun self67 hs67 x4_67 v_67 => ?_) 8192 _ _
    refine sm_iload hG 69 rfl dX0_enterLineup_67 2 rfl ?_
    refine sm_aload_n hG 70 rfl dX0_enterLineup_69 rfl 0 rfl ?_
    refine gC1_1 hG hC ho 73 rfl u0 f18 dX0_enterLineup_70 ?_
    refine gC2_0 hG hC ho 76 rfl u5 f189 dX0_enterLineup_73 ?_
    refine sm_icmp_ge hG 110 79 rfl dX0_enterLineup_76 (by decide) ?_ ?_
    · exact sm_vret hG hT ⟨Nat.zero_le _, Nat.zero_le _⟩ dX0_enterLineup_110 rfl
    · refine sm_aload_n hG 80 rfl dX0_enterLineup_79 rfl 1 rfl ?_
      refine gC35_0 hG hC  83 rfl u3 f183 dX0_enterLineup_80 ?_
      refine sm_iload hG 85 rfl dX0_enterLineup_83 2 rfl ?_
      refine lC36 hG hC  86 rfl dX0_enterLineup_85 ?_
      refine sm_iconst (x := (-1 : Int32)) hG 87 rfl dX0_enterLineup_86 rfl ?_
      refine sm_icmp_eq hG 104 90 rfl dX0_enterLineup_87 (by decide) ?_ ?_
      · refine sm_iinc hG 107 rfl dX0_enterLineup_104 (j := 2) rfl rfl (jlt hN rfl) [(4, .int (x4_67 + (1 : Int32))), (0, .ref (Λ.2.2.2.1 (1, o, 0))), (2, .ref (Λ.2.2.2.1 (35, 0, 0)))] rfl ?_
        refine sm_goto hG 67 dX0_enterLineup_107 (by decide) ?_
        refine sm_loc [1, 2, 0] [(0, .ref (Λ.2.2.2.1 (1, o, 0))), (2, .ref (Λ.2.2.2.1 (35, 0, 0))), (4, .int (x4_67 + (1 : Int32)))] rfl ?_
        exact hs67 _ _
      · refine sm_aload_n hG 91 rfl dX0_enterLineup_90 rfl 0 rfl ?_
        refine gC1_1 hG hC ho 94 rfl u0 f18 dX0_enterLineup_91 ?_
        refine gC2_10 hG hC ho 97 rfl u5 f192 dX0_enterLineup_94 ?_
        refine sm_iload hG 99 rfl dX0_enterLineup_97 2 rfl ?_
        refine sm_dup2 hG 100 rfl dX0_enterLineup_99 rfl rfl ?_
        refine lC12 hG hC ho 101 rfl dX0_enterLineup_100 ?_
        refine sm_iconst (x := (1 : Int32)) hG 102 rfl dX0_enterLineup_101 rfl ?_
        refine sm_iadd hG 103 rfl dX0_enterLineup_102 ?_
        refine sC12 hG hC ho 104 rfl dX0_enterLineup_103 ?_
        refine sm_nmv (fun w103_4 => ?_)
        refine sm_iinc hG 107 rfl dX0_enterLineup_104 (j := 2) rfl rfl (jlt hN rfl) [(4, .int (x4_67 + (1 : Int32))), (0, .ref (Λ.2.2.2.1 (1, o, 0))), (2, .ref (Λ.2.2.2.1 (35, 0, 0)))] rfl ?_
        refine sm_goto hG 67 dX0_enterLineup_107 (by decide) ?_
        refine sm_loc [1, 2, 0] [(0, .ref (Λ.2.2.2.1 (1, o, 0))), (2, .ref (Λ.2.2.2.1 (35, 0, 0))), (4, .int (x4_67 + (1 : Int32)))] rfl ?_
        exact hs67 _ _
  · refine sm_aload_n hG 1 rfl dX0_enterLineup_0 rfl 2 rfl ?_
    refine sm_aload_n hG 2 rfl dX0_enterLineup_1 rfl 0 rfl ?_
    refine gC1_1 hG hC ho 5 rfl u0 f18 dX0_enterLineup_2 ?_
    refine sm_aload_n hG 6 rfl dX0_enterLineup_5 rfl 0 rfl ?_
    refine gC1_1 hG hC ho 9 rfl u0 f18 dX0_enterLineup_6 ?_
    refine gC2_11 hG hC ho 12 rfl u5 f173 dX0_enterLineup_9 ?_
    refine sm_callV hG (fun (q : Int32) => (some (Value.int q), v)) (35, 0, 0) [.ref (Λ.2.2.2.1 (2, o, 0)), .ref (Λ.2.2.2.1 (13, o, 0))] 15 rfl (oks hC (by decide)) (ce_35 hC _) (ci := 3) rfl (fun r_ hr_ => c_X3_chooseDescant hC ho (ic_13 hC ho)  hr_) gX0_enterLineup_X3_chooseDescant rfl (by decide) (by decide) (n := 2) rfl (Nat.le_of_ble_eq_true rfl) (by decide) ⟨Nat.zero_le _, Nat.zero_le _⟩ rfl dX0_enterLineup_12 (fun r_12 => ?_)
    refine sm_istore_n hG 16 rfl dX0_enterLineup_15 rfl (jlt hN rfl) [(3, .int r_12), (0, .ref (Λ.2.2.2.1 (1, o, 0))), (1, .int x1), (2, .ref (Λ.2.2.2.1 (35, 0, 0)))] rfl ?_
    refine sm_aload_n hG 17 rfl dX0_enterLineup_16 rfl 1 rfl ?_
    refine gC1_3 hG hC ho 20 rfl u0 f32 dX0_enterLineup_17 ?_
    refine gC18_3 hG hC ho 23 rfl u1 f180 dX0_enterLineup_20 ?_
    refine sm_iload_n hG 24 rfl dX0_enterLineup_23 rfl 2 rfl ?_
    refine sm_iload_n hG 25 rfl dX0_enterLineup_24 rfl 0 rfl ?_
    refine sC21 hG hC ho 26 rfl dX0_enterLineup_25 ?_
    refine sm_nmv (fun w25_1 => ?_)
    refine sm_iload_n hG 27 rfl dX0_enterLineup_26 rfl 0 rfl ?_
    refine sm_iconst (x := (-1 : Int32)) hG 28 rfl dX0_enterLineup_27 rfl ?_
    refine sm_icmp_eq hG 44 31 rfl dX0_enterLineup_28 (by decide) ?_ ?_
    · refine sm_loc [1, 2, 3] [(0, .ref (Λ.2.2.2.1 (1, o, 0))), (1, .int x1), (2, .ref (Λ.2.2.2.1 (35, 0, 0)))] rfl ?_
      exact hj44 _
    · refine sm_aload_n hG 32 rfl dX0_enterLineup_31 rfl 1 rfl ?_
      refine gC1_1 hG hC ho 35 rfl u0 f18 dX0_enterLineup_32 ?_
      refine gC2_11 hG hC ho 38 rfl u5 f173 dX0_enterLineup_35 ?_
      refine sm_iload_n hG 39 rfl dX0_enterLineup_38 rfl 0 rfl ?_
      refine sm_dup2 hG 40 rfl dX0_enterLineup_39 rfl rfl ?_
      refine lC13 hG hC ho 41 rfl dX0_enterLineup_40 ?_
      refine sm_iconst (x := (1 : Int32)) hG 42 rfl dX0_enterLineup_41 rfl ?_
      refine sm_iadd hG 43 rfl dX0_enterLineup_42 ?_
      refine sC13 hG hC ho 44 rfl dX0_enterLineup_43 ?_
      refine sm_nmv (fun w43_2 => ?_)
      refine sm_loc [1, 2, 3] [(0, .ref (Λ.2.2.2.1 (1, o, 0))), (1, .int x1), (2, .ref (Λ.2.2.2.1 (35, 0, 0)))] rfl ?_
      exact hj44 _
abbrev rmX3_countIn : Room := { frames := 0, cells := 0, slots := 0, locals := 0 }
set_option maxRecDepth 100000 in
set_option maxHeartbeats 4000000 in
theorem c_X3_countIn {Λ : jL kC} (hC : LC Λ) {x1 : Int32}  {l : Launch} {v : mC} {r : Int32} (hr_ : f_X3_countIn x1 v = some r) : Ct l yX3_countIn wsX3_countIn rmX3_countIn Λ [.ref (Λ.2.2.2.1 (35, 0, 0)), .int x1] v (some (.int r)) v := by
  refine ct_of (cc := cX3_countIn) (maxL := 4) (ret := (some .int)) (fun (q : Int32) => (some (Value.int q), v)) hC.1 hr_ (by decide) rfl (Nat.le_of_ble_eq_true rfl) (fun Γ hG hT hN hl => ?_)
  subst hl
  have f9 : Cond.fieldLink RX3 9 "ChoirRegister$Lineup" "lines" "[I" ∈ wsX3_countIn := by decide +kernel
  have u3 : ∀ w ∈ wsX30, w ∈ wsX3_countIn := by decide +kernel
  show Sm Γ Λ (0, 0) 0 [(0, .ref (Λ.2.2.2.1 (35, 0, 0))), (1, .int x1)] [] v _
  unfold f_X3_countIn
  refine sm_iconst (x := (0 : Int32)) hG 1 rfl dX3_countIn_0 rfl ?_
  refine sm_istore_n hG 2 rfl dX3_countIn_1 rfl (jlt hN rfl) [(2, .int (0 : Int32)), (0, .ref (Λ.2.2.2.1 (35, 0, 0))), (1, .int x1)] rfl ?_
  refine sm_iconst (x := (0 : Int32)) hG 3 rfl dX3_countIn_2 rfl ?_
  refine sm_istore_n hG 4 rfl dX3_countIn_3 rfl (jlt hN rfl) [(3, .int (0 : Int32)), (2, .int (0 : Int32)), (0, .ref (Λ.2.2.2.1 (35, 0, 0))), (1, .int x1)] rfl ?_
  refine sm_loc [2, 3, 1, 0] [(0, .ref (Λ.2.2.2.1 (35, 0, 0))), (1, .int x1), (2, .int (0 : Int32)), (3, .int (0 : Int32))] rfl ?_
  refine lp_ind (fun (X4 : Int32 → Int32 → Option Int32) => ∀ (x2_4 : Int32) (x3_4 : Int32), Sm Γ Λ (0, 0) 4 [(0, .ref (Λ.2.2.2.1 (35, 0, 0))), (1, .int x1), (2, .int x2_4), (3, .int x3_4)] [] v (X4 x2_4 x3_4)) (fun _ _ => sm_none) (fun self4 hs4 x2_4 x3_4 => ?_) 8192 _ _
  refine sm_iload_n hG 5 rfl dX3_countIn_4 rfl 3 rfl ?_
  refine sm_bipush (x := (30 : Int32)) hG 7 rfl dX3_countIn_5 rfl ?_
  refine sm_icmp_ge hG 29 10 rfl dX3_countIn_7 (by decide) ?_ ?_
  · refine sm_iload_n hG 30 rfl dX3_countIn_29 rfl 2 rfl ?_
    exact sm_iret hG hT ⟨Nat.zero_le _, Nat.zero_le _⟩ dX3_countIn_30 rfl
  · refine sm_aload_n hG 11 rfl dX3_countIn_10 rfl 0 rfl ?_
    refine gC35_0 hG hC  14 rfl u3 f9 dX3_countIn_11 ?_
    refine sm_iload_n hG 15 rfl dX3_countIn_14 rfl 3 rfl ?_
    refine lC36 hG hC  16 rfl dX3_countIn_15 ?_
    refine sm_iload_n hG 17 rfl dX3_countIn_16 rfl 1 rfl ?_
    refine sm_icmp_ne hG 23 20 rfl dX3_countIn_17 (by decide) ?_ ?_
    · refine sm_iinc hG 26 rfl dX3_countIn_23 (j := 3) rfl rfl (jlt hN rfl) [(3, .int (x3_4 + (1 : Int32))), (0, .ref (Λ.2.2.2.1 (35, 0, 0))), (1, .int x1), (2, .int x2_4)] rfl ?_
      refine sm_goto hG 4 dX3_countIn_26 (by decide) ?_
      refine sm_loc [1, 2, 3, 0] [(0, .ref (Λ.2.2.2.1 (35, 0, 0))), (1, .int x1), (2, .int x2_4), (3, .int (x3_4 + (1 : Int32)))] rfl ?_
      exact hs4 _ _
    · refine sm_iinc hG 23 rfl dX3_countIn_20 (j := 2) rfl rfl (jlt hN rfl) [(2, .int (x2_4 + (1 : Int32))), (0, .ref (Λ.2.2.2.1 (35, 0, 0))), (1, .int x1), (3, .int x3_4)] rfl ?_
      refine sm_iinc hG 26 rfl dX3_countIn_23 (j := 3) rfl rfl (jlt hN rfl) [(3, .int (x3_4 + (1 : Int32))), (2, .int (x2_4 + (1 : Int32))), (0, .ref (Λ.2.2.2.1 (35, 0, 0))), (1, .int x1)] rfl ?_
      refine sm_goto hG 4 dX3_countIn_26 (by decide) ?_
      refine sm_loc [2, 3, 1, 0] [(0, .ref (Λ.2.2.2.1 (35, 0, 0))), (1, .int x1), (2, .int (x2_4 + (1 : Int32))), (3, .int (x3_4 + (1 : Int32)))] rfl ?_
      exact hs4 _ _
abbrev rmX3_countAll : Room := { frames := 1, cells := 0, slots := 0, locals := 23 }
set_option maxRecDepth 100000 in
set_option maxHeartbeats 4000000 in
theorem c_X3_countAll {Λ : jL kC} (hC : LC Λ)   {l : Launch} {v : mC} {r : Int32} (hr_ : f_X3_countAll v = some r) : Ct l yX3_countAll wsX3_countAll rmX3_countAll Λ [.ref (Λ.2.2.2.1 (35, 0, 0))] v (some (.int r)) v := by
  refine ct_of (cc := cX3_countAll) (maxL := 1) (ret := (some .int)) (fun (q : Int32) => (some (Value.int q), v)) hC.1 hr_ (by decide) rfl (Nat.le_of_ble_eq_true rfl) (fun Γ hG hT hN hl => ?_)
  subst hl
  show Sm Γ Λ (0, 0) 0 [(0, .ref (Λ.2.2.2.1 (35, 0, 0)))] [] v _
  unfold f_X3_countAll
  refine sm_bipush (x := (30 : Int32)) hG 2 rfl dX3_countAll_0 rfl ?_
  refine sm_aload_n hG 3 rfl dX3_countAll_2 rfl 0 rfl ?_
  refine sm_iconst (x := (-1 : Int32)) hG 4 rfl dX3_countAll_3 rfl ?_
  refine sm_callV hG (fun (q : Int32) => (some (Value.int q), v)) (35, 0, 0) [.int (-1 : Int32)] 7 rfl (oks hC (by decide)) (ce_35 hC _) (ci := 3) rfl (fun r_ hr_ => c_X3_countIn hC   hr_) gX3_countAll_X3_countIn rfl (by decide) (by decide) (n := 1) rfl (Nat.le_of_ble_eq_true rfl) (by decide) ⟨Nat.zero_le _, Nat.zero_le _⟩ rfl dX3_countAll_4 (fun r_4 => ?_)
  refine sm_isub hG 8 rfl dX3_countAll_7 ?_
  exact sm_iret hG hT ⟨Nat.zero_le _, Nat.zero_le _⟩ dX3_countAll_8 rfl
abbrev rmX0_settleAccounts : Room := { frames := 2, cells := 0, slots := 0, locals := 43 }
set_option maxRecDepth 100000 in
set_option maxHeartbeats 4000000 in
theorem c_X0_settleAccounts {Λ : jL kC} (hC : LC Λ) {o : Nat} {x1 : Int32} (ho : o < 7) {l : Launch} {v : mC} {r : mC} (hr_ : f_X0_settleAccounts o x1 v = some r) : Ct l yX0_settleAccounts wsX0_settleAccounts rmX0_settleAccounts Λ [.ref (Λ.2.2.2.1 (1, o, 0)), .int x1, .ref (Λ.2.2.2.1 (35, 0, 0))] v none r := by
  refine ct_of (cc := cX0_settleAccounts) (maxL := 6) (ret := none) (fun (w : mC) => ((none : Option Value), w)) hC.1 hr_ (by decide) rfl (Nat.le_of_ble_eq_true rfl) (fun Γ hG hT hN hl => ?_)
  subst hl
  have f107 : Cond.fieldLink RX0 107 "ChoirRegister$Roster" "fee" "[I" ∈ wsX0_settleAccounts := by decide +kernel
  have f18 : Cond.fieldLink RX0 18 "ChoirRegister$Book" "roster" "LChoirRegister$Roster;" ∈ wsX0_settleAccounts := by decide +kernel
  have f183 : Cond.fieldLink RX0 183 "ChoirRegister$Lineup" "lines" "[I" ∈ wsX0_settleAccounts := by decide +kernel
  have f189 : Cond.fieldLink RX0 189 "ChoirRegister$Roster" "count" "I" ∈ wsX0_settleAccounts := by decide +kernel
  have f195 : Cond.fieldLink RX0 195 "ChoirRegister$Calendar" "rank" "[I" ∈ wsX0_settleAccounts := by decide +kernel
  have f32 : Cond.fieldLink RX0 32 "ChoirRegister$Book" "calendar" "LChoirRegister$Calendar;" ∈ wsX0_settleAccounts := by decide +kernel
  have f40 : Cond.fieldLink RX0 40 "ChoirRegister$Book" "purse" "I" ∈ wsX0_settleAccounts := by decide +kernel
  have f46 : Cond.fieldLink RX0 46 "ChoirRegister$Book" "collected" "I" ∈ wsX0_settleAccounts := by decide +kernel
  have f49 : Cond.fieldLink RX0 49 "ChoirRegister$Book" "feesPaid" "I" ∈ wsX0_settleAccounts := by decide +kernel
  have f52 : Cond.fieldLink RX0 52 "ChoirRegister$Book" "finesPaid" "I" ∈ wsX0_settleAccounts := by decide +kernel
  have u0 : ∀ w ∈ wsX00, w ∈ wsX0_settleAccounts := by decide +kernel
  have u1 : ∀ w ∈ wsX10, w ∈ wsX0_settleAccounts := by decide +kernel
  have u3 : ∀ w ∈ wsX30, w ∈ wsX0_settleAccounts := by decide +kernel
  have u5 : ∀ w ∈ wsX50, w ∈ wsX0_settleAccounts := by decide +kernel
  show Sm Γ Λ (0, 0) 0 [(0, .ref (Λ.2.2.2.1 (1, o, 0))), (1, .int x1), (2, .ref (Λ.2.2.2.1 (35, 0, 0)))] [] v _
  unfold f_X0_settleAccounts
  refine sm_iconst (x := (0 : Int32)) hG 1 rfl dX0_settleAccounts_0 rfl ?_
  refine sm_istore_n hG 2 rfl dX0_settleAccounts_1 rfl (jlt hN rfl) [(3, .int (0 : Int32)), (0, .ref (Λ.2.2.2.1 (1, o, 0))), (1, .int x1), (2, .ref (Λ.2.2.2.1 (35, 0, 0)))] rfl ?_
  refine sm_iconst (x := (0 : Int32)) hG 3 rfl dX0_settleAccounts_2 rfl ?_
  refine sm_istore hG 5 rfl dX0_settleAccounts_3 (jlt hN rfl) [(4, .int (0 : Int32)), (3, .int (0 : Int32)), (0, .ref (Λ.2.2.2.1 (1, o, 0))), (1, .int x1), (2, .ref (Λ.2.2.2.1 (35, 0, 0)))] rfl ?_
  refine sm_loc [2, 3, 4, 1, 0] [(0, .ref (Λ.2.2.2.1 (1, o, 0))), (1, .int x1), (2, .ref (Λ.2.2.2.1 (35, 0, 0))), (3, .int (0 : Int32)), (4, .int (0 : Int32))] rfl ?_
  refine lp_ind (fun (X5 : Int32 → Int32 → Option mC) => ∀ (x3_5 : Int32) (x4_5 : Int32), Sm Γ Λ (0, 0) 5 [(0, .ref (Λ.2.2.2.1 (1, o, 0))), (1, .int x1), (2, .ref (Λ.2.2.2.1 (35, 0, 0))), (3, .int x3_5), (4, .int x4_5)] [] v (X5 x3_5 x4_5)) (fun _ _ => sm_none) (fun self5 hs5 x3_5 x4_5 => ?_) 8192 _ _
  refine sm_iload hG 7 rfl dX0_settleAccounts_5 4 rfl ?_
  refine sm_aload_n hG 8 rfl dX0_settleAccounts_7 rfl 0 rfl ?_
  refine gC1_1 hG hC ho 11 rfl u0 f18 dX0_settleAccounts_8 ?_
  refine gC2_0 hG hC ho 14 rfl u5 f189 dX0_settleAccounts_11 ?_
  refine sm_icmp_ge hG 47 17 rfl dX0_settleAccounts_14 (by decide) ?_ ?_
  · refine sm_aload_n hG 48 rfl dX0_settleAccounts_47 rfl 0 rfl ?_
    refine gC1_3 hG hC ho 51 rfl u0 f32 dX0_settleAccounts_48 ?_
    refine gC18_2 hG hC ho 54 rfl u1 f195 dX0_settleAccounts_51 ?_
    refine sm_iload_n hG 55 rfl dX0_settleAccounts_54 rfl 1 rfl ?_
    refine lC20 hG hC ho 56 rfl dX0_settleAccounts_55 ?_
    refine sm_aload_n hG 57 rfl dX0_settleAccounts_56 rfl 2 rfl ?_
    refine sm_callV hG (fun (q : Int32) => (some (Value.int q), v)) (35, 0, 0) [] 60 rfl (oks hC (by decide)) (ce_35 hC _) (ci := 3) rfl (fun r_ hr_ => c_X3_countAll hC   hr_) gX0_settleAccounts_X3_countAll rfl (by decide) (by decide) (n := 0) rfl (Nat.le_of_ble_eq_true rfl) (by decide) ⟨Nat.zero_le _, Nat.zero_le _⟩ rfl dX0_settleAccounts_57 (fun r_57 => ?_)
    refine sm_imul hG 61 rfl dX0_settleAccounts_60 ?_
    refine sm_istore hG 63 rfl dX0_settleAccounts_61 (jlt hN rfl) [(4, .int ((v (20, o, 0) (ix x1)) * r_57)), (0, .ref (Λ.2.2.2.1 (1, o, 0))), (1, .int x1), (2, .ref (Λ.2.2.2.1 (35, 0, 0))), (3, .int x3_5)] rfl ?_
    refine sm_aload_n hG 64 rfl dX0_settleAccounts_63 rfl 1 rfl ?_
    refine gC1_3 hG hC ho 67 rfl u0 f32 dX0_settleAccounts_64 ?_
    refine gC18_2 hG hC ho 70 rfl u1 f195 dX0_settleAccounts_67 ?_
    refine sm_iload_n hG 71 rfl dX0_settleAccounts_70 rfl 2 rfl ?_
    refine lC20 hG hC ho 72 rfl dX0_settleAccounts_71 ?_
    refine sm_aload_n hG 73 rfl dX0_settleAccounts_72 rfl 1 rfl ?_
    refine gC1_3 hG hC ho 76 rfl u0 f32 dX0_settleAccounts_73 ?_
    refine sm_iload_n hG 77 rfl dX0_settleAccounts_76 rfl 2 rfl ?_
    refine sm_callV hG (fun (q : Int32) => (some (Value.int q), v)) (18, o, 0) [.int x1] 80 rfl (okb hC (by decide) ho) (ce_18 hC _) (ci := 1) rfl (fun r_ hr_ => c_X1_allPlaces hC ho  hr_) gX0_settleAccounts_X1_allPlaces rfl (by decide) (by decide) (n := 1) rfl (Nat.le_of_ble_eq_true rfl) (by decide) ⟨Nat.zero_le _, Nat.zero_le _⟩ rfl dX0_settleAccounts_77 (fun r_77 => ?_)
    refine sm_aload_n hG 81 rfl dX0_settleAccounts_80 rfl 3 rfl ?_
    refine sm_callV hG (fun (q : Int32) => (some (Value.int q), v)) (35, 0, 0) [] 84 rfl (oks hC (by decide)) (ce_35 hC _) (ci := 3) rfl (fun r_ hr_ => c_X3_countAll hC   hr_) gX0_settleAccounts_X3_countAll rfl (by decide) (by decide) (n := 0) rfl (Nat.le_of_ble_eq_true rfl) (by decide) ⟨Nat.zero_le _, Nat.zero_le _⟩ rfl dX0_settleAccounts_81 (fun r_81 => ?_)
    refine sm_isub hG 85 rfl dX0_settleAccounts_84 ?_
    refine sm_imul hG 86 rfl dX0_settleAccounts_85 ?_
    refine sm_istore hG 88 rfl dX0_settleAccounts_86 (jlt hN rfl) [(5, .int ((v (20, o, 0) (ix x1)) * (r_77 - r_81))), (4, .int ((v (20, o, 0) (ix x1)) * r_57)), (0, .ref (Λ.2.2.2.1 (1, o, 0))), (1, .int x1), (2, .ref (Λ.2.2.2.1 (35, 0, 0))), (3, .int x3_5)] rfl ?_
    refine sm_aload_n hG 89 rfl dX0_settleAccounts_88 rfl 2 rfl ?_
    refine sm_dup hG 90 rfl dX0_settleAccounts_89 rfl ?_
    refine gC1_7 hG hC ho 93 rfl u0 f46 dX0_settleAccounts_90 ?_
    refine sm_iload hG 95 rfl dX0_settleAccounts_93 1 rfl ?_
    refine sm_iadd hG 96 rfl dX0_settleAccounts_95 ?_
    refine sm_nmi (fun y95_1 => ?_)
    refine pC1_7 hG hC ho 99 rfl u0 f46 dX0_settleAccounts_96 ?_
    refine sm_nmv (fun w96_2 => ?_)
    refine sm_aload_n hG 100 rfl dX0_settleAccounts_99 rfl 2 rfl ?_
    refine sm_dup hG 101 rfl dX0_settleAccounts_100 rfl ?_
    refine gC1_8 hG hC ho 104 rfl u0 f49 dX0_settleAccounts_101 ?_
    refine sm_iload_n hG 105 rfl dX0_settleAccounts_104 rfl 5 rfl ?_
    refine sm_iadd hG 106 rfl dX0_settleAccounts_105 ?_
    refine pC1_8 hG hC ho 109 rfl u0 f49 dX0_settleAccounts_106 ?_
    refine sm_nmv (fun w106_3 => ?_)
    refine sm_aload_n hG 110 rfl dX0_settleAccounts_109 rfl 2 rfl ?_
    refine sm_dup hG 111 rfl dX0_settleAccounts_110 rfl ?_
    refine gC1_9 hG hC ho 114 rfl u0 f52 dX0_settleAccounts_111 ?_
    refine sm_iload hG 116 rfl dX0_settleAccounts_114 0 rfl ?_
    refine sm_iadd hG 117 rfl dX0_settleAccounts_116 ?_
    refine sm_nmi (fun y116_4 => ?_)
    refine pC1_9 hG hC ho 120 rfl u0 f52 dX0_settleAccounts_117 ?_
    refine sm_nmv (fun w117_5 => ?_)
    refine sm_aload_n hG 121 rfl dX0_settleAccounts_120 rfl 2 rfl ?_
    refine sm_dup hG 122 rfl dX0_settleAccounts_121 rfl ?_
    refine gC1_5 hG hC ho 125 rfl u0 f40 dX0_settleAccounts_122 ?_
    refine sm_iload hG 127 rfl dX0_settleAccounts_125 1 rfl ?_
    refine sm_iload_n hG 128 rfl dX0_settleAccounts_127 rfl 5 rfl ?_
    refine sm_isub hG 129 rfl dX0_settleAccounts_128 ?_
    refine sm_iload hG 131 rfl dX0_settleAccounts_129 0 rfl ?_
    refine sm_isub hG 132 rfl dX0_settleAccounts_131 ?_
    refine sm_nmi (fun y131_6 => ?_)
    refine sm_iadd hG 133 rfl dX0_settleAccounts_132 ?_
    refine pC1_5 hG hC ho 136 rfl u0 f40 dX0_settleAccounts_133 ?_
    refine sm_nmv (fun w133_7 => ?_)
    exact sm_vret hG hT ⟨Nat.zero_le _, Nat.zero_le _⟩ dX0_settleAccounts_136 rfl
  · refine sm_aload_n hG 18 rfl dX0_settleAccounts_17 rfl 2 rfl ?_
    refine gC35_0 hG hC  21 rfl u3 f183 dX0_settleAccounts_18 ?_
    refine sm_iload hG 23 rfl dX0_settleAccounts_21 4 rfl ?_
    refine lC36 hG hC  24 rfl dX0_settleAccounts_23 ?_
    refine sm_iconst (x := (-1 : Int32)) hG 25 rfl dX0_settleAccounts_24 rfl ?_
    refine sm_icmp_eq hG 41 28 rfl dX0_settleAccounts_25 (by decide) ?_ ?_
    · refine sm_iinc hG 44 rfl dX0_settleAccounts_41 (j := 4) rfl rfl (jlt hN rfl) [(4, .int (x4_5 + (1 : Int32))), (0, .ref (Λ.2.2.2.1 (1, o, 0))), (1, .int x1), (2, .ref (Λ.2.2.2.1 (35, 0, 0))), (3, .int x3_5)] rfl ?_
      refine sm_goto hG 5 dX0_settleAccounts_44 (by decide) ?_
      refine sm_loc [1, 2, 3, 4, 0] [(0, .ref (Λ.2.2.2.1 (1, o, 0))), (1, .int x1), (2, .ref (Λ.2.2.2.1 (35, 0, 0))), (3, .int x3_5), (4, .int (x4_5 + (1 : Int32)))] rfl ?_
      exact hs5 _ _
    · refine sm_iload_n hG 29 rfl dX0_settleAccounts_28 rfl 3 rfl ?_
      refine sm_aload_n hG 30 rfl dX0_settleAccounts_29 rfl 0 rfl ?_
      refine gC1_1 hG hC ho 33 rfl u0 f18 dX0_settleAccounts_30 ?_
      refine gC2_7 hG hC ho 36 rfl u5 f107 dX0_settleAccounts_33 ?_
      refine sm_iload hG 38 rfl dX0_settleAccounts_36 4 rfl ?_
      refine lC9 hG hC ho 39 rfl dX0_settleAccounts_38 ?_
      refine sm_iadd hG 40 rfl dX0_settleAccounts_39 ?_
      refine sm_istore_n hG 41 rfl dX0_settleAccounts_40 rfl (jlt hN rfl) [(3, .int (x3_5 + (v (9, o, 0) (ix x4_5)))), (0, .ref (Λ.2.2.2.1 (1, o, 0))), (1, .int x1), (2, .ref (Λ.2.2.2.1 (35, 0, 0))), (4, .int x4_5)] rfl ?_
      refine sm_iinc hG 44 rfl dX0_settleAccounts_41 (j := 4) rfl rfl (jlt hN rfl) [(4, .int (x4_5 + (1 : Int32))), (3, .int (x3_5 + (v (9, o, 0) (ix x4_5)))), (0, .ref (Λ.2.2.2.1 (1, o, 0))), (1, .int x1), (2, .ref (Λ.2.2.2.1 (35, 0, 0)))] rfl ?_
      refine sm_goto hG 5 dX0_settleAccounts_44 (by decide) ?_
      refine sm_loc [2, 3, 4, 1, 0] [(0, .ref (Λ.2.2.2.1 (1, o, 0))), (1, .int x1), (2, .ref (Λ.2.2.2.1 (35, 0, 0))), (3, .int (x3_5 + (v (9, o, 0) (ix x4_5)))), (4, .int (x4_5 + (1 : Int32)))] rfl ?_
      exact hs5 _ _
