abbrev rmX4_copyFrom : Room := { frames := 1, cells := 0, slots := 0, locals := 26 }
set_option maxRecDepth 100000 in
set_option maxHeartbeats 4000000 in
theorem c_X4_copyFrom {Λ : jL kC} (hC : LC Λ) {o : Nat} {o1 : Nat} (ho : o < 7) (ho1 : o1 < 7) {l : Launch} {v : mC} {r : mC} (hr_ : f_X4_copyFrom o o1 v = some r) : Ct l yX4_copyFrom wsX4_copyFrom rmX4_copyFrom Λ [.ref (Λ.2.2.2.1 (14, o, 0)), .ref (Λ.2.2.2.1 (14, o1, 0))] v none r := by
  refine ct_of (cc := cX4_copyFrom) (maxL := 2) (ret := none) (fun (w : mC) => ((none : Option Value), w)) hC.1 hr_ (by decide) rfl (Nat.le_of_ble_eq_true rfl) (fun Γ hG hT hN hl => ?_)
  subst hl
  have f15 : Cond.fieldLink RX4 15 "ChoirRegister$Notes" "singers" "[I" ∈ wsX4_copyFrom := by decide +kernel
  have f19 : Cond.fieldLink RX4 19 "ChoirRegister$Notes" "first" "[I" ∈ wsX4_copyFrom := by decide +kernel
  have f22 : Cond.fieldLink RX4 22 "ChoirRegister$Notes" "last" "[I" ∈ wsX4_copyFrom := by decide +kernel
  have f9 : Cond.fieldLink RX4 9 "ChoirRegister$Notes" "count" "I" ∈ wsX4_copyFrom := by decide +kernel
  have fa1 : Cond.methodLink RX4 25 arraycopyName ∈ wsX4_copyFrom := by decide +kernel
  have fa2 : Cond.native arraycopyName ∈ wsX4_copyFrom := by decide +kernel
  have fa3 : Cond.static arraycopyName ∈ wsX4_copyFrom := by decide +kernel
  have fa4 : Cond.initialized "java/lang/System" ∈ wsX4_copyFrom := by decide +kernel
  have u4 : ∀ w ∈ wsX40, w ∈ wsX4_copyFrom := by decide +kernel
  show Sm Γ Λ (0, 0) 0 [(0, .ref (Λ.2.2.2.1 (14, o, 0))), (1, .ref (Λ.2.2.2.1 (14, o1, 0)))] [] v _
  unfold f_X4_copyFrom
  refine sm_aload_n hG 1 rfl dX4_copyFrom_0 rfl 0 rfl ?_
  refine sm_aload_n hG 2 rfl dX4_copyFrom_1 rfl 1 rfl ?_
  refine gC14_0 hG hC ho1 5 rfl u4 f9 dX4_copyFrom_2 ?_
  refine pC14_0 hG hC ho 8 rfl u4 f9 dX4_copyFrom_5 ?_
  refine sm_nmv (fun w5_1 => ?_)
  refine sm_aload_n hG 9 rfl dX4_copyFrom_8 rfl 1 rfl ?_
  refine gC14_1 hG hC ho1 12 rfl u4 f15 dX4_copyFrom_9 ?_
  refine sm_iconst (x := (0 : Int32)) hG 13 rfl dX4_copyFrom_12 rfl ?_
  refine sm_aload_n hG 14 rfl dX4_copyFrom_13 rfl 0 rfl ?_
  refine gC14_1 hG hC ho 17 rfl u4 f15 dX4_copyFrom_14 ?_
  refine sm_iconst (x := (0 : Int32)) hG 18 rfl dX4_copyFrom_17 rfl ?_
  refine sm_aload_n hG 19 rfl dX4_copyFrom_18 rfl 0 rfl ?_
  refine gC14_0 hG hC ho 22 rfl u4 f9 dX4_copyFrom_19 ?_
  refine cA hG (ic_15 hC ho1) (ic_15 hC ho) 25 rfl fa1 fa2 fa3 fa4 (by decide) (by decide) dX4_copyFrom_22 ?_
  refine sm_nmv (fun w22_2 => ?_)
  refine sm_aload_n hG 26 rfl dX4_copyFrom_25 rfl 1 rfl ?_
  refine gC14_2 hG hC ho1 29 rfl u4 f19 dX4_copyFrom_26 ?_
  refine sm_iconst (x := (0 : Int32)) hG 30 rfl dX4_copyFrom_29 rfl ?_
  refine sm_aload_n hG 31 rfl dX4_copyFrom_30 rfl 0 rfl ?_
  refine gC14_2 hG hC ho 34 rfl u4 f19 dX4_copyFrom_31 ?_
  refine sm_iconst (x := (0 : Int32)) hG 35 rfl dX4_copyFrom_34 rfl ?_
  refine sm_aload_n hG 36 rfl dX4_copyFrom_35 rfl 0 rfl ?_
  refine gC14_0 hG hC ho 39 rfl u4 f9 dX4_copyFrom_36 ?_
  refine cA hG (ic_16 hC ho1) (ic_16 hC ho) 42 rfl fa1 fa2 fa3 fa4 (by decide) (by decide) dX4_copyFrom_39 ?_
  refine sm_nmv (fun w39_3 => ?_)
  refine sm_aload_n hG 43 rfl dX4_copyFrom_42 rfl 1 rfl ?_
  refine gC14_3 hG hC ho1 46 rfl u4 f22 dX4_copyFrom_43 ?_
  refine sm_iconst (x := (0 : Int32)) hG 47 rfl dX4_copyFrom_46 rfl ?_
  refine sm_aload_n hG 48 rfl dX4_copyFrom_47 rfl 0 rfl ?_
  refine gC14_3 hG hC ho 51 rfl u4 f22 dX4_copyFrom_48 ?_
  refine sm_iconst (x := (0 : Int32)) hG 52 rfl dX4_copyFrom_51 rfl ?_
  refine sm_aload_n hG 53 rfl dX4_copyFrom_52 rfl 0 rfl ?_
  refine gC14_0 hG hC ho 56 rfl u4 f9 dX4_copyFrom_53 ?_
  refine cA hG (ic_17 hC ho1) (ic_17 hC ho) 59 rfl fa1 fa2 fa3 fa4 (by decide) (by decide) dX4_copyFrom_56 ?_
  refine sm_nmv (fun w56_4 => ?_)
  exact sm_vret hG hT ⟨Nat.zero_le _, Nat.zero_le _⟩ dX4_copyFrom_59 rfl
abbrev rmX4_coverAnyOf : Room := { frames := 0, cells := 0, slots := 0, locals := 0 }
set_option maxRecDepth 100000 in
set_option maxHeartbeats 4000000 in
theorem c_X4_coverAnyOf {Λ : jL kC} (hC : LC Λ) {o : Nat} {x1 : Int32} {x2 : Int32} {x3 : Int32} (ho : o < 7) {l : Launch} {v : mC} {r : Int32} (hr_ : f_X4_coverAnyOf o x1 x2 x3 v = some r) : Ct l yX4_coverAnyOf wsX4_coverAnyOf rmX4_coverAnyOf Λ [.ref (Λ.2.2.2.1 (14, o, 0)), .int x1, .int x2, .int x3] v (some (.int r)) v := by
  refine ct_of (cc := cX4_coverAnyOf) (maxL := 5) (ret := (some .boolean)) (fun (q : Int32) => (some (Value.int q), v)) hC.1 hr_ (by decide) rfl (Nat.le_of_ble_eq_true rfl) (fun Γ hG hT hN hl => ?_)
  subst hl
  have f15 : Cond.fieldLink RX4 15 "ChoirRegister$Notes" "singers" "[I" ∈ wsX4_coverAnyOf := by decide +kernel
  have f19 : Cond.fieldLink RX4 19 "ChoirRegister$Notes" "first" "[I" ∈ wsX4_coverAnyOf := by decide +kernel
  have f22 : Cond.fieldLink RX4 22 "ChoirRegister$Notes" "last" "[I" ∈ wsX4_coverAnyOf := by decide +kernel
  have f9 : Cond.fieldLink RX4 9 "ChoirRegister$Notes" "count" "I" ∈ wsX4_coverAnyOf := by decide +kernel
  have u4 : ∀ w ∈ wsX40, w ∈ wsX4_coverAnyOf := by decide +kernel
  show Sm Γ Λ (0, 0) 0 [(0, .ref (Λ.2.2.2.1 (14, o, 0))), (1, .int x1), (2, .int x2), (3, .int x3)] [] v _
  unfold f_X4_coverAnyOf
  refine sm_iconst (x := (0 : Int32)) hG 1 rfl dX4_coverAnyOf_0 rfl ?_
  refine sm_istore hG 3 rfl dX4_coverAnyOf_1 (jlt hN rfl) [(4, .int (0 : Int32)), (0, .ref (Λ.2.2.2.1 (14, o, 0))), (1, .int x1), (2, .int x2), (3, .int x3)] rfl ?_
  refine sm_loc [1, 2, 3, 4, 0] [(0, .ref (Λ.2.2.2.1 (14, o, 0))), (1, .int x1), (2, .int x2), (3, .int x3), (4, .int (0 : Int32))] rfl ?_
  refine lp_ind (fun (X3 : Int32 → Option Int32) => ∀ (x4_3 : Int32), Sm Γ Λ (0, 0) 3 [(0, .ref (Λ.2.2.2.1 (14, o, 0))), (1, .int x1), (2, .int x2), (3, .int x3), (4, .int x4_3)] [] v (X3 x4_3)) (fun _ => sm_none) (fun self3 hs3 x4_3 => ?_) 4096 _
  refine sm_iload hG 5 rfl dX4_coverAnyOf_3 4 rfl ?_
  refine sm_aload_n hG 6 rfl dX4_coverAnyOf_5 rfl 0 rfl ?_
  refine gC14_0 hG hC ho 9 rfl u4 f9 dX4_coverAnyOf_6 ?_
  refine sm_icmp_ge hG 53 12 rfl dX4_coverAnyOf_9 (by decide) ?_ ?_
  · refine sm_iconst (x := (0 : Int32)) hG 54 rfl dX4_coverAnyOf_53 rfl ?_
    exact sm_bret hG hT ⟨Nat.zero_le _, Nat.zero_le _⟩ dX4_coverAnyOf_54 rfl
  · refine sm_aload_n hG 13 rfl dX4_coverAnyOf_12 rfl 0 rfl ?_
    refine gC14_1 hG hC ho 16 rfl u4 f15 dX4_coverAnyOf_13 ?_
    refine sm_iload hG 18 rfl dX4_coverAnyOf_16 4 rfl ?_
    refine lC15 hG hC ho 19 rfl dX4_coverAnyOf_18 ?_
    refine sm_iload_n hG 20 rfl dX4_coverAnyOf_19 rfl 1 rfl ?_
    refine sm_icmp_ne hG 47 23 rfl dX4_coverAnyOf_20 (by decide) ?_ ?_
    · refine sm_iinc hG 50 rfl dX4_coverAnyOf_47 (j := 4) rfl rfl (jlt hN rfl) [(4, .int (x4_3 + (1 : Int32))), (0, .ref (Λ.2.2.2.1 (14, o, 0))), (1, .int x1), (2, .int x2), (3, .int x3)] rfl ?_
      refine sm_goto hG 3 dX4_coverAnyOf_50 (by decide) ?_
      refine sm_loc [1, 2, 3, 4, 0] [(0, .ref (Λ.2.2.2.1 (14, o, 0))), (1, .int x1), (2, .int x2), (3, .int x3), (4, .int (x4_3 + (1 : Int32)))] rfl ?_
      exact hs3 _
    · refine sm_aload_n hG 24 rfl dX4_coverAnyOf_23 rfl 0 rfl ?_
      refine gC14_2 hG hC ho 27 rfl u4 f19 dX4_coverAnyOf_24 ?_
      refine sm_iload hG 29 rfl dX4_coverAnyOf_27 4 rfl ?_
      refine lC16 hG hC ho 30 rfl dX4_coverAnyOf_29 ?_
      refine sm_iload_n hG 31 rfl dX4_coverAnyOf_30 rfl 3 rfl ?_
      refine sm_icmp_gt hG 47 34 rfl dX4_coverAnyOf_31 (by decide) ?_ ?_
      · refine sm_iinc hG 50 rfl dX4_coverAnyOf_47 (j := 4) rfl rfl (jlt hN rfl) [(4, .int (x4_3 + (1 : Int32))), (0, .ref (Λ.2.2.2.1 (14, o, 0))), (1, .int x1), (2, .int x2), (3, .int x3)] rfl ?_
        refine sm_goto hG 3 dX4_coverAnyOf_50 (by decide) ?_
        refine sm_loc [1, 2, 3, 4, 0] [(0, .ref (Λ.2.2.2.1 (14, o, 0))), (1, .int x1), (2, .int x2), (3, .int x3), (4, .int (x4_3 + (1 : Int32)))] rfl ?_
        exact hs3 _
      · refine sm_iload_n hG 35 rfl dX4_coverAnyOf_34 rfl 2 rfl ?_
        refine sm_aload_n hG 36 rfl dX4_coverAnyOf_35 rfl 0 rfl ?_
        refine gC14_3 hG hC ho 39 rfl u4 f22 dX4_coverAnyOf_36 ?_
        refine sm_iload hG 41 rfl dX4_coverAnyOf_39 4 rfl ?_
        refine lC17 hG hC ho 42 rfl dX4_coverAnyOf_41 ?_
        refine sm_icmp_gt hG 47 45 rfl dX4_coverAnyOf_42 (by decide) ?_ ?_
        · refine sm_iinc hG 50 rfl dX4_coverAnyOf_47 (j := 4) rfl rfl (jlt hN rfl) [(4, .int (x4_3 + (1 : Int32))), (0, .ref (Λ.2.2.2.1 (14, o, 0))), (1, .int x1), (2, .int x2), (3, .int x3)] rfl ?_
          refine sm_goto hG 3 dX4_coverAnyOf_50 (by decide) ?_
          refine sm_loc [1, 2, 3, 4, 0] [(0, .ref (Λ.2.2.2.1 (14, o, 0))), (1, .int x1), (2, .int x2), (3, .int x3), (4, .int (x4_3 + (1 : Int32)))] rfl ?_
          exact hs3 _
        · refine sm_iconst (x := (1 : Int32)) hG 46 rfl dX4_coverAnyOf_45 rfl ?_
          exact sm_bret hG hT ⟨Nat.zero_le _, Nat.zero_le _⟩ dX4_coverAnyOf_46 rfl
abbrev rmX4_add : Room := { frames := 0, cells := 0, slots := 0, locals := 0 }
set_option maxRecDepth 100000 in
set_option maxHeartbeats 4000000 in
theorem c_X4_add {Λ : jL kC} (hC : LC Λ) {o : Nat} {x1 : Int32} {x2 : Int32} {x3 : Int32} (ho : o < 7) {l : Launch} {v : mC} {r : (Int32 × mC)} (hr_ : f_X4_add o x1 x2 x3 v = some r) : Ct l yX4_add wsX4_add rmX4_add Λ [.ref (Λ.2.2.2.1 (14, o, 0)), .int x1, .int x2, .int x3] v (some (.int r.1)) r.2 := by
  refine ct_of (cc := cX4_add) (maxL := 6) (ret := (some .int)) (fun (q : Int32 × mC) => (some (Value.int q.1), q.2)) hC.1 hr_ (by decide) rfl (Nat.le_of_ble_eq_true rfl) (fun Γ hG hT hN hl => ?_)
  subst hl
  have f15 : Cond.fieldLink RX4 15 "ChoirRegister$Notes" "singers" "[I" ∈ wsX4_add := by decide +kernel
  have f19 : Cond.fieldLink RX4 19 "ChoirRegister$Notes" "first" "[I" ∈ wsX4_add := by decide +kernel
  have f22 : Cond.fieldLink RX4 22 "ChoirRegister$Notes" "last" "[I" ∈ wsX4_add := by decide +kernel
  have f9 : Cond.fieldLink RX4 9 "ChoirRegister$Notes" "count" "I" ∈ wsX4_add := by decide +kernel
  have u4 : ∀ w ∈ wsX40, w ∈ wsX4_add := by decide +kernel
  show Sm Γ Λ (0, 0) 0 [(0, .ref (Λ.2.2.2.1 (14, o, 0))), (1, .int x1), (2, .int x2), (3, .int x3)] [] v _
  unfold f_X4_add
  refine sm_aload_n hG 1 rfl dX4_add_0 rfl 0 rfl ?_
  refine gC14_1 hG hC ho 4 rfl u4 f15 dX4_add_1 ?_
  refine sm_aload_n hG 5 rfl dX4_add_4 rfl 0 rfl ?_
  refine gC14_0 hG hC ho 8 rfl u4 f9 dX4_add_5 ?_
  refine sm_iload_n hG 9 rfl dX4_add_8 rfl 1 rfl ?_
  refine sC15 hG hC ho 10 rfl dX4_add_9 ?_
  refine sm_nmv (fun w9_1 => ?_)
  refine sm_aload_n hG 11 rfl dX4_add_10 rfl 0 rfl ?_
  refine gC14_2 hG hC ho 14 rfl u4 f19 dX4_add_11 ?_
  refine sm_aload_n hG 15 rfl dX4_add_14 rfl 0 rfl ?_
  refine gC14_0 hG hC ho 18 rfl u4 f9 dX4_add_15 ?_
  refine sm_iload_n hG 19 rfl dX4_add_18 rfl 2 rfl ?_
  refine sC16 hG hC ho 20 rfl dX4_add_19 ?_
  refine sm_nmv (fun w19_2 => ?_)
  refine sm_aload_n hG 21 rfl dX4_add_20 rfl 0 rfl ?_
  refine gC14_3 hG hC ho 24 rfl u4 f22 dX4_add_21 ?_
  refine sm_aload_n hG 25 rfl dX4_add_24 rfl 0 rfl ?_
  refine gC14_0 hG hC ho 28 rfl u4 f9 dX4_add_25 ?_
  refine sm_iload_n hG 29 rfl dX4_add_28 rfl 3 rfl ?_
  refine sC17 hG hC ho 30 rfl dX4_add_29 ?_
  refine sm_nmv (fun w29_3 => ?_)
  refine sm_aload_n hG 31 rfl dX4_add_30 rfl 0 rfl ?_
  refine sm_dup hG 32 rfl dX4_add_31 rfl ?_
  refine gC14_0 hG hC ho 35 rfl u4 f9 dX4_add_32 ?_
  refine sm_iconst (x := (1 : Int32)) hG 36 rfl dX4_add_35 rfl ?_
  refine sm_iadd hG 37 rfl dX4_add_36 ?_
  refine pC14_0 hG hC ho 40 rfl u4 f9 dX4_add_37 ?_
  refine sm_nmv (fun w37_4 => ?_)
  refine sm_iconst (x := (0 : Int32)) hG 41 rfl dX4_add_40 rfl ?_
  refine sm_istore hG 43 rfl dX4_add_41 (jlt hN rfl) [(4, .int (0 : Int32)), (0, .ref (Λ.2.2.2.1 (14, o, 0))), (1, .int x1), (2, .int x2), (3, .int x3)] rfl ?_
  refine sm_iconst (x := (0 : Int32)) hG 44 rfl dX4_add_43 rfl ?_
  refine sm_istore hG 46 rfl dX4_add_44 (jlt hN rfl) [(5, .int (0 : Int32)), (4, .int (0 : Int32)), (0, .ref (Λ.2.2.2.1 (14, o, 0))), (1, .int x1), (2, .int x2), (3, .int x3)] rfl ?_
  refine sm_loc [2, 3, 1, 0] [(0, .ref (Λ.2.2.2.1 (14, o, 0))), (1, .int x1), (4, .int (0 : Int32)), (5, .int (0 : Int32))] rfl ?_
  refine lp_ind (fun (X46 : Int32 → Int32 → Option (Int32 × mC)) => ∀ (x4_46 : Int32) (x5_46 : Int32), Sm Γ Λ (0, 0) 46 [(0, .ref (Λ.2.2.2.1 (14, o, 0))), (1, .int x1), (4, .int x4_46), (5, .int x5_46)] [] w37_4 (X46 x4_46 x5_46)) (fun _ _ => sm_none) (fun self46 hs46 x4_46 x5_46 => ?_) 4096 _ _
  refine sm_iload hG 48 rfl dX4_add_46 3 rfl ?_
  refine sm_aload_n hG 49 rfl dX4_add_48 rfl 0 rfl ?_
  refine gC14_0 hG hC ho 52 rfl u4 f9 dX4_add_49 ?_
  refine sm_icmp_ge hG 75 55 rfl dX4_add_52 (by decide) ?_ ?_
  · refine sm_iload hG 77 rfl dX4_add_75 2 rfl ?_
    exact sm_iret hG hT ⟨Nat.zero_le _, Nat.zero_le _⟩ dX4_add_77 rfl
  · refine sm_aload_n hG 56 rfl dX4_add_55 rfl 0 rfl ?_
    refine gC14_1 hG hC ho 59 rfl u4 f15 dX4_add_56 ?_
    refine sm_iload hG 61 rfl dX4_add_59 3 rfl ?_
    refine lC15 hG hC ho 62 rfl dX4_add_61 ?_
    refine sm_iload_n hG 63 rfl dX4_add_62 rfl 1 rfl ?_
    refine sm_icmp_ne hG 69 66 rfl dX4_add_63 (by decide) ?_ ?_
    · refine sm_iinc hG 72 rfl dX4_add_69 (j := 3) rfl rfl (jlt hN rfl) [(5, .int (x5_46 + (1 : Int32))), (0, .ref (Λ.2.2.2.1 (14, o, 0))), (1, .int x1), (4, .int x4_46)] rfl ?_
      refine sm_goto hG 46 dX4_add_72 (by decide) ?_
      refine sm_loc [1, 2, 3, 0] [(0, .ref (Λ.2.2.2.1 (14, o, 0))), (1, .int x1), (4, .int x4_46), (5, .int (x5_46 + (1 : Int32)))] rfl ?_
      exact hs46 _ _
    · refine sm_iinc hG 69 rfl dX4_add_66 (j := 2) rfl rfl (jlt hN rfl) [(4, .int (x4_46 + (1 : Int32))), (0, .ref (Λ.2.2.2.1 (14, o, 0))), (1, .int x1), (5, .int x5_46)] rfl ?_
      refine sm_iinc hG 72 rfl dX4_add_69 (j := 3) rfl rfl (jlt hN rfl) [(5, .int (x5_46 + (1 : Int32))), (4, .int (x4_46 + (1 : Int32))), (0, .ref (Λ.2.2.2.1 (14, o, 0))), (1, .int x1)] rfl ?_
      refine sm_goto hG 46 dX4_add_72 (by decide) ?_
      refine sm_loc [2, 3, 1, 0] [(0, .ref (Λ.2.2.2.1 (14, o, 0))), (1, .int x1), (4, .int (x4_46 + (1 : Int32))), (5, .int (x5_46 + (1 : Int32)))] rfl ?_
      exact hs46 _ _
abbrev rmX1_isFull : Room := { frames := 0, cells := 0, slots := 0, locals := 0 }
set_option maxRecDepth 100000 in
set_option maxHeartbeats 4000000 in
theorem c_X1_isFull {Λ : jL kC} (hC : LC Λ) {o : Nat} (ho : o < 7) {l : Launch} {v : mC} {r : Int32} (hr_ : f_X1_isFull o v = some r) : Ct l yX1_isFull wsX1_isFull rmX1_isFull Λ [.ref (Λ.2.2.2.1 (18, o, 0))] v (some (.int r)) v := by
  refine ct_of (cc := cX1_isFull) (maxL := 1) (ret := (some .boolean)) (fun (q : Int32) => (some (Value.int q), v)) hC.1 hr_ (by decide) rfl (Nat.le_of_ble_eq_true rfl) (fun Γ hG hT hN hl => ?_)
  subst hl
  have f9 : Cond.fieldLink RX1 9 "ChoirRegister$Calendar" "count" "I" ∈ wsX1_isFull := by decide +kernel
  have u1 : ∀ w ∈ wsX10, w ∈ wsX1_isFull := by decide +kernel
  show Sm Γ Λ (0, 0) 0 [(0, .ref (Λ.2.2.2.1 (18, o, 0)))] [] v _
  unfold f_X1_isFull
  refine sm_aload_n hG 1 rfl dX1_isFull_0 rfl 0 rfl ?_
  refine gC18_0 hG hC ho 4 rfl u1 f9 dX1_isFull_1 ?_
  refine sm_bipush (x := (20 : Int32)) hG 6 rfl dX1_isFull_4 rfl ?_
  refine sm_icmp_lt hG 13 9 rfl dX1_isFull_6 (by decide) ?_ ?_
  · refine sm_iconst (x := (0 : Int32)) hG 14 rfl dX1_isFull_13 rfl ?_
    exact sm_bret hG hT ⟨Nat.zero_le _, Nat.zero_le _⟩ dX1_isFull_14 rfl
  · refine sm_iconst (x := (1 : Int32)) hG 10 rfl dX1_isFull_9 rfl ?_
    refine sm_goto hG 14 dX1_isFull_10 (by decide) ?_
    exact sm_bret hG hT ⟨Nat.zero_le _, Nat.zero_le _⟩ dX1_isFull_14 rfl
abbrev rmX1_has : Room := { frames := 0, cells := 0, slots := 0, locals := 0 }
set_option maxRecDepth 100000 in
set_option maxHeartbeats 4000000 in
theorem c_X1_has {Λ : jL kC} (hC : LC Λ) {o : Nat} {x1 : Int32} (ho : o < 7) {l : Launch} {v : mC} {r : Int32} (hr_ : f_X1_has o x1 v = some r) : Ct l yX1_has wsX1_has rmX1_has Λ [.ref (Λ.2.2.2.1 (18, o, 0)), .int x1] v (some (.int r)) v := by
  refine ct_of (cc := cX1_has) (maxL := 2) (ret := (some .boolean)) (fun (q : Int32) => (some (Value.int q), v)) hC.1 hr_ (by decide) rfl (Nat.le_of_ble_eq_true rfl) (fun Γ hG hT hN hl => ?_)
  subst hl
  have f9 : Cond.fieldLink RX1 9 "ChoirRegister$Calendar" "count" "I" ∈ wsX1_has := by decide +kernel
  have u1 : ∀ w ∈ wsX10, w ∈ wsX1_has := by decide +kernel
  show Sm Γ Λ (0, 0) 0 [(0, .ref (Λ.2.2.2.1 (18, o, 0))), (1, .int x1)] [] v _
  unfold f_X1_has
  refine sm_iload_n hG 1 rfl dX1_has_0 rfl 1 rfl ?_
  refine sm_if_lt hG 16 4 rfl dX1_has_1 (by decide) ?_ ?_
  · refine sm_iconst (x := (0 : Int32)) hG 17 rfl dX1_has_16 rfl ?_
    exact sm_bret hG hT ⟨Nat.zero_le _, Nat.zero_le _⟩ dX1_has_17 rfl
  · refine sm_iload_n hG 5 rfl dX1_has_4 rfl 1 rfl ?_
    refine sm_aload_n hG 6 rfl dX1_has_5 rfl 0 rfl ?_
    refine gC18_0 hG hC ho 9 rfl u1 f9 dX1_has_6 ?_
    refine sm_icmp_ge hG 16 12 rfl dX1_has_9 (by decide) ?_ ?_
    · refine sm_iconst (x := (0 : Int32)) hG 17 rfl dX1_has_16 rfl ?_
      exact sm_bret hG hT ⟨Nat.zero_le _, Nat.zero_le _⟩ dX1_has_17 rfl
    · refine sm_iconst (x := (1 : Int32)) hG 13 rfl dX1_has_12 rfl ?_
      refine sm_goto hG 17 dX1_has_13 (by decide) ?_
      exact sm_bret hG hT ⟨Nat.zero_le _, Nat.zero_le _⟩ dX1_has_17 rfl
abbrev rmX0_hasHeld : Room := { frames := 0, cells := 0, slots := 0, locals := 0 }
set_option maxRecDepth 100000 in
set_option maxHeartbeats 4000000 in
theorem c_X0_hasHeld {Λ : jL kC} (hC : LC Λ) {o : Nat} {x1 : Int32} (ho : o < 7) {l : Launch} {v : mC} {r : Int32} (hr_ : f_X0_hasHeld o x1 v = some r) : Ct l yX0_hasHeld wsX0_hasHeld rmX0_hasHeld Λ [.ref (Λ.2.2.2.1 (1, o, 0)), .int x1] v (some (.int r)) v := by
  refine ct_of (cc := cX0_hasHeld) (maxL := 2) (ret := (some .boolean)) (fun (q : Int32) => (some (Value.int q), v)) hC.1 hr_ (by decide) rfl (Nat.le_of_ble_eq_true rfl) (fun Γ hG hT hN hl => ?_)
  subst hl
  have f158 : Cond.fieldLink RX0 158 "ChoirRegister$Calendar" "day" "[I" ∈ wsX0_hasHeld := by decide +kernel
  have f32 : Cond.fieldLink RX0 32 "ChoirRegister$Book" "calendar" "LChoirRegister$Calendar;" ∈ wsX0_hasHeld := by decide +kernel
  have f9 : Cond.fieldLink RX0 9 "ChoirRegister$Book" "day" "I" ∈ wsX0_hasHeld := by decide +kernel
  have u0 : ∀ w ∈ wsX00, w ∈ wsX0_hasHeld := by decide +kernel
  have u1 : ∀ w ∈ wsX10, w ∈ wsX0_hasHeld := by decide +kernel
  show Sm Γ Λ (0, 0) 0 [(0, .ref (Λ.2.2.2.1 (1, o, 0))), (1, .int x1)] [] v _
  unfold f_X0_hasHeld
  refine sm_aload_n hG 1 rfl dX0_hasHeld_0 rfl 0 rfl ?_
  refine gC1_3 hG hC ho 4 rfl u0 f32 dX0_hasHeld_1 ?_
  refine gC18_1 hG hC ho 7 rfl u1 f158 dX0_hasHeld_4 ?_
  refine sm_iload_n hG 8 rfl dX0_hasHeld_7 rfl 1 rfl ?_
  refine lC19 hG hC ho 9 rfl dX0_hasHeld_8 ?_
  refine sm_aload_n hG 10 rfl dX0_hasHeld_9 rfl 0 rfl ?_
  refine gC1_0 hG hC ho 13 rfl u0 f9 dX0_hasHeld_10 ?_
  refine sm_icmp_gt hG 20 16 rfl dX0_hasHeld_13 (by decide) ?_ ?_
  · refine sm_iconst (x := (0 : Int32)) hG 21 rfl dX0_hasHeld_20 rfl ?_
    exact sm_bret hG hT ⟨Nat.zero_le _, Nat.zero_le _⟩ dX0_hasHeld_21 rfl
  · refine sm_iconst (x := (1 : Int32)) hG 17 rfl dX0_hasHeld_16 rfl ?_
    refine sm_goto hG 21 dX0_hasHeld_17 (by decide) ?_
    exact sm_bret hG hT ⟨Nat.zero_le _, Nat.zero_le _⟩ dX0_hasHeld_21 rfl
abbrev rmX1_nextAfter : Room := { frames := 0, cells := 0, slots := 0, locals := 0 }
set_option maxRecDepth 100000 in
set_option maxHeartbeats 4000000 in
theorem c_X1_nextAfter {Λ : jL kC} (hC : LC Λ) {o : Nat} {x1 : Int32} (ho : o < 7) {l : Launch} {v : mC} {r : Int32} (hr_ : f_X1_nextAfter o x1 v = some r) : Ct l yX1_nextAfter wsX1_nextAfter rmX1_nextAfter Λ [.ref (Λ.2.2.2.1 (18, o, 0)), .int x1] v (some (.int r)) v := by
  refine ct_of (cc := cX1_nextAfter) (maxL := 4) (ret := (some .int)) (fun (q : Int32) => (some (Value.int q), v)) hC.1 hr_ (by decide) rfl (Nat.le_of_ble_eq_true rfl) (fun Γ hG hT hN hl => ?_)
  subst hl
  have f15 : Cond.fieldLink RX1 15 "ChoirRegister$Calendar" "day" "[I" ∈ wsX1_nextAfter := by decide +kernel
  have f9 : Cond.fieldLink RX1 9 "ChoirRegister$Calendar" "count" "I" ∈ wsX1_nextAfter := by decide +kernel
  have u1 : ∀ w ∈ wsX10, w ∈ wsX1_nextAfter := by decide +kernel
  show Sm Γ Λ (0, 0) 0 [(0, .ref (Λ.2.2.2.1 (18, o, 0))), (1, .int x1)] [] v _
  unfold f_X1_nextAfter
  refine sm_iconst (x := (-1 : Int32)) hG 1 rfl dX1_nextAfter_0 rfl ?_
  refine sm_istore_n hG 2 rfl dX1_nextAfter_1 rfl (jlt hN rfl) [(2, .int (-1 : Int32)), (0, .ref (Λ.2.2.2.1 (18, o, 0))), (1, .int x1)] rfl ?_
  refine sm_iconst (x := (0 : Int32)) hG 3 rfl dX1_nextAfter_2 rfl ?_
  refine sm_istore_n hG 4 rfl dX1_nextAfter_3 rfl (jlt hN rfl) [(3, .int (0 : Int32)), (2, .int (-1 : Int32)), (0, .ref (Λ.2.2.2.1 (18, o, 0))), (1, .int x1)] rfl ?_
  refine sm_loc [2, 3, 1, 0] [(0, .ref (Λ.2.2.2.1 (18, o, 0))), (1, .int x1), (2, .int (-1 : Int32)), (3, .int (0 : Int32))] rfl ?_
  refine lp_ind (fun (X4 : Int32 → Int32 → Option Int32) => ∀ (x2_4 : Int32) (x3_4 : Int32), Sm Γ Λ (0, 0) 4 [(0, .ref (Λ.2.2.2.1 (18, o, 0))), (1, .int x1), (2, .int x2_4), (3, .int x3_4)] [] v (X4 x2_4 x3_4)) (fun _ _ => sm_none) (fun self4 hs4 x2_4 x3_4 => ?_) 4096 _ _
  refine sm_iload_n hG 5 rfl dX1_nextAfter_4 rfl 3 rfl ?_
  refine sm_aload_n hG 6 rfl dX1_nextAfter_5 rfl 0 rfl ?_
  refine gC18_0 hG hC ho 9 rfl u1 f9 dX1_nextAfter_6 ?_
  refine sm_icmp_ge hG 50 12 rfl dX1_nextAfter_9 (by decide) ?_ ?_
  · refine sm_iload_n hG 51 rfl dX1_nextAfter_50 rfl 2 rfl ?_
    exact sm_iret hG hT ⟨Nat.zero_le _, Nat.zero_le _⟩ dX1_nextAfter_51 rfl
  · refine sm_aload_n hG 13 rfl dX1_nextAfter_12 rfl 0 rfl ?_
    refine gC18_1 hG hC ho 16 rfl u1 f15 dX1_nextAfter_13 ?_
    refine sm_iload_n hG 17 rfl dX1_nextAfter_16 rfl 3 rfl ?_
    refine lC19 hG hC ho 18 rfl dX1_nextAfter_17 ?_
    refine sm_iload_n hG 19 rfl dX1_nextAfter_18 rfl 1 rfl ?_
    refine sm_icmp_le hG 44 22 rfl dX1_nextAfter_19 (by decide) ?_ ?_
    · refine sm_iinc hG 47 rfl dX1_nextAfter_44 (j := 3) rfl rfl (jlt hN rfl) [(3, .int (x3_4 + (1 : Int32))), (0, .ref (Λ.2.2.2.1 (18, o, 0))), (1, .int x1), (2, .int x2_4)] rfl ?_
      refine sm_goto hG 4 dX1_nextAfter_47 (by decide) ?_
      refine sm_loc [1, 2, 3, 0] [(0, .ref (Λ.2.2.2.1 (18, o, 0))), (1, .int x1), (2, .int x2_4), (3, .int (x3_4 + (1 : Int32)))] rfl ?_
      exact hs4 _ _
    · refine sm_iload_n hG 23 rfl dX1_nextAfter_22 rfl 2 rfl ?_
      refine sm_iconst (x := (-1 : Int32)) hG 24 rfl dX1_nextAfter_23 rfl ?_
      refine sm_icmp_eq hG 42 27 rfl dX1_nextAfter_24 (by decide) ?_ ?_
      · refine sm_iload_n hG 43 rfl dX1_nextAfter_42 rfl 3 rfl ?_
        refine sm_istore_n hG 44 rfl dX1_nextAfter_43 rfl (jlt hN rfl) [(2, .int x3_4), (0, .ref (Λ.2.2.2.1 (18, o, 0))), (1, .int x1), (3, .int x3_4)] rfl ?_
        refine sm_iinc hG 47 rfl dX1_nextAfter_44 (j := 3) rfl rfl (jlt hN rfl) [(3, .int (x3_4 + (1 : Int32))), (2, .int x3_4), (0, .ref (Λ.2.2.2.1 (18, o, 0))), (1, .int x1)] rfl ?_
        refine sm_goto hG 4 dX1_nextAfter_47 (by decide) ?_
        refine sm_loc [2, 3, 1, 0] [(0, .ref (Λ.2.2.2.1 (18, o, 0))), (1, .int x1), (2, .int x3_4), (3, .int (x3_4 + (1 : Int32)))] rfl ?_
        exact hs4 _ _
      · refine sm_aload_n hG 28 rfl dX1_nextAfter_27 rfl 0 rfl ?_
        refine gC18_1 hG hC ho 31 rfl u1 f15 dX1_nextAfter_28 ?_
        refine sm_iload_n hG 32 rfl dX1_nextAfter_31 rfl 3 rfl ?_
        refine lC19 hG hC ho 33 rfl dX1_nextAfter_32 ?_
        refine sm_aload_n hG 34 rfl dX1_nextAfter_33 rfl 0 rfl ?_
        refine gC18_1 hG hC ho 37 rfl u1 f15 dX1_nextAfter_34 ?_
        refine sm_iload_n hG 38 rfl dX1_nextAfter_37 rfl 2 rfl ?_
        refine lC19 hG hC ho 39 rfl dX1_nextAfter_38 ?_
        refine sm_icmp_ge hG 44 42 rfl dX1_nextAfter_39 (by decide) ?_ ?_
        · refine sm_iinc hG 47 rfl dX1_nextAfter_44 (j := 3) rfl rfl (jlt hN rfl) [(3, .int (x3_4 + (1 : Int32))), (0, .ref (Λ.2.2.2.1 (18, o, 0))), (1, .int x1), (2, .int x2_4)] rfl ?_
          refine sm_goto hG 4 dX1_nextAfter_47 (by decide) ?_
          refine sm_loc [1, 2, 3, 0] [(0, .ref (Λ.2.2.2.1 (18, o, 0))), (1, .int x1), (2, .int x2_4), (3, .int (x3_4 + (1 : Int32)))] rfl ?_
          exact hs4 _ _
        · refine sm_iload_n hG 43 rfl dX1_nextAfter_42 rfl 3 rfl ?_
          refine sm_istore_n hG 44 rfl dX1_nextAfter_43 rfl (jlt hN rfl) [(2, .int x3_4), (0, .ref (Λ.2.2.2.1 (18, o, 0))), (1, .int x1), (3, .int x3_4)] rfl ?_
          refine sm_iinc hG 47 rfl dX1_nextAfter_44 (j := 3) rfl rfl (jlt hN rfl) [(3, .int (x3_4 + (1 : Int32))), (2, .int x3_4), (0, .ref (Λ.2.2.2.1 (18, o, 0))), (1, .int x1)] rfl ?_
          refine sm_goto hG 4 dX1_nextAfter_47 (by decide) ?_
          refine sm_loc [2, 3, 1, 0] [(0, .ref (Λ.2.2.2.1 (18, o, 0))), (1, .int x1), (2, .int x3_4), (3, .int (x3_4 + (1 : Int32)))] rfl ?_
          exact hs4 _ _
