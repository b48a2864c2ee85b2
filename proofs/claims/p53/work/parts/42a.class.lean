/-! printed by wip/whole/jgen.py out of the bytecode: the walks -/
abbrev rmX0_advance : Room := { frames := 4, cells := 0, slots := 0, locals := 97 }
set_option maxRecDepth 100000 in
set_option maxHeartbeats 4000000 in
theorem c_X0_advance {Λ : jL kC} (hC : LC Λ) {o : Nat} {x1 : Int32} (ho : o < 7) {l : Launch} {v : mC} {r : (Int32 × mC)} (hr_ : f_X0_advance o x1 v = some r) : Ct l yX0_advance wsX0_advance rmX0_advance Λ [.ref (Λ.2.2.2.1 (1, o, 0)), .int x1, .ref (Λ.2.2.2.1 (35, 0, 0))] v (some (.int r.1)) r.2 := by
  refine ct_of (cc := cX0_advance) (maxL := 7) (ret := (some .int)) (fun (q : Int32 × mC) => (some (Value.int q.1), q.2)) hC.1 hr_ (by decide) rfl (Nat.le_of_ble_eq_true rfl) (fun Γ hG hT hN hl => ?_)
  subst hl
  have f158 : Cond.fieldLink RX0 158 "ChoirRegister$Calendar" "day" "[I" ∈ wsX0_advance := by decide +kernel
  have f32 : Cond.fieldLink RX0 32 "ChoirRegister$Book" "calendar" "LChoirRegister$Calendar;" ∈ wsX0_advance := by decide +kernel
  have f9 : Cond.fieldLink RX0 9 "ChoirRegister$Book" "day" "I" ∈ wsX0_advance := by decide +kernel
  have u0 : ∀ w ∈ wsX00, w ∈ wsX0_advance := by decide +kernel
  have u1 : ∀ w ∈ wsX10, w ∈ wsX0_advance := by decide +kernel
  show Sm Γ Λ (0, 0) 0 [(0, .ref (Λ.2.2.2.1 (1, o, 0))), (1, .int x1), (2, .ref (Λ.2.2.2.1 (35, 0, 0)))] [] v _
  unfold f_X0_advance
  refine sm_aload_n hG 1 rfl dX0_advance_0 rfl 0 rfl ?_
  refine gC1_0 hG hC ho 4 rfl u0 f9 dX0_advance_1 ?_
  refine sm_iload_n hG 5 rfl dX0_advance_4 rfl 1 rfl ?_
  refine sm_iadd hG 6 rfl dX0_advance_5 ?_
  refine sm_istore_n hG 7 rfl dX0_advance_6 rfl (jlt hN rfl) [(3, .int ((v (1, o, 0) 0) + x1)), (0, .ref (Λ.2.2.2.1 (1, o, 0))), (1, .int x1), (2, .ref (Λ.2.2.2.1 (35, 0, 0)))] rfl ?_
  refine sm_iconst (x := (0 : Int32)) hG 8 rfl dX0_advance_7 rfl ?_
  refine sm_istore hG 10 rfl dX0_advance_8 (jlt hN rfl) [(4, .int (0 : Int32)), (3, .int ((v (1, o, 0) 0) + x1)), (0, .ref (Λ.2.2.2.1 (1, o, 0))), (1, .int x1), (2, .ref (Λ.2.2.2.1 (35, 0, 0)))] rfl ?_
  refine sm_aload_n hG 11 rfl dX0_advance_10 rfl 2 rfl ?_
  refine gC1_3 hG hC ho 14 rfl u0 f32 dX0_advance_11 ?_
  refine sm_aload_n hG 15 rfl dX0_advance_14 rfl 2 rfl ?_
  refine gC1_0 hG hC ho 18 rfl u0 f9 dX0_advance_15 ?_
  refine sm_callV hG (fun (q : Int32) => (some (Value.int q), v)) (18, o, 0) [.int (v (1, o, 0) 0)] 21 rfl (okb hC (by decide) ho) (ce_18 hC _) (ci := 1) rfl (fun r_ hr_ => c_X1_nextAfter hC ho  hr_) gX0_advance_X1_nextAfter rfl (by decide) (by decide) (n := 1) rfl (Nat.le_of_ble_eq_true rfl) (by decide) ⟨Nat.zero_le _, Nat.zero_le _⟩ rfl dX0_advance_18 (fun r_18 => ?_)
  refine sm_istore hG 23 rfl dX0_advance_21 (jlt hN rfl) [(5, .int r_18), (4, .int (0 : Int32)), (3, .int ((v (1, o, 0) 0) + x1)), (0, .ref (Λ.2.2.2.1 (1, o, 0))), (1, .int x1), (2, .ref (Λ.2.2.2.1 (35, 0, 0)))] rfl ?_
  refine sm_iconst (x := (0 : Int32)) hG 24 rfl dX0_advance_23 rfl ?_
  refine sm_istore hG 26 rfl dX0_advance_24 (jlt hN rfl) [(6, .int (0 : Int32)), (5, .int r_18), (4, .int (0 : Int32)), (3, .int ((v (1, o, 0) 0) + x1)), (0, .ref (Λ.2.2.2.1 (1, o, 0))), (1, .int x1), (2, .ref (Λ.2.2.2.1 (35, 0, 0)))] rfl ?_
  refine sm_loc [4, 6, 3, 2, 1, 0] [(0, .ref (Λ.2.2.2.1 (1, o, 0))), (2, .ref (Λ.2.2.2.1 (35, 0, 0))), (3, .int ((v (1, o, 0) 0) + x1)), (4, .int (0 : Int32)), (5, .int r_18), (6, .int (0 : Int32))] rfl ?_
  refine lp_ind (fun (X26 : Int32 → Int32 → Int32 → mC → Option (Int32 × mC)) => ∀ (x4_26 : Int32) (x5_26 : Int32) (x6_26 : Int32) (v_26 : mC), Sm Γ Λ (0, 0) 26 [(0, .ref (Λ.2.2.2.1 (1, o, 0))), (2, .ref (Λ.2.2.2.1 (35, 0, 0))), (3, .int ((v (1, o, 0) 0) + x1)), (4, .int x4_26), (5, .int x5_26), (6, .int x6_26)] [] v_26 (X26 x4_26 x5_26 x6_26 v_26)) (fun _ _ _ _ => sm_none) (fun self26 hs26 x4_26 x5_26 x6_26 v_26 => ?_) 8192 _ _ _ _
  refine sm_iload hG 28 rfl dX0_advance_26 5 rfl ?_
  refine sm_bipush (x := (20 : Int32)) hG 30 rfl dX0_advance_28 rfl ?_
  refine sm_icmp_ge hG 110 33 rfl dX0_advance_30 (by decide) ?_ ?_
  · refine sm_aload_n hG 111 rfl dX0_advance_110 rfl 0 rfl ?_
    refine sm_iload_n hG 112 rfl dX0_advance_111 rfl 2 rfl ?_
    refine pC1_0 hG hC ho 115 rfl u0 f9 dX0_advance_112 ?_
    refine sm_nmv (fun w112_1 => ?_)
    refine sm_iload hG 117 rfl dX0_advance_115 3 rfl ?_
    exact sm_iret hG hT ⟨Nat.zero_le _, Nat.zero_le _⟩ dX0_advance_117 rfl
  · refine sm_iload hG 35 rfl dX0_advance_33 4 rfl ?_
    refine sm_iconst (x := (-1 : Int32)) hG 36 rfl dX0_advance_35 rfl ?_
    refine sm_icmp_eq hG 110 39 rfl dX0_advance_36 (by decide) ?_ ?_
    · refine sm_aload_n hG 111 rfl dX0_advance_110 rfl 0 rfl ?_
      refine sm_iload_n hG 112 rfl dX0_advance_111 rfl 2 rfl ?_
      refine pC1_0 hG hC ho 115 rfl u0 f9 dX0_advance_112 ?_
      refine sm_nmv (fun w112_2 => ?_)
      refine sm_iload hG 117 rfl dX0_advance_115 3 rfl ?_
      exact sm_iret hG hT ⟨Nat.zero_le _, Nat.zero_le _⟩ dX0_advance_117 rfl
    · refine sm_aload_n hG 40 rfl dX0_advance_39 rfl 0 rfl ?_
      refine gC1_3 hG hC ho 43 rfl u0 f32 dX0_advance_40 ?_
      refine gC18_1 hG hC ho 46 rfl u1 f158 dX0_advance_43 ?_
      refine sm_iload hG 48 rfl dX0_advance_46 4 rfl ?_
      refine lC19 hG hC ho 49 rfl dX0_advance_48 ?_
      refine sm_iload_n hG 50 rfl dX0_advance_49 rfl 2 rfl ?_
      refine sm_icmp_gt hG 110 53 rfl dX0_advance_50 (by decide) ?_ ?_
      · refine sm_aload_n hG 111 rfl dX0_advance_110 rfl 0 rfl ?_
        refine sm_iload_n hG 112 rfl dX0_advance_111 rfl 2 rfl ?_
        refine pC1_0 hG hC ho 115 rfl u0 f9 dX0_advance_112 ?_
        refine sm_nmv (fun w112_3 => ?_)
        refine sm_iload hG 117 rfl dX0_advance_115 3 rfl ?_
        exact sm_iret hG hT ⟨Nat.zero_le _, Nat.zero_le _⟩ dX0_advance_117 rfl
      · refine sm_aload_n hG 54 rfl dX0_advance_53 rfl 0 rfl ?_
        refine sm_aload_n hG 55 rfl dX0_advance_54 rfl 0 rfl ?_
        refine gC1_3 hG hC ho 58 rfl u0 f32 dX0_advance_55 ?_
        refine gC18_1 hG hC ho 61 rfl u1 f158 dX0_advance_58 ?_
        refine sm_iload hG 63 rfl dX0_advance_61 4 rfl ?_
        refine lC19 hG hC ho 64 rfl dX0_advance_63 ?_
        refine pC1_0 hG hC ho 67 rfl u0 f9 dX0_advance_64 ?_
        refine sm_nmv (fun w64_4 => ?_)
        refine sm_aload_n hG 68 rfl dX0_advance_67 rfl 1 rfl ?_
        refine sm_aload_n hG 69 rfl dX0_advance_68 rfl 0 rfl ?_
        refine sm_iload hG 71 rfl dX0_advance_69 4 rfl ?_
        refine sm_callV hG (fun (w : mC) => ((none : Option Value), w)) (35, 0, 0) [.ref (Λ.2.2.2.1 (1, o, 0)), .int x5_26] 74 rfl (oks hC (by decide)) (ce_35 hC _) (ci := 3) rfl (fun r_ hr_ => c_X3_make hC ho  hr_) gX0_advance_X3_make rfl (by decide) (by decide) (n := 2) rfl (Nat.le_of_ble_eq_true rfl) (by decide) ⟨Nat.zero_le _, Nat.zero_le _⟩ rfl dX0_advance_71 (fun r_71 => ?_)
        refine sm_aload_n hG 75 rfl dX0_advance_74 rfl 0 rfl ?_
        refine sm_iload hG 77 rfl dX0_advance_75 4 rfl ?_
        refine sm_aload_n hG 78 rfl dX0_advance_77 rfl 1 rfl ?_
        refine sm_callV hG (fun (w : mC) => ((none : Option Value), w)) (1, o, 0) [.int x5_26, .ref (Λ.2.2.2.1 (35, 0, 0))] 81 rfl (okb hC (by decide) ho) (ce_1 hC _) (ci := 0) rfl (fun r_ hr_ => c_X0_enterLineup hC ho  hr_) gX0_advance_X0_enterLineup rfl (by decide) (by decide) (n := 2) rfl (Nat.le_of_ble_eq_true rfl) (by decide) ⟨Nat.zero_le _, Nat.zero_le _⟩ rfl dX0_advance_78 (fun r_78 => ?_)
        refine sm_aload_n hG 82 rfl dX0_advance_81 rfl 0 rfl ?_
        refine sm_iload hG 84 rfl dX0_advance_82 4 rfl ?_
        refine sm_aload_n hG 85 rfl dX0_advance_84 rfl 1 rfl ?_
        refine sm_callV hG (fun (w : mC) => ((none : Option Value), w)) (1, o, 0) [.int x5_26, .ref (Λ.2.2.2.1 (35, 0, 0))] 88 rfl (okb hC (by decide) ho) (ce_1 hC _) (ci := 0) rfl (fun r_ hr_ => c_X0_settleAccounts hC ho  hr_) gX0_advance_X0_settleAccounts rfl (by decide) (by decide) (n := 2) rfl (Nat.le_of_ble_eq_true rfl) (by decide) ⟨Nat.zero_le _, Nat.zero_le _⟩ rfl dX0_advance_85 (fun r_85 => ?_)
        refine sm_iinc hG 91 rfl dX0_advance_88 (j := 3) rfl rfl (jlt hN rfl) [(4, .int (x4_26 + (1 : Int32))), (0, .ref (Λ.2.2.2.1 (1, o, 0))), (2, .ref (Λ.2.2.2.1 (35, 0, 0))), (3, .int ((v (1, o, 0) 0) + x1)), (5, .int x5_26), (6, .int x6_26)] rfl ?_
        refine sm_aload_n hG 92 rfl dX0_advance_91 rfl 1 rfl ?_
        refine gC1_3 hG hC ho 95 rfl u0 f32 dX0_advance_92 ?_
        refine sm_aload_n hG 96 rfl dX0_advance_95 rfl 1 rfl ?_
        refine gC1_0 hG hC ho 99 rfl u0 f9 dX0_advance_96 ?_
        refine sm_callV hG (fun (q : Int32) => (some (Value.int q), r_85)) (18, o, 0) [.int (r_85 (1, o, 0) 0)] 102 rfl (okb hC (by decide) ho) (ce_18 hC _) (ci := 1) rfl (fun r_ hr_ => c_X1_nextAfter hC ho  hr_) gX0_advance_X1_nextAfter rfl (by decide) (by decide) (n := 1) rfl (Nat.le_of_ble_eq_true rfl) (by decide) ⟨Nat.zero_le _, Nat.zero_le _⟩ rfl dX0_advance_99 (fun r_99 => ?_)
        refine sm_istore hG 104 rfl dX0_advance_102 (jlt hN rfl) [(5, .int r_99), (4, .int (x4_26 + (1 : Int32))), (0, .ref (Λ.2.2.2.1 (1, o, 0))), (2, .ref (Λ.2.2.2.1 (35, 0, 0))), (3, .int ((v (1, o, 0) 0) + x1)), (6, .int x6_26)] rfl ?_
        refine sm_iinc hG 107 rfl dX0_advance_104 (j := 5) rfl rfl (jlt hN rfl) [(6, .int (x6_26 + (1 : Int32))), (5, .int r_99), (4, .int (x4_26 + (1 : Int32))), (0, .ref (Λ.2.2.2.1 (1, o, 0))), (2, .ref (Λ.2.2.2.1 (35, 0, 0))), (3, .int ((v (1, o, 0) 0) + x1))] rfl ?_
        refine sm_goto hG 26 dX0_advance_107 (by decide) ?_
        refine sm_loc [3, 4, 5, 2, 1, 0] [(0, .ref (Λ.2.2.2.1 (1, o, 0))), (2, .ref (Λ.2.2.2.1 (35, 0, 0))), (3, .int ((v (1, o, 0) 0) + x1)), (4, .int (x4_26 + (1 : Int32))), (5, .int r_99), (6, .int (x6_26 + (1 : Int32)))] rfl ?_
        exact hs26 _ _ _ _
abbrev rmX2_isFull : Room := { frames := 0, cells := 0, slots := 0, locals := 0 }
set_option maxRecDepth 100000 in
set_option maxHeartbeats 4000000 in
theorem c_X2_isFull {Λ : jL kC} (hC : LC Λ)   {l : Launch} {v : mC} {r : Int32} (hr_ : f_X2_isFull v = some r) : Ct l yX2_isFull wsX2_isFull rmX2_isFull Λ [.ref (Λ.2.2.2.1 (32, 0, 0))] v (some (.int r)) v := by
  refine ct_of (cc := cX2_isFull) (maxL := 1) (ret := (some .boolean)) (fun (q : Int32) => (some (Value.int q), v)) hC.1 hr_ (by decide) rfl (Nat.le_of_ble_eq_true rfl) (fun Γ hG hT hN hl => ?_)
  subst hl
  have f15 : Cond.fieldLink RX2 15 "ChoirRegister$Letter" "length" "I" ∈ wsX2_isFull := by decide +kernel
  have u2 : ∀ w ∈ wsX20, w ∈ wsX2_isFull := by decide +kernel
  show Sm Γ Λ (0, 0) 0 [(0, .ref (Λ.2.2.2.1 (32, 0, 0)))] [] v _
  unfold f_X2_isFull
  refine sm_aload_n hG 1 rfl dX2_isFull_0 rfl 0 rfl ?_
  refine gC32_1 hG hC  4 rfl u2 f15 dX2_isFull_1 ?_
  refine sm_bipush (x := (80 : Int32)) hG 6 rfl dX2_isFull_4 rfl ?_
  refine sm_icmp_lt hG 13 9 rfl dX2_isFull_6 (by decide) ?_ ?_
  · refine sm_iconst (x := (0 : Int32)) hG 14 rfl dX2_isFull_13 rfl ?_
    exact sm_bret hG hT ⟨Nat.zero_le _, Nat.zero_le _⟩ dX2_isFull_14 rfl
  · refine sm_iconst (x := (1 : Int32)) hG 10 rfl dX2_isFull_9 rfl ?_
    refine sm_goto hG 14 dX2_isFull_10 (by decide) ?_
    exact sm_bret hG hT ⟨Nat.zero_le _, Nat.zero_le _⟩ dX2_isFull_14 rfl
abbrev rmX2_append : Room := { frames := 0, cells := 0, slots := 0, locals := 0 }
set_option maxRecDepth 100000 in
set_option maxHeartbeats 4000000 in
theorem c_X2_append {Λ : jL kC} (hC : LC Λ) {x1 : Int32}  {l : Launch} {v : mC} {r : (Int32 × mC)} (hr_ : f_X2_append x1 v = some r) : Ct l yX2_append wsX2_append rmX2_append Λ [.ref (Λ.2.2.2.1 (32, 0, 0)), .int x1] v (some (.int r.1)) r.2 := by
  refine ct_of (cc := cX2_append) (maxL := 2) (ret := (some .int)) (fun (q : Int32 × mC) => (some (Value.int q.1), q.2)) hC.1 hr_ (by decide) rfl (Nat.le_of_ble_eq_true rfl) (fun Γ hG hT hN hl => ?_)
  subst hl
  have f15 : Cond.fieldLink RX2 15 "ChoirRegister$Letter" "length" "I" ∈ wsX2_append := by decide +kernel
  have f9 : Cond.fieldLink RX2 9 "ChoirRegister$Letter" "signs" "[C" ∈ wsX2_append := by decide +kernel
  have u2 : ∀ w ∈ wsX20, w ∈ wsX2_append := by decide +kernel
  show Sm Γ Λ (0, 0) 0 [(0, .ref (Λ.2.2.2.1 (32, 0, 0))), (1, .int x1)] [] v _
  unfold f_X2_append
  refine sm_aload_n hG 1 rfl dX2_append_0 rfl 0 rfl ?_
  refine gC32_0 hG hC  4 rfl u2 f9 dX2_append_1 ?_
  refine sm_aload_n hG 5 rfl dX2_append_4 rfl 0 rfl ?_
  refine gC32_1 hG hC  8 rfl u2 f15 dX2_append_5 ?_
  refine sm_iload_n hG 9 rfl dX2_append_8 rfl 1 rfl ?_
  refine sC33 hG hC  10 rfl dX2_append_9 ?_
  refine sm_nmv (fun w9_1 => ?_)
  refine sm_aload_n hG 11 rfl dX2_append_10 rfl 0 rfl ?_
  refine sm_dup hG 12 rfl dX2_append_11 rfl ?_
  refine gC32_1 hG hC  15 rfl u2 f15 dX2_append_12 ?_
  refine sm_iconst (x := (1 : Int32)) hG 16 rfl dX2_append_15 rfl ?_
  refine sm_iadd hG 17 rfl dX2_append_16 ?_
  refine pC32_1 hG hC  20 rfl u2 f15 dX2_append_17 ?_
  refine sm_nmv (fun w17_2 => ?_)
  refine sm_aload_n hG 21 rfl dX2_append_20 rfl 0 rfl ?_
  refine gC32_1 hG hC  24 rfl u2 f15 dX2_append_21 ?_
  exact sm_iret hG hT ⟨Nat.zero_le _, Nat.zero_le _⟩ dX2_append_24 rfl
abbrev rmX2_empty : Room := { frames := 0, cells := 0, slots := 0, locals := 0 }
set_option maxRecDepth 100000 in
set_option maxHeartbeats 4000000 in
theorem c_X2_empty {Λ : jL kC} (hC : LC Λ)   {l : Launch} {v : mC} {r : (Int32 × mC)} (hr_ : f_X2_empty v = some r) : Ct l yX2_empty wsX2_empty rmX2_empty Λ [.ref (Λ.2.2.2.1 (32, 0, 0))] v (some (.int r.1)) r.2 := by
  refine ct_of (cc := cX2_empty) (maxL := 2) (ret := (some .int)) (fun (q : Int32 × mC) => (some (Value.int q.1), q.2)) hC.1 hr_ (by decide) rfl (Nat.le_of_ble_eq_true rfl) (fun Γ hG hT hN hl => ?_)
  subst hl
  have f15 : Cond.fieldLink RX2 15 "ChoirRegister$Letter" "length" "I" ∈ wsX2_empty := by decide +kernel
  have u2 : ∀ w ∈ wsX20, w ∈ wsX2_empty := by decide +kernel
  show Sm Γ Λ (0, 0) 0 [(0, .ref (Λ.2.2.2.1 (32, 0, 0)))] [] v _
  unfold f_X2_empty
  refine sm_aload_n hG 1 rfl dX2_empty_0 rfl 0 rfl ?_
  refine gC32_1 hG hC  4 rfl u2 f15 dX2_empty_1 ?_
  refine sm_istore_n hG 5 rfl dX2_empty_4 rfl (jlt hN rfl) [(1, .int (v (32, 0, 0) 1)), (0, .ref (Λ.2.2.2.1 (32, 0, 0)))] rfl ?_
  refine sm_aload_n hG 6 rfl dX2_empty_5 rfl 1 rfl ?_
  refine sm_iconst (x := (0 : Int32)) hG 7 rfl dX2_empty_6 rfl ?_
  refine pC32_1 hG hC  10 rfl u2 f15 dX2_empty_7 ?_
  refine sm_nmv (fun w7_1 => ?_)
  refine sm_iload_n hG 11 rfl dX2_empty_10 rfl 0 rfl ?_
  exact sm_iret hG hT ⟨Nat.zero_le _, Nat.zero_le _⟩ dX2_empty_11 rfl
abbrev rmX6_clearLetter : Room := { frames := 1, cells := 0, slots := 0, locals := 21 }
set_option maxRecDepth 100000 in
set_option maxHeartbeats 4000000 in
theorem c_X6_clearLetter {Λ : jL kC} (hC : LC Λ)   {l : Launch} {v : mC} {r : (Int32 × mC)} (hr_ : f_X6_clearLetter v = some r) : Ct l yX6_clearLetter wsX6_clearLetter rmX6_clearLetter Λ [.ref (Λ.2.2.2.1 (0, 0, 0))] v (some (.int r.1)) r.2 := by
  refine ct_of (cc := cX6_clearLetter) (maxL := 1) (ret := (some .int)) (fun (q : Int32 × mC) => (some (Value.int q.1), q.2)) hC.1 hr_ (by decide) rfl (Nat.le_of_ble_eq_true rfl) (fun Γ hG hT hN hl => ?_)
  subst hl
  have f37 : Cond.fieldLink RX6 37 "ChoirRegister" "letter" "LChoirRegister$Letter;" ∈ wsX6_clearLetter := by decide +kernel
  have u6 : ∀ w ∈ wsX60, w ∈ wsX6_clearLetter := by decide +kernel
  show Sm Γ Λ (0, 0) 0 [(0, .ref (Λ.2.2.2.1 (0, 0, 0)))] [] v _
  unfold f_X6_clearLetter
  refine sm_aload_n hG 1 rfl dX6_clearLetter_0 rfl 0 rfl ?_
  refine gC0_6 hG hC  4 rfl u6 f37 dX6_clearLetter_1 ?_
  refine sm_callV hG (fun (q : Int32 × mC) => (some (Value.int q.1), q.2)) (32, 0, 0) [] 7 rfl (oks hC (by decide)) (ce_32 hC _) (ci := 2) rfl (fun r_ hr_ => c_X2_empty hC   hr_) gX6_clearLetter_X2_empty rfl (by decide) (by decide) (n := 0) rfl (Nat.le_of_ble_eq_true rfl) (by decide) ⟨Nat.zero_le _, Nat.zero_le _⟩ rfl dX6_clearLetter_4 (fun r_4 => ?_)
  exact sm_iret hG hT ⟨Nat.zero_le _, Nat.zero_le _⟩ dX6_clearLetter_7 rfl
abbrev rmX2_goTo : Room := { frames := 0, cells := 0, slots := 0, locals := 0 }
set_option maxRecDepth 100000 in
set_option maxHeartbeats 4000000 in
theorem c_X2_goTo {Λ : jL kC} (hC : LC Λ) {x1 : Int32}  {l : Launch} {v : mC} {r : mC} (hr_ : f_X2_goTo x1 v = some r) : Ct l yX2_goTo wsX2_goTo rmX2_goTo Λ [.ref (Λ.2.2.2.1 (32, 0, 0)), .int x1] v none r := by
  refine ct_of (cc := cX2_goTo) (maxL := 2) (ret := none) (fun (w : mC) => ((none : Option Value), w)) hC.1 hr_ (by decide) rfl (Nat.le_of_ble_eq_true rfl) (fun Γ hG hT hN hl => ?_)
  subst hl
  have f19 : Cond.fieldLink RX2 19 "ChoirRegister$Letter" "at" "I" ∈ wsX2_goTo := by decide +kernel
  have u2 : ∀ w ∈ wsX20, w ∈ wsX2_goTo := by decide +kernel
  show Sm Γ Λ (0, 0) 0 [(0, .ref (Λ.2.2.2.1 (32, 0, 0))), (1, .int x1)] [] v _
  unfold f_X2_goTo
  refine sm_aload_n hG 1 rfl dX2_goTo_0 rfl 0 rfl ?_
  refine sm_iload_n hG 2 rfl dX2_goTo_1 rfl 1 rfl ?_
  refine pC32_2 hG hC  5 rfl u2 f19 dX2_goTo_2 ?_
  refine sm_nmv (fun w2_1 => ?_)
  exact sm_vret hG hT ⟨Nat.zero_le _, Nat.zero_le _⟩ dX2_goTo_5 rfl
abbrev rmX2_isAtEnd : Room := { frames := 0, cells := 0, slots := 0, locals := 0 }
set_option maxRecDepth 100000 in
set_option maxHeartbeats 4000000 in
theorem c_X2_isAtEnd {Λ : jL kC} (hC : LC Λ)   {l : Launch} {v : mC} {r : Int32} (hr_ : f_X2_isAtEnd v = some r) : Ct l yX2_isAtEnd wsX2_isAtEnd rmX2_isAtEnd Λ [.ref (Λ.2.2.2.1 (32, 0, 0))] v (some (.int r)) v := by
  refine ct_of (cc := cX2_isAtEnd) (maxL := 1) (ret := (some .boolean)) (fun (q : Int32) => (some (Value.int q), v)) hC.1 hr_ (by decide) rfl (Nat.le_of_ble_eq_true rfl) (fun Γ hG hT hN hl => ?_)
  subst hl
  have f15 : Cond.fieldLink RX2 15 "ChoirRegister$Letter" "length" "I" ∈ wsX2_isAtEnd := by decide +kernel
  have f19 : Cond.fieldLink RX2 19 "ChoirRegister$Letter" "at" "I" ∈ wsX2_isAtEnd := by decide +kernel
  have u2 : ∀ w ∈ wsX20, w ∈ wsX2_isAtEnd := by decide +kernel
  show Sm Γ Λ (0, 0) 0 [(0, .ref (Λ.2.2.2.1 (32, 0, 0)))] [] v _
  unfold f_X2_isAtEnd
  refine sm_aload_n hG 1 rfl dX2_isAtEnd_0 rfl 0 rfl ?_
  refine gC32_2 hG hC  4 rfl u2 f19 dX2_isAtEnd_1 ?_
  refine sm_aload_n hG 5 rfl dX2_isAtEnd_4 rfl 0 rfl ?_
  refine gC32_1 hG hC  8 rfl u2 f15 dX2_isAtEnd_5 ?_
  refine sm_icmp_lt hG 15 11 rfl dX2_isAtEnd_8 (by decide) ?_ ?_
  · refine sm_iconst (x := (0 : Int32)) hG 16 rfl dX2_isAtEnd_15 rfl ?_
    exact sm_bret hG hT ⟨Nat.zero_le _, Nat.zero_le _⟩ dX2_isAtEnd_16 rfl
  · refine sm_iconst (x := (1 : Int32)) hG 12 rfl dX2_isAtEnd_11 rfl ?_
    refine sm_goto hG 16 dX2_isAtEnd_12 (by decide) ?_
    exact sm_bret hG hT ⟨Nat.zero_le _, Nat.zero_le _⟩ dX2_isAtEnd_16 rfl
abbrev rmX2_stands : Room := { frames := 0, cells := 0, slots := 0, locals := 0 }
set_option maxRecDepth 100000 in
set_option maxHeartbeats 4000000 in
theorem c_X2_stands {Λ : jL kC} (hC : LC Λ) {x1 : Int32}  {l : Launch} {v : mC} {r : Int32} (hr_ : f_X2_stands x1 v = some r) : Ct l yX2_stands wsX2_stands rmX2_stands Λ [.ref (Λ.2.2.2.1 (32, 0, 0)), .int x1] v (some (.int r)) v := by
  refine ct_of (cc := cX2_stands) (maxL := 2) (ret := (some .boolean)) (fun (q : Int32) => (some (Value.int q), v)) hC.1 hr_ (by decide) rfl (Nat.le_of_ble_eq_true rfl) (fun Γ hG hT hN hl => ?_)
  subst hl
  have f15 : Cond.fieldLink RX2 15 "ChoirRegister$Letter" "length" "I" ∈ wsX2_stands := by decide +kernel
  have f19 : Cond.fieldLink RX2 19 "ChoirRegister$Letter" "at" "I" ∈ wsX2_stands := by decide +kernel
  have f9 : Cond.fieldLink RX2 9 "ChoirRegister$Letter" "signs" "[C" ∈ wsX2_stands := by decide +kernel
  have u2 : ∀ w ∈ wsX20, w ∈ wsX2_stands := by decide +kernel
  show Sm Γ Λ (0, 0) 0 [(0, .ref (Λ.2.2.2.1 (32, 0, 0))), (1, .int x1)] [] v _
  unfold f_X2_stands
  refine sm_aload_n hG 1 rfl dX2_stands_0 rfl 0 rfl ?_
  refine gC32_2 hG hC  4 rfl u2 f19 dX2_stands_1 ?_
  refine sm_aload_n hG 5 rfl dX2_stands_4 rfl 0 rfl ?_
  refine gC32_1 hG hC  8 rfl u2 f15 dX2_stands_5 ?_
  refine sm_icmp_ge hG 28 11 rfl dX2_stands_8 (by decide) ?_ ?_
  · refine sm_iconst (x := (0 : Int32)) hG 29 rfl dX2_stands_28 rfl ?_
    exact sm_bret hG hT ⟨Nat.zero_le _, Nat.zero_le _⟩ dX2_stands_29 rfl
  · refine sm_aload_n hG 12 rfl dX2_stands_11 rfl 0 rfl ?_
    refine gC32_0 hG hC  15 rfl u2 f9 dX2_stands_12 ?_
    refine sm_aload_n hG 16 rfl dX2_stands_15 rfl 0 rfl ?_
    refine gC32_2 hG hC  19 rfl u2 f19 dX2_stands_16 ?_
    refine lC33 hG hC  20 rfl dX2_stands_19 ?_
    refine sm_iload_n hG 21 rfl dX2_stands_20 rfl 1 rfl ?_
    refine sm_icmp_ne hG 28 24 rfl dX2_stands_21 (by decide) ?_ ?_
    · refine sm_iconst (x := (0 : Int32)) hG 29 rfl dX2_stands_28 rfl ?_
      exact sm_bret hG hT ⟨Nat.zero_le _, Nat.zero_le _⟩ dX2_stands_29 rfl
    · refine sm_iconst (x := (1 : Int32)) hG 25 rfl dX2_stands_24 rfl ?_
      refine sm_goto hG 29 dX2_stands_25 (by decide) ?_
      exact sm_bret hG hT ⟨Nat.zero_le _, Nat.zero_le _⟩ dX2_stands_29 rfl
abbrev rmX2_skip : Room := { frames := 1, cells := 0, slots := 0, locals := 21 }
set_option maxRecDepth 100000 in
set_option maxHeartbeats 4000000 in
theorem c_X2_skip {Λ : jL kC} (hC : LC Λ) {x1 : Int32}  {l : Launch} {v : mC} {r : (Int32 × mC)} (hr_ : f_X2_skip x1 v = some r) : Ct l yX2_skip wsX2_skip rmX2_skip Λ [.ref (Λ.2.2.2.1 (32, 0, 0)), .int x1] v (some (.int r.1)) r.2 := by
  refine ct_of (cc := cX2_skip) (maxL := 2) (ret := (some .boolean)) (fun (q : Int32 × mC) => (some (Value.int q.1), q.2)) hC.1 hr_ (by decide) rfl (Nat.le_of_ble_eq_true rfl) (fun Γ hG hT hN hl => ?_)
  subst hl
  have f19 : Cond.fieldLink RX2 19 "ChoirRegister$Letter" "at" "I" ∈ wsX2_skip := by decide +kernel
  have u2 : ∀ w ∈ wsX20, w ∈ wsX2_skip := by decide +kernel
  show Sm Γ Λ (0, 0) 0 [(0, .ref (Λ.2.2.2.1 (32, 0, 0))), (1, .int x1)] [] v _
  unfold f_X2_skip
  refine sm_aload_n hG 1 rfl dX2_skip_0 rfl 0 rfl ?_
  refine sm_iload_n hG 2 rfl dX2_skip_1 rfl 1 rfl ?_
  refine sm_callV hG (fun (q : Int32) => (some (Value.int q), v)) (32, 0, 0) [.int x1] 5 rfl (oks hC (by decide)) (ce_32 hC _) (ci := 2) rfl (fun r_ hr_ => c_X2_stands hC   hr_) gX2_skip_X2_stands rfl (by decide) (by decide) (n := 1) rfl (Nat.le_of_ble_eq_true rfl) (by decide) ⟨Nat.zero_le _, Nat.zero_le _⟩ rfl dX2_skip_2 (fun r_2 => ?_)
  refine sm_if_ne hG 10 8 rfl dX2_skip_5 (by decide) ?_ ?_
  · refine sm_aload_n hG 11 rfl dX2_skip_10 rfl 0 rfl ?_
    refine sm_dup hG 12 rfl dX2_skip_11 rfl ?_
    refine gC32_2 hG hC  15 rfl u2 f19 dX2_skip_12 ?_
    refine sm_iconst (x := (1 : Int32)) hG 16 rfl dX2_skip_15 rfl ?_
    refine sm_iadd hG 17 rfl dX2_skip_16 ?_
    refine pC32_2 hG hC  20 rfl u2 f19 dX2_skip_17 ?_
    refine sm_nmv (fun w17_1 => ?_)
    refine sm_iconst (x := (1 : Int32)) hG 21 rfl dX2_skip_20 rfl ?_
    exact sm_bret hG hT ⟨Nat.zero_le _, Nat.zero_le _⟩ dX2_skip_21 rfl
  · refine sm_iconst (x := (0 : Int32)) hG 9 rfl dX2_skip_8 rfl ?_
    exact sm_bret hG hT ⟨Nat.zero_le _, Nat.zero_le _⟩ dX2_skip_9 rfl
abbrev rmX2_canBegin : Room := { frames := 0, cells := 0, slots := 0, locals := 0 }
set_option maxRecDepth 100000 in
set_option maxHeartbeats 4000000 in
theorem c_X2_canBegin {Λ : jL kC} (hC : LC Λ) {x0 : Int32} {x1 : Int32} {x2 : Int32}  {l : Launch} {v : mC} {r : Int32} (hr_ : f_X2_canBegin x0 x1 x2 v = some r) : Ct l yX2_canBegin wsX2_canBegin rmX2_canBegin Λ [.int x0, .int x1, .int x2] v (some (.int r)) v := by
  refine ct_of (cc := cX2_canBegin) (maxL := 6) (ret := (some .boolean)) (fun (q : Int32) => (some (Value.int q), v)) hC.1 hr_ (by decide) rfl (Nat.le_of_ble_eq_true rfl) (fun Γ hG hT hN hl => ?_)
  subst hl
  show Sm Γ Λ (0, 0) 0 [(0, .int x0), (1, .int x1), (2, .int x2)] [] v _
  unfold f_X2_canBegin
  refine sm_iload_n hG 1 rfl dX2_canBegin_0 rfl 0 rfl ?_
  refine sm_if_ne hG 14 4 rfl dX2_canBegin_1 (by decide) ?_ ?_
  · refine sm_iload_n hG 15 rfl dX2_canBegin_14 rfl 0 rfl ?_
    refine sm_istore_n hG 16 rfl dX2_canBegin_15 rfl (jlt hN rfl) [(3, .int x0), (0, .int x0), (1, .int x1), (2, .int x2)] rfl ?_
    refine sm_iload_n hG 17 rfl dX2_canBegin_16 rfl 1 rfl ?_
    refine sm_istore hG 19 rfl dX2_canBegin_17 (jlt hN rfl) [(4, .int x0), (3, .int x0), (0, .int x0), (1, .int x1), (2, .int x2)] rfl ?_
    refine sm_iconst (x := (0 : Int32)) hG 20 rfl dX2_canBegin_19 rfl ?_
    refine sm_istore hG 22 rfl dX2_canBegin_20 (jlt hN rfl) [(5, .int (0 : Int32)), (4, .int x0), (3, .int x0), (0, .int x0), (1, .int x1), (2, .int x2)] rfl ?_
    refine sm_loc [4, 5, 2, 1, 0] [(1, .int x1), (2, .int x2), (3, .int x0), (4, .int x0), (5, .int (0 : Int32))] rfl ?_
    refine lp_ind (fun (X22 : Int32 → Int32 → Int32 → Option Int32) => ∀ (x3_22 : Int32) (x4_22 : Int32) (x5_22 : Int32), Sm Γ Λ (0, 0) 22 [(1, .int x1), (2, .int x2), (3, .int x3_22), (4, .int x4_22), (5, .int x5_22)] [] v (X22 x3_22 x4_22 x5_22)) (fun _ _ _ => sm_none) (fun self22 hs22 x3_22 x4_22 x5_22 => ?_) 8192 _ _ _
    refine sm_iload hG 24 rfl dX2_canBegin_22 4 rfl ?_
    refine sm_iconst (x := (4 : Int32)) hG 25 rfl dX2_canBegin_24 rfl ?_
    refine sm_icmp_ge hG 62 28 rfl dX2_canBegin_25 (by decide) ?_ ?_
    · refine sm_iconst (x := (0 : Int32)) hG 63 rfl dX2_canBegin_62 rfl ?_
      exact sm_bret hG hT ⟨Nat.zero_le _, Nat.zero_le _⟩ dX2_canBegin_63 rfl
    · refine sm_iload_n hG 29 rfl dX2_canBegin_28 rfl 2 rfl ?_
      refine sm_iload_n hG 30 rfl dX2_canBegin_29 rfl 1 rfl ?_
      refine sm_icmp_gt hG 62 33 rfl dX2_canBegin_30 (by decide) ?_ ?_
      · refine sm_iconst (x := (0 : Int32)) hG 63 rfl dX2_canBegin_62 rfl ?_
        exact sm_bret hG hT ⟨Nat.zero_le _, Nat.zero_le _⟩ dX2_canBegin_63 rfl
      · refine sm_iload hG 35 rfl dX2_canBegin_33 3 rfl ?_
        refine sm_iload_n hG 36 rfl dX2_canBegin_35 rfl 0 rfl ?_
        refine sm_icmp_lt hG 41 39 rfl dX2_canBegin_36 (by decide) ?_ ?_
        · refine sm_iload_n hG 42 rfl dX2_canBegin_41 rfl 2 rfl ?_
          refine sm_bipush (x := (10 : Int32)) hG 44 rfl dX2_canBegin_42 rfl ?_
          refine sm_imul hG 45 rfl dX2_canBegin_44 ?_
          refine sm_istore_n hG 46 rfl dX2_canBegin_45 rfl (jlt hN rfl) [(3, .int (x3_22 * (10 : Int32))), (1, .int x1), (2, .int x2), (4, .int x4_22), (5, .int x5_22)] rfl ?_
          refine sm_iload hG 48 rfl dX2_canBegin_46 3 rfl ?_
          refine sm_bipush (x := (10 : Int32)) hG 50 rfl dX2_canBegin_48 rfl ?_
          refine sm_imul hG 51 rfl dX2_canBegin_50 ?_
          refine sm_bipush (x := (9 : Int32)) hG 53 rfl dX2_canBegin_51 rfl ?_
          refine sm_iadd hG 54 rfl dX2_canBegin_53 ?_
          refine sm_istore hG 56 rfl dX2_canBegin_54 (jlt hN rfl) [(4, .int ((x4_22 * (10 : Int32)) + (9 : Int32))), (3, .int (x3_22 * (10 : Int32))), (1, .int x1), (2, .int x2), (5, .int x5_22)] rfl ?_
          refine sm_iinc hG 59 rfl dX2_canBegin_56 (j := 4) rfl rfl (jlt hN rfl) [(5, .int (x5_22 + (1 : Int32))), (4, .int ((x4_22 * (10 : Int32)) + (9 : Int32))), (3, .int (x3_22 * (10 : Int32))), (1, .int x1), (2, .int x2)] rfl ?_
          refine sm_goto hG 22 dX2_canBegin_59 (by decide) ?_
          refine sm_loc [3, 4, 2, 1, 0] [(1, .int x1), (2, .int x2), (3, .int (x3_22 * (10 : Int32))), (4, .int ((x4_22 * (10 : Int32)) + (9 : Int32))), (5, .int (x5_22 + (1 : Int32)))] rfl ?_
          exact hs22 _ _ _
        · refine sm_iconst (x := (1 : Int32)) hG 40 rfl dX2_canBegin_39 rfl ?_
          exact sm_bret hG hT ⟨Nat.zero_le _, Nat.zero_le _⟩ dX2_canBegin_40 rfl
  · refine sm_iload_n hG 5 rfl dX2_canBegin_4 rfl 1 rfl ?_
    refine sm_if_ne hG 12 8 rfl dX2_canBegin_5 (by decide) ?_ ?_
    · refine sm_iconst (x := (0 : Int32)) hG 13 rfl dX2_canBegin_12 rfl ?_
      exact sm_bret hG hT ⟨Nat.zero_le _, Nat.zero_le _⟩ dX2_canBegin_13 rfl
    · refine sm_iconst (x := (1 : Int32)) hG 9 rfl dX2_canBegin_8 rfl ?_
      refine sm_goto hG 13 dX2_canBegin_9 (by decide) ?_
      exact sm_bret hG hT ⟨Nat.zero_le _, Nat.zero_le _⟩ dX2_canBegin_13 rfl
abbrev rmX2_readNumber : Room := { frames := 1, cells := 0, slots := 0, locals := 25 }
set_option maxRecDepth 100000 in
set_option maxHeartbeats 4000000 in
theorem c_X2_readNumber {Λ : jL kC} (hC : LC Λ) {x1 : Int32} {x2 : Int32}  {l : Launch} {v : mC} {r : (Int32 × mC)} (hr_ : f_X2_readNumber x1 x2 v = some r) : Ct l yX2_readNumber wsX2_readNumber rmX2_readNumber Λ [.ref (Λ.2.2.2.1 (32, 0, 0)), .int x1, .int x2] v (some (.int r.1)) r.2 := by
  refine ct_of (cc := cX2_readNumber) (maxL := 6) (ret := (some .boolean)) (fun (q : Int32 × mC) => (some (Value.int q.1), q.2)) hC.1 hr_ (by decide) rfl (Nat.le_of_ble_eq_true rfl) (fun Γ hG hT hN hl => ?_)
  subst hl
  have f15 : Cond.fieldLink RX2 15 "ChoirRegister$Letter" "length" "I" ∈ wsX2_readNumber := by decide +kernel
  have f19 : Cond.fieldLink RX2 19 "ChoirRegister$Letter" "at" "I" ∈ wsX2_readNumber := by decide +kernel
  have f29 : Cond.fieldLink RX2 29 "ChoirRegister$Letter" "number" "I" ∈ wsX2_readNumber := by decide +kernel
  have f9 : Cond.fieldLink RX2 9 "ChoirRegister$Letter" "signs" "[C" ∈ wsX2_readNumber := by decide +kernel
  have fi_X6_isWithin : Cond.initialized yX6_isWithin.cls ∈ wsX2_readNumber := by decide +kernel
  have fs_X6_isWithin : Cond.static yX6_isWithin ∈ wsX2_readNumber := by decide +kernel
  have u2 : ∀ w ∈ wsX20, w ∈ wsX2_readNumber := by decide +kernel
  show Sm Γ Λ (0, 0) 0 [(0, .ref (Λ.2.2.2.1 (32, 0, 0))), (1, .int x1), (2, .int x2)] [] v _
  unfold f_X2_readNumber
  refine sm_aload_n hG 1 rfl dX2_readNumber_0 rfl 0 rfl ?_
  refine sm_iconst (x := (0 : Int32)) hG 2 rfl dX2_readNumber_1 rfl ?_
  refine pC32_5 hG hC  5 rfl u2 f29 dX2_readNumber_2 ?_
  refine sm_nmv (fun w2_1 => ?_)
  refine sm_iconst (x := (0 : Int32)) hG 6 rfl dX2_readNumber_5 rfl ?_
  refine sm_istore_n hG 7 rfl dX2_readNumber_6 rfl (jlt hN rfl) [(3, .int (0 : Int32)), (0, .ref (Λ.2.2.2.1 (32, 0, 0))), (1, .int x1), (2, .int x2)] rfl ?_
  refine sm_loc [1, 2, 3, 0] [(0, .ref (Λ.2.2.2.1 (32, 0, 0))), (1, .int x1), (2, .int x2), (3, .int (0 : Int32))] rfl ?_
  refine lp_ind (fun (X7 : Int32 → mC → Option (Int32 × mC)) => ∀ (x3_7 : Int32) (v_7 : mC), Sm Γ Λ (0, 0) 7 [(0, .ref (Λ.2.2.2.1 (32, 0, 0))), (1, .int x1), (2, .int x2), (3, .int x3_7)] [] v_7 (X7 x3_7 v_7)) (fun _ _ => sm_none) (fun self7 hs7 x3_7 v_7 => ?_) 8192 _ _
  refine sm_jn (fun (X116 : Unit → Option (Int32 × mC)) => ∀ (u_ : Unit), Sm Γ Λ (0, 0) 116 [(0, .ref (Λ.2.2.2.1 (32, 0, 0))), (1, .int x1), (2, .int x2), (3, .int x3_7)] [] v_7 (X116 u_)) (fun u_ => ?_) (fun j116 hj116 => ?_)
  · refine sm_iload_n hG 117 rfl dX2_readNumber_116 rfl 3 rfl ?_
    refine sm_if_le hG 136 120 rfl dX2_readNumber_117 (by decide) ?_ ?_
    · refine sm_iconst (x := (0 : Int32)) hG 137 rfl dX2_readNumber_136 rfl ?_
      exact sm_bret hG hT ⟨Nat.zero_le _, Nat.zero_le _⟩ dX2_readNumber_137 rfl
    · refine sm_aload_n hG 121 rfl dX2_readNumber_120 rfl 0 rfl ?_
      refine gC32_5 hG hC  124 rfl u2 f29 dX2_readNumber_121 ?_
      refine sm_iload_n hG 125 rfl dX2_readNumber_124 rfl 1 rfl ?_
      refine sm_iload_n hG 126 rfl dX2_readNumber_125 rfl 2 rfl ?_
      refine sm_callN hG (host := "ChoirRegister") (fun (q : Int32) => (some (Value.int q), v_7)) [.int (v_7 (32, 0, 0) 5), .int x1, .int x2] 129 rfl (fun hX => (hC.2.2.2 _ _ hX).1 _ (by decide +kernel)) (fun r_ hr_ => c_X6_isWithin hC   hr_) gX2_readNumber_X6_isWithin_n77 fs_X6_isWithin fi_X6_isWithin rfl (by decide) (by decide) (n := 3) rfl (Nat.le_of_ble_eq_true rfl) (by decide) ⟨Nat.zero_le _, Nat.zero_le _⟩ rfl dX2_readNumber_126 (fun r_126 => ?_)
      refine sm_if_eq hG 136 132 rfl dX2_readNumber_129 (by decide) ?_ ?_
      · refine sm_iconst (x := (0 : Int32)) hG 137 rfl dX2_readNumber_136 rfl ?_
        exact sm_bret hG hT ⟨Nat.zero_le _, Nat.zero_le _⟩ dX2_readNumber_137 rfl
      · refine sm_iconst (x := (1 : Int32)) hG 133 rfl dX2_readNumber_132 rfl ?_
        refine sm_goto hG 137 dX2_readNumber_133 (by decide) ?_
        exact sm_bret hG hT ⟨Nat.zero_le _, Nat.zero_le _⟩ dX2_readNumber_137 rfl
  · refine sm_aload_n hG 8 rfl dX2_readNumber_7 rfl 0 rfl ?_
    refine gC32_2 hG hC  11 rfl u2 f19 dX2_readNumber_8 ?_
    refine sm_aload_n hG 12 rfl dX2_readNumber_11 rfl 0 rfl ?_
    refine gC32_1 hG hC  15 rfl u2 f15 dX2_readNumber_12 ?_
    refine sm_icmp_ge hG 116 18 rfl dX2_readNumber_15 (by decide) ?_ ?_
    · exact hj116 ()
    · refine sm_aload_n hG 19 rfl dX2_readNumber_18 rfl 0 rfl ?_
      refine gC32_0 hG hC  22 rfl u2 f9 dX2_readNumber_19 ?_
      refine sm_aload_n hG 23 rfl dX2_readNumber_22 rfl 0 rfl ?_
      refine gC32_2 hG hC  26 rfl u2 f19 dX2_readNumber_23 ?_
      refine lC33 hG hC  27 rfl dX2_readNumber_26 ?_
      refine sm_bipush (x := (48 : Int32)) hG 29 rfl dX2_readNumber_27 rfl ?_
      refine sm_bipush (x := (57 : Int32)) hG 31 rfl dX2_readNumber_29 rfl ?_
      refine sm_callN hG (host := "ChoirRegister") (fun (q : Int32) => (some (Value.int q), v_7)) [.int (v_7 (33, 0, 0) (ix (v_7 (32, 0, 0) 2))), .int (48 : Int32), .int (57 : Int32)] 34 rfl (fun hX => (hC.2.2.2 _ _ hX).1 _ (by decide +kernel)) (fun r_ hr_ => c_X6_isWithin hC   hr_) gX2_readNumber_X6_isWithin_n77 fs_X6_isWithin fi_X6_isWithin rfl (by decide) (by decide) (n := 3) rfl (Nat.le_of_ble_eq_true rfl) (by decide) ⟨Nat.zero_le _, Nat.zero_le _⟩ rfl dX2_readNumber_31 (fun r_31 => ?_)
      refine sm_if_eq hG 116 37 rfl dX2_readNumber_34 (by decide) ?_ ?_
      · exact hj116 ()
      · refine sm_jn (fun (X75 : Int32 → Int32 → Option (Int32 × mC)) => ∀ (x4_75 : Int32) (s0_75 : Int32), Sm Γ Λ (0, 0) 75 [(0, .ref (Λ.2.2.2.1 (32, 0, 0))), (1, .int x1), (2, .int x2), (3, .int x3_7), (4, .int x4_75)] [.int s0_75] v_7 (X75 x4_75 s0_75)) (fun x4_75 s0_75 => ?_) (fun j75 hj75 => ?_)
        · refine sm_istore hG 77 rfl dX2_readNumber_75 (jlt hN rfl) [(5, .int s0_75), (0, .ref (Λ.2.2.2.1 (32, 0, 0))), (1, .int x1), (2, .int x2), (3, .int x3_7), (4, .int x4_75)] rfl ?_
          refine sm_iload hG 79 rfl dX2_readNumber_77 0 rfl ?_
          refine sm_if_ne hG 92 82 rfl dX2_readNumber_79 (by decide) ?_ ?_
          · refine sm_iconst (x := (0 : Int32)) hG 93 rfl dX2_readNumber_92 rfl ?_
            exact sm_bret hG hT ⟨Nat.zero_le _, Nat.zero_le _⟩ dX2_readNumber_93 rfl
          · refine sm_iload hG 84 rfl dX2_readNumber_82 5 rfl ?_
            refine sm_iload_n hG 85 rfl dX2_readNumber_84 rfl 2 rfl ?_
            refine sm_iload_n hG 86 rfl dX2_readNumber_85 rfl 3 rfl ?_
            refine sm_callS hG (fun (q : Int32) => (some (Value.int q), v_7)) [.int x4_75, .int x1, .int x2] 89 rfl (fun r_ hr_ => c_X2_canBegin hC   hr_) gX2_readNumber_X2_canBegin rfl (by decide) (by decide) (n := 3) rfl (Nat.le_of_ble_eq_true rfl) (by decide) ⟨Nat.zero_le _, Nat.zero_le _⟩ rfl dX2_readNumber_86 (fun r_86 => ?_)
            refine sm_if_ne hG 94 92 rfl dX2_readNumber_89 (by decide) ?_ ?_
            · refine sm_aload_n hG 95 rfl dX2_readNumber_94 rfl 1 rfl ?_
              refine sm_iload hG 97 rfl dX2_readNumber_95 5 rfl ?_
              refine pC32_5 hG hC  100 rfl u2 f29 dX2_readNumber_97 ?_
              refine sm_nmv (fun w97_3 => ?_)
              refine sm_iinc hG 103 rfl dX2_readNumber_100 (j := 4) rfl rfl (jlt hN rfl) [(3, .int (x3_7 + (1 : Int32))), (5, .int s0_75), (0, .ref (Λ.2.2.2.1 (32, 0, 0))), (1, .int x1), (2, .int x2), (4, .int x4_75)] rfl ?_
              refine sm_aload_n hG 104 rfl dX2_readNumber_103 rfl 2 rfl ?_
              refine sm_dup hG 105 rfl dX2_readNumber_104 rfl ?_
              refine gC32_2 hG hC  108 rfl u2 f19 dX2_readNumber_105 ?_
              refine sm_iconst (x := (1 : Int32)) hG 109 rfl dX2_readNumber_108 rfl ?_
              refine sm_iadd hG 110 rfl dX2_readNumber_109 ?_
              refine pC32_2 hG hC  113 rfl u2 f19 dX2_readNumber_110 ?_
              refine sm_nmv (fun w110_4 => ?_)
              refine sm_goto hG 7 dX2_readNumber_113 (by decide) ?_
              refine sm_loc [2, 3, 4, 0] [(0, .ref (Λ.2.2.2.1 (32, 0, 0))), (1, .int x1), (2, .int x2), (3, .int (x3_7 + (1 : Int32)))] rfl ?_
              exact hs7 _ _
            · refine sm_iconst (x := (0 : Int32)) hG 93 rfl dX2_readNumber_92 rfl ?_
              exact sm_bret hG hT ⟨Nat.zero_le _, Nat.zero_le _⟩ dX2_readNumber_93 rfl
        · refine sm_jn (fun (X74 : Int32 → Option (Int32 × mC)) => ∀ (x4_74 : Int32), Sm Γ Λ (0, 0) 74 [(0, .ref (Λ.2.2.2.1 (32, 0, 0))), (1, .int x1), (2, .int x2), (3, .int x3_7), (4, .int x4_74)] [] v_7 (X74 x4_74)) (fun x4_74 => ?_) (fun j74 hj74 => ?_)
          · refine sm_iconst (x := (0 : Int32)) hG 75 rfl dX2_readNumber_74 rfl ?_
            exact hj75 _ _
          · refine sm_aload_n hG 38 rfl dX2_readNumber_37 rfl 0 rfl ?_
            refine gC32_5 hG hC  41 rfl u2 f29 dX2_readNumber_38 ?_
            refine sm_bipush (x := (10 : Int32)) hG 43 rfl dX2_readNumber_41 rfl ?_
            refine sm_imul hG 44 rfl dX2_readNumber_43 ?_
            refine sm_aload_n hG 45 rfl dX2_readNumber_44 rfl 0 rfl ?_
            refine gC32_0 hG hC  48 rfl u2 f9 dX2_readNumber_45 ?_
            refine sm_aload_n hG 49 rfl dX2_readNumber_48 rfl 0 rfl ?_
            refine gC32_2 hG hC  52 rfl u2 f19 dX2_readNumber_49 ?_
            refine lC33 hG hC  53 rfl dX2_readNumber_52 ?_
            refine sm_iadd hG 54 rfl dX2_readNumber_53 ?_
            refine sm_nmi (fun y53_2 => ?_)
            refine sm_bipush (x := (48 : Int32)) hG 56 rfl dX2_readNumber_54 rfl ?_
            refine sm_isub hG 57 rfl dX2_readNumber_56 ?_
            refine sm_istore hG 59 rfl dX2_readNumber_57 (jlt hN rfl) [(4, .int (y53_2 - (48 : Int32))), (0, .ref (Λ.2.2.2.1 (32, 0, 0))), (1, .int x1), (2, .int x2), (3, .int x3_7)] rfl ?_
            refine sm_iload_n hG 60 rfl dX2_readNumber_59 rfl 4 rfl ?_
            refine sm_if_le hG 74 63 rfl dX2_readNumber_60 (by decide) ?_ ?_
            · refine sm_loc [1, 2, 3, 4, 0] [(0, .ref (Λ.2.2.2.1 (32, 0, 0))), (1, .int x1), (2, .int x2), (3, .int x3_7), (4, .int (y53_2 - (48 : Int32)))] rfl ?_
              exact hj74 _
            · refine sm_aload_n hG 64 rfl dX2_readNumber_63 rfl 1 rfl ?_
              refine gC32_5 hG hC  67 rfl u2 f29 dX2_readNumber_64 ?_
              refine sm_if_ne hG 74 70 rfl dX2_readNumber_67 (by decide) ?_ ?_
              · refine sm_loc [1, 2, 3, 4, 0] [(0, .ref (Λ.2.2.2.1 (32, 0, 0))), (1, .int x1), (2, .int x2), (3, .int x3_7), (4, .int (y53_2 - (48 : Int32)))] rfl ?_
                exact hj74 _
              · refine sm_iconst (x := (1 : Int32)) hG 71 rfl dX2_readNumber_70 rfl ?_
                refine sm_goto hG 75 dX2_readNumber_71 (by decide) ?_
                refine sm_loc [1, 2, 3, 4, 0] [(0, .ref (Λ.2.2.2.1 (32, 0, 0))), (1, .int x1), (2, .int x2), (3, .int x3_7), (4, .int (y53_2 - (48 : Int32)))] rfl ?_
                exact hj75 _ _
abbrev rmX2_readOrder : Room := { frames := 6, cells := 0, slots := 0, locals := 171 }
set_option maxRecDepth 100000 in
set_option maxHeartbeats 4000000 in
theorem c_X2_readOrder {Λ : jL kC} (hC : LC Λ)   {l : Launch} {v : mC} {r : (Int32 × mC)} (hr_ : f_X2_readOrder v = some r) : Ct l yX2_readOrder wsX2_readOrder rmX2_readOrder Λ [.ref (Λ.2.2.2.1 (32, 0, 0))] v (some (.int r.1)) r.2 := by
  refine ct_of (cc := cX2_readOrder) (maxL := 3) (ret := (some .boolean)) (fun (q : Int32 × mC) => (some (Value.int q.1), q.2)) hC.1 hr_ (by decide) rfl (Nat.le_of_ble_eq_true rfl) (fun Γ hG hT hN hl => ?_)
  subst hl
  have f19 : Cond.fieldLink RX2 19 "ChoirRegister$Letter" "at" "I" ∈ wsX2_readOrder := by decide +kernel
  have f22 : Cond.fieldLink RX2 22 "ChoirRegister$Letter" "kind" "I" ∈ wsX2_readOrder := by decide +kernel
  have f25 : Cond.fieldLink RX2 25 "ChoirRegister$Letter" "numbers" "[I" ∈ wsX2_readOrder := by decide +kernel
  have f29 : Cond.fieldLink RX2 29 "ChoirRegister$Letter" "number" "I" ∈ wsX2_readOrder := by decide +kernel
  have f9 : Cond.fieldLink RX2 9 "ChoirRegister$Letter" "signs" "[C" ∈ wsX2_readOrder := by decide +kernel
  have u2 : ∀ w ∈ wsX20, w ∈ wsX2_readOrder := by decide +kernel
  obtain ⟨-, -, ⟨⟨aFP, hZFP, hTFP⟩, ⟨aLN, hZLN, hTLN⟩, ⟨aGN, hZGN, hTGN⟩⟩, ⟨aK, aV, hVS, hR0, hR1⟩, hCS, tS, hSF⟩ := (hC.2.2.2 _ _ hG.2.2.2.2.2.2.2.2.2).2
  show Sm Γ Λ (0, 0) 0 [(0, .ref (Λ.2.2.2.1 (32, 0, 0)))] [] v _
  unfold f_X2_readOrder
  refine sm_jn (fun (X26 : Int32 → Option (Int32 × mC)) => ∀ (s0_26 : Int32), Sm Γ Λ (0, 0) 26 [(0, .ref (Λ.2.2.2.1 (32, 0, 0)))] [.int s0_26, .ref (Λ.2.2.2.1 (32, 0, 0))] v (X26 s0_26)) (fun s0_26 => ?_) (fun j26 hj26 => ?_)
  · refine pC32_3 hG hC  29 rfl u2 f22 dX2_readOrder_26 ?_
    refine sm_nmv (fun w26_2 => ?_)
    refine sm_aload_n hG 30 rfl dX2_readOrder_29 rfl 0 rfl ?_
    refine gC32_3 hG hC  33 rfl u2 f22 dX2_readOrder_30 ?_
    refine sm_if_ge hG 38 36 rfl dX2_readOrder_33 (by decide) ?_ ?_
    · refine sm_gst hG 41 rfl hZFP ((hC.2.2.2 _ _ hG.2.2.2.2.2.2.2.2.2).1 (.fieldLinkNest RX2 55 "ChoirRegister" "FIRST_PART" "[I" "ChoirRegister") (by decide +kernel)) dX2_readOrder_38 ?_
      refine sm_aload_n hG 42 rfl dX2_readOrder_41 rfl 0 rfl ?_
      refine gC32_3 hG hC  45 rfl u2 f22 dX2_readOrder_42 ?_
      refine sm_tld hG 46 rfl hTFP dX2_readOrder_45 ?_
      refine sm_istore_n hG 47 rfl dX2_readOrder_46 rfl (jlt hN rfl) [(1, .int (T_FP (ix (w26_2 (32, 0, 0) 3)))), (0, .ref (Λ.2.2.2.1 (32, 0, 0)))] rfl ?_
      refine sm_iload_n hG 48 rfl dX2_readOrder_47 rfl 0 rfl ?_
      refine sm_istore_n hG 49 rfl dX2_readOrder_48 rfl (jlt hN rfl) [(2, .int (T_FP (ix (w26_2 (32, 0, 0) 3)))), (1, .int (T_FP (ix (w26_2 (32, 0, 0) 3)))), (0, .ref (Λ.2.2.2.1 (32, 0, 0)))] rfl ?_
      refine sm_loc [2, 1, 0] [(0, .ref (Λ.2.2.2.1 (32, 0, 0))), (1, .int (T_FP (ix (w26_2 (32, 0, 0) 3)))), (2, .int (T_FP (ix (w26_2 (32, 0, 0) 3))))] rfl ?_
      refine lp_ind (fun (X49 : Int32 → mC → Option (Int32 × mC)) => ∀ (x2_49 : Int32) (v_49 : mC), Sm Γ Λ (0, 0) 49 [(0, .ref (Λ.2.2.2.1 (32, 0, 0))), (1, .int (T_FP (ix (w26_2 (32, 0, 0) 3)))), (2, .int x2_49)] [] v_49 (X49 x2_49 v_49)) (fun _ _ => sm_none) (fun self49 hs49 x2_49 v_49 => ?_) 8192 _ _
      refine sm_iload_n hG 50 rfl dX2_readOrder_49 rfl 2 rfl ?_
      refine sm_gst hG 53 rfl hZFP ((hC.2.2.2 _ _ hG.2.2.2.2.2.2.2.2.2).1 (.fieldLinkNest RX2 55 "ChoirRegister" "FIRST_PART" "[I" "ChoirRegister") (by decide +kernel)) dX2_readOrder_50 ?_
      refine sm_aload_n hG 54 rfl dX2_readOrder_53 rfl 0 rfl ?_
      refine gC32_3 hG hC  57 rfl u2 f22 dX2_readOrder_54 ?_
      refine sm_iconst (x := (1 : Int32)) hG 58 rfl dX2_readOrder_57 rfl ?_
      refine sm_iadd hG 59 rfl dX2_readOrder_58 ?_
      refine sm_tld hG 60 rfl hTFP dX2_readOrder_59 ?_
      refine sm_nmi (fun y59_3 => ?_)
      refine sm_icmp_ge hG 139 63 rfl dX2_readOrder_60 (by decide) ?_ ?_
      · refine sm_iconst (x := (1 : Int32)) hG 140 rfl dX2_readOrder_139 rfl ?_
        exact sm_bret hG hT ⟨Nat.zero_le _, Nat.zero_le _⟩ dX2_readOrder_140 rfl
      · refine sm_jn (fun (X121 : mC → Option (Int32 × mC)) => ∀ (v_121 : mC), Sm Γ Λ (0, 0) 121 [(0, .ref (Λ.2.2.2.1 (32, 0, 0))), (1, .int (T_FP (ix (w26_2 (32, 0, 0) 3)))), (2, .int x2_49)] [] v_121 (X121 v_121)) (fun v_121 => ?_) (fun j121 hj121 => ?_)
        · refine sm_aload_n hG 122 rfl dX2_readOrder_121 rfl 0 rfl ?_
          refine gC32_4 hG hC  125 rfl u2 f25 dX2_readOrder_122 ?_
          refine sm_iload_n hG 126 rfl dX2_readOrder_125 rfl 2 rfl ?_
          refine sm_iload_n hG 127 rfl dX2_readOrder_126 rfl 1 rfl ?_
          refine sm_isub hG 128 rfl dX2_readOrder_127 ?_
          refine sm_aload_n hG 129 rfl dX2_readOrder_128 rfl 0 rfl ?_
          refine gC32_5 hG hC  132 rfl u2 f29 dX2_readOrder_129 ?_
          refine sC34 hG hC  133 rfl dX2_readOrder_132 ?_
          refine sm_nmv (fun w132_5 => ?_)
          refine sm_iinc hG 136 rfl dX2_readOrder_133 (j := 2) rfl rfl (jlt hN rfl) [(2, .int (x2_49 + (1 : Int32))), (0, .ref (Λ.2.2.2.1 (32, 0, 0))), (1, .int (T_FP (ix (w26_2 (32, 0, 0) 3))))] rfl ?_
          refine sm_goto hG 49 dX2_readOrder_136 (by decide) ?_
          refine sm_loc [1, 2, 0] [(0, .ref (Λ.2.2.2.1 (32, 0, 0))), (1, .int (T_FP (ix (w26_2 (32, 0, 0) 3)))), (2, .int (x2_49 + (1 : Int32)))] rfl ?_
          exact hs49 _ _
        · refine sm_jn (fun (X89 : Unit → Option (Int32 × mC)) => ∀ (u_ : Unit), Sm Γ Λ (0, 0) 89 [(0, .ref (Λ.2.2.2.1 (32, 0, 0))), (1, .int (T_FP (ix (w26_2 (32, 0, 0) 3)))), (2, .int x2_49)] [] v_49 (X89 u_)) (fun u_ => ?_) (fun j89 hj89 => ?_)
          · refine sm_aload_n hG 90 rfl dX2_readOrder_89 rfl 0 rfl ?_
            refine sm_ldcs hG 92 rfl hR1 dX2_readOrder_90 ?_
            refine sm_iload_n hG 93 rfl dX2_readOrder_92 rfl 2 rfl ?_
            refine sm_scha hG hVS hCS hSF (by decide) 96 rfl gX2_readOrder_J0_charAt_5068e (by decide) (Nat.le_of_ble_eq_true rfl) (by decide) dX2_readOrder_93 ?_
            refine sm_callV hG (fun (q : Int32 × mC) => (some (Value.int q.1), q.2)) (32, 0, 0) [.int (S_PS.getD (ix x2_49) 0)] 99 rfl (oks hC (by decide)) (ce_32 hC _) (ci := 2) rfl (fun r_ hr_ => c_X2_skip hC   hr_) gX2_readOrder_X2_skip rfl (by decide) (by decide) (n := 1) rfl (Nat.le_of_ble_eq_true rfl) (by decide) ⟨Nat.zero_le _, Nat.zero_le _⟩ rfl dX2_readOrder_96 (fun r_96 => ?_)
            refine sm_if_eq hG 119 102 rfl dX2_readOrder_99 (by decide) ?_ ?_
            · refine sm_iconst (x := (0 : Int32)) hG 120 rfl dX2_readOrder_119 rfl ?_
              exact sm_bret hG hT ⟨Nat.zero_le _, Nat.zero_le _⟩ dX2_readOrder_120 rfl
            · refine sm_aload_n hG 103 rfl dX2_readOrder_102 rfl 0 rfl ?_
              refine sm_gst hG 106 rfl hZLN ((hC.2.2.2 _ _ hG.2.2.2.2.2.2.2.2.2).1 (.fieldLinkNest RX2 67 "ChoirRegister" "LEAST_NUMBER" "[I" "ChoirRegister") (by decide +kernel)) dX2_readOrder_103 ?_
              refine sm_iload_n hG 107 rfl dX2_readOrder_106 rfl 2 rfl ?_
              refine sm_tld hG 108 rfl hTLN dX2_readOrder_107 ?_
              refine sm_gst hG 111 rfl hZGN ((hC.2.2.2 _ _ hG.2.2.2.2.2.2.2.2.2).1 (.fieldLinkNest RX2 70 "ChoirRegister" "GREATEST_NUMBER" "[I" "ChoirRegister") (by decide +kernel)) dX2_readOrder_108 ?_
              refine sm_iload_n hG 112 rfl dX2_readOrder_111 rfl 2 rfl ?_
              refine sm_tld hG 113 rfl hTGN dX2_readOrder_112 ?_
              refine sm_callV hG (fun (q : Int32 × mC) => (some (Value.int q.1), q.2)) (32, 0, 0) [.int (T_LN (ix x2_49)), .int (T_GN (ix x2_49))] 116 rfl (oks hC (by decide)) (ce_32 hC _) (ci := 2) rfl (fun r_ hr_ => c_X2_readNumber hC   hr_) gX2_readOrder_X2_readNumber rfl (by decide) (by decide) (n := 2) rfl (Nat.le_of_ble_eq_true rfl) (by decide) ⟨Nat.zero_le _, Nat.zero_le _⟩ rfl dX2_readOrder_113 (fun r_113 => ?_)
              refine sm_if_ne hG 121 119 rfl dX2_readOrder_116 (by decide) ?_ ?_
              · exact hj121 _
              · refine sm_iconst (x := (0 : Int32)) hG 120 rfl dX2_readOrder_119 rfl ?_
                exact sm_bret hG hT ⟨Nat.zero_le _, Nat.zero_le _⟩ dX2_readOrder_120 rfl
          · refine sm_iload_n hG 64 rfl dX2_readOrder_63 rfl 2 rfl ?_
            refine sm_iconst (x := (4 : Int32)) hG 65 rfl dX2_readOrder_64 rfl ?_
            refine sm_icmp_ne hG 89 68 rfl dX2_readOrder_65 (by decide) ?_ ?_
            · exact hj89 ()
            · refine sm_aload_n hG 69 rfl dX2_readOrder_68 rfl 0 rfl ?_
              refine sm_ldcs hG 71 rfl hR1 dX2_readOrder_69 ?_
              refine sm_iload_n hG 72 rfl dX2_readOrder_71 rfl 2 rfl ?_
              refine sm_scha hG hVS hCS hSF (by decide) 75 rfl gX2_readOrder_J0_charAt_5068e (by decide) (Nat.le_of_ble_eq_true rfl) (by decide) dX2_readOrder_72 ?_
              refine sm_callV hG (fun (q : Int32) => (some (Value.int q), v_49)) (32, 0, 0) [.int (S_PS.getD (ix x2_49) 0)] 78 rfl (oks hC (by decide)) (ce_32 hC _) (ci := 2) rfl (fun r_ hr_ => c_X2_stands hC   hr_) gX2_readOrder_X2_stands rfl (by decide) (by decide) (n := 1) rfl (Nat.le_of_ble_eq_true rfl) (by decide) ⟨Nat.zero_le _, Nat.zero_le _⟩ rfl dX2_readOrder_75 (fun r_75 => ?_)
              refine sm_if_ne hG 89 81 rfl dX2_readOrder_78 (by decide) ?_ ?_
              · exact hj89 ()
              · refine sm_aload_n hG 82 rfl dX2_readOrder_81 rfl 0 rfl ?_
                refine sm_iconst (x := (0 : Int32)) hG 83 rfl dX2_readOrder_82 rfl ?_
                refine pC32_5 hG hC  86 rfl u2 f29 dX2_readOrder_83 ?_
                refine sm_nmv (fun w83_4 => ?_)
                refine sm_goto hG 121 dX2_readOrder_86 (by decide) ?_
                exact hj121 _
    · refine sm_iconst (x := (0 : Int32)) hG 37 rfl dX2_readOrder_36 rfl ?_
      exact sm_bret hG hT ⟨Nat.zero_le _, Nat.zero_le _⟩ dX2_readOrder_37 rfl
  · refine sm_aload_n hG 1 rfl dX2_readOrder_0 rfl 0 rfl ?_
    refine sm_aload_n hG 2 rfl dX2_readOrder_1 rfl 0 rfl ?_
    refine sm_callV hG (fun (q : Int32) => (some (Value.int q), v)) (32, 0, 0) [] 5 rfl (oks hC (by decide)) (ce_32 hC _) (ci := 2) rfl (fun r_ hr_ => c_X2_isAtEnd hC   hr_) gX2_readOrder_X2_isAtEnd rfl (by decide) (by decide) (n := 0) rfl (Nat.le_of_ble_eq_true rfl) (by decide) ⟨Nat.zero_le _, Nat.zero_le _⟩ rfl dX2_readOrder_2 (fun r_2 => ?_)
    refine sm_if_eq hG 12 8 rfl dX2_readOrder_5 (by decide) ?_ ?_
    · refine sm_ldcs hG 14 rfl hR0 dX2_readOrder_12 ?_
      refine sm_aload_n hG 15 rfl dX2_readOrder_14 rfl 0 rfl ?_
      refine gC32_0 hG hC  18 rfl u2 f9 dX2_readOrder_15 ?_
      refine sm_aload_n hG 19 rfl dX2_readOrder_18 rfl 0 rfl ?_
      refine gC32_2 hG hC  22 rfl u2 f19 dX2_readOrder_19 ?_
      refine lC33 hG hC  23 rfl dX2_readOrder_22 ?_
      refine sm_sidx hG hVS hCS hSF (by decide) 26 rfl gX2_readOrder_J0_indexOf_0f7a4 (by decide) (Nat.le_of_ble_eq_true rfl) (by decide) dX2_readOrder_23 ?_
      refine sm_nmi (fun y23_1 => ?_)
      exact hj26 _
    · refine sm_iconst (x := (-1 : Int32)) hG 9 rfl dX2_readOrder_8 rfl ?_
      refine sm_goto hG 26 dX2_readOrder_9 (by decide) ?_
      exact hj26 _
abbrev rmX2_findError : Room := { frames := 7, cells := 0, slots := 0, locals := 193 }
set_option maxRecDepth 100000 in
set_option maxHeartbeats 4000000 in
theorem c_X2_findError {Λ : jL kC} (hC : LC Λ)   {l : Launch} {v : mC} {r : (Int32 × mC)} (hr_ : f_X2_findError v = some r) : Ct l yX2_findError wsX2_findError rmX2_findError Λ [.ref (Λ.2.2.2.1 (32, 0, 0))] v (some (.int r.1)) r.2 := by
  refine ct_of (cc := cX2_findError) (maxL := 2) (ret := (some .int)) (fun (q : Int32 × mC) => (some (Value.int q.1), q.2)) hC.1 hr_ (by decide) rfl (Nat.le_of_ble_eq_true rfl) (fun Γ hG hT hN hl => ?_)
  subst hl
  have f19 : Cond.fieldLink RX2 19 "ChoirRegister$Letter" "at" "I" ∈ wsX2_findError := by decide +kernel
  have u2 : ∀ w ∈ wsX20, w ∈ wsX2_findError := by decide +kernel
  show Sm Γ Λ (0, 0) 0 [(0, .ref (Λ.2.2.2.1 (32, 0, 0)))] [] v _
  unfold f_X2_findError
  refine sm_aload_n hG 1 rfl dX2_findError_0 rfl 0 rfl ?_
  refine sm_iconst (x := (0 : Int32)) hG 2 rfl dX2_findError_1 rfl ?_
  refine sm_callV hG (fun (w : mC) => ((none : Option Value), w)) (32, 0, 0) [.int (0 : Int32)] 5 rfl (oks hC (by decide)) (ce_32 hC _) (ci := 2) rfl (fun r_ hr_ => c_X2_goTo hC   hr_) gX2_findError_X2_goTo rfl (by decide) (by decide) (n := 1) rfl (Nat.le_of_ble_eq_true rfl) (by decide) ⟨Nat.zero_le _, Nat.zero_le _⟩ rfl dX2_findError_2 (fun r_2 => ?_)
  refine sm_iconst (x := (0 : Int32)) hG 6 rfl dX2_findError_5 rfl ?_
  refine sm_istore_n hG 7 rfl dX2_findError_6 rfl (jlt hN rfl) [(1, .int (0 : Int32)), (0, .ref (Λ.2.2.2.1 (32, 0, 0)))] rfl ?_
  refine sm_loc [1, 0] [(0, .ref (Λ.2.2.2.1 (32, 0, 0))), (1, .int (0 : Int32))] rfl ?_
  refine lp_ind (fun (X7 : Int32 → mC → Option (Int32 × mC)) => ∀ (x1_7 : Int32) (v_7 : mC), Sm Γ Λ (0, 0) 7 [(0, .ref (Λ.2.2.2.1 (32, 0, 0))), (1, .int x1_7)] [] v_7 (X7 x1_7 v_7)) (fun _ _ => sm_none) (fun self7 hs7 x1_7 v_7 => ?_) 8192 _ _
  refine sm_iload_n hG 8 rfl dX2_findError_7 rfl 1 rfl ?_
  refine sm_bipush (x := (80 : Int32)) hG 10 rfl dX2_findError_8 rfl ?_
  refine sm_icmp_ge hG 54 13 rfl dX2_findError_10 (by decide) ?_ ?_
  · refine sm_aload_n hG 55 rfl dX2_findError_54 rfl 0 rfl ?_
    refine gC32_2 hG hC  58 rfl u2 f19 dX2_findError_55 ?_
    exact sm_iret hG hT ⟨Nat.zero_le _, Nat.zero_le _⟩ dX2_findError_58 rfl
  · refine sm_aload_n hG 14 rfl dX2_findError_13 rfl 0 rfl ?_
    refine sm_callV hG (fun (q : Int32 × mC) => (some (Value.int q.1), q.2)) (32, 0, 0) [] 17 rfl (oks hC (by decide)) (ce_32 hC _) (ci := 2) rfl (fun r_ hr_ => c_X2_readOrder hC   hr_) gX2_findError_X2_readOrder rfl (by decide) (by decide) (n := 0) rfl (Nat.le_of_ble_eq_true rfl) (by decide) ⟨Nat.zero_le _, Nat.zero_le _⟩ rfl dX2_findError_14 (fun r_14 => ?_)
    refine sm_if_ne hG 25 20 rfl dX2_findError_17 (by decide) ?_ ?_
    · refine sm_aload_n hG 26 rfl dX2_findError_25 rfl 0 rfl ?_
      refine sm_callV hG (fun (q : Int32) => (some (Value.int q), r_14.2)) (32, 0, 0) [] 29 rfl (oks hC (by decide)) (ce_32 hC _) (ci := 2) rfl (fun r_ hr_ => c_X2_isAtEnd hC   hr_) gX2_findError_X2_isAtEnd rfl (by decide) (by decide) (n := 0) rfl (Nat.le_of_ble_eq_true rfl) (by decide) ⟨Nat.zero_le _, Nat.zero_le _⟩ rfl dX2_findError_26 (fun r_26 => ?_)
      refine sm_if_eq hG 34 32 rfl dX2_findError_29 (by decide) ?_ ?_
      · refine sm_aload_n hG 35 rfl dX2_findError_34 rfl 0 rfl ?_
        refine sm_bipush (x := (59 : Int32)) hG 37 rfl dX2_findError_35 rfl ?_
        refine sm_callV hG (fun (q : Int32 × mC) => (some (Value.int q.1), q.2)) (32, 0, 0) [.int (59 : Int32)] 40 rfl (oks hC (by decide)) (ce_32 hC _) (ci := 2) rfl (fun r_ hr_ => c_X2_skip hC   hr_) gX2_findError_X2_skip rfl (by decide) (by decide) (n := 1) rfl (Nat.le_of_ble_eq_true rfl) (by decide) ⟨Nat.zero_le _, Nat.zero_le _⟩ rfl dX2_findError_37 (fun r_37 => ?_)
        refine sm_if_ne hG 48 43 rfl dX2_findError_40 (by decide) ?_ ?_
        · refine sm_iinc hG 51 rfl dX2_findError_48 (j := 1) rfl rfl (jlt hN rfl) [(1, .int (x1_7 + (1 : Int32))), (0, .ref (Λ.2.2.2.1 (32, 0, 0)))] rfl ?_
          refine sm_goto hG 7 dX2_findError_51 (by decide) ?_
          refine sm_loc [1, 0] [(0, .ref (Λ.2.2.2.1 (32, 0, 0))), (1, .int (x1_7 + (1 : Int32)))] rfl ?_
          exact hs7 _ _
        · refine sm_aload_n hG 44 rfl dX2_findError_43 rfl 0 rfl ?_
          refine gC32_2 hG hC  47 rfl u2 f19 dX2_findError_44 ?_
          exact sm_iret hG hT ⟨Nat.zero_le _, Nat.zero_le _⟩ dX2_findError_47 rfl
      · refine sm_iconst (x := (-1 : Int32)) hG 33 rfl dX2_findError_32 rfl ?_
        exact sm_iret hG hT ⟨Nat.zero_le _, Nat.zero_le _⟩ dX2_findError_33 rfl
    · refine sm_aload_n hG 21 rfl dX2_findError_20 rfl 0 rfl ?_
      refine gC32_2 hG hC  24 rfl u2 f19 dX2_findError_21 ?_
      exact sm_iret hG hT ⟨Nat.zero_le _, Nat.zero_le _⟩ dX2_findError_24 rfl
abbrev rmX6_letterError : Room := { frames := 8, cells := 0, slots := 0, locals := 214 }
set_option maxRecDepth 100000 in
set_option maxHeartbeats 4000000 in
theorem c_X6_letterError {Λ : jL kC} (hC : LC Λ)   {l : Launch} {v : mC} {r : (Int32 × mC)} (hr_ : f_X6_letterError v = some r) : Ct l yX6_letterError wsX6_letterError rmX6_letterError Λ [.ref (Λ.2.2.2.1 (0, 0, 0))] v (some (.int r.1)) r.2 := by
  refine ct_of (cc := cX6_letterError) (maxL := 1) (ret := (some .int)) (fun (q : Int32 × mC) => (some (Value.int q.1), q.2)) hC.1 hr_ (by decide) rfl (Nat.le_of_ble_eq_true rfl) (fun Γ hG hT hN hl => ?_)
  subst hl
  have f37 : Cond.fieldLink RX6 37 "ChoirRegister" "letter" "LChoirRegister$Letter;" ∈ wsX6_letterError := by decide +kernel
  have u6 : ∀ w ∈ wsX60, w ∈ wsX6_letterError := by decide +kernel
  show Sm Γ Λ (0, 0) 0 [(0, .ref (Λ.2.2.2.1 (0, 0, 0)))] [] v _
  unfold f_X6_letterError
  refine sm_aload_n hG 1 rfl dX6_letterError_0 rfl 0 rfl ?_
  refine gC0_6 hG hC  4 rfl u6 f37 dX6_letterError_1 ?_
  refine sm_callV hG (fun (q : Int32 × mC) => (some (Value.int q.1), q.2)) (32, 0, 0) [] 7 rfl (oks hC (by decide)) (ce_32 hC _) (ci := 2) rfl (fun r_ hr_ => c_X2_findError hC   hr_) gX6_letterError_X2_findError rfl (by decide) (by decide) (n := 0) rfl (Nat.le_of_ble_eq_true rfl) (by decide) ⟨Nat.zero_le _, Nat.zero_le _⟩ rfl dX6_letterError_4 (fun r_4 => ?_)
  exact sm_iret hG hT ⟨Nat.zero_le _, Nat.zero_le _⟩ dX6_letterError_7 rfl
abbrev rmX6_refusalOf : Room := { frames := 4, cells := 0, slots := 0, locals := 90 }
set_option maxRecDepth 100000 in
set_option maxHeartbeats 4000000 in
theorem c_X6_refusalOf {Λ : jL kC} (hC : LC Λ) {x1 : Int32}  {l : Launch} {v : mC} {r : Int32} (hr_ : f_X6_refusalOf x1 v = some r) : Ct l yX6_refusalOf wsX6_refusalOf rmX6_refusalOf Λ [.ref (Λ.2.2.2.1 (0, 0, 0)), .int x1, .ref (Λ.2.2.2.1 (34, 0, 0))] v (some (.int r)) v := by
  refine ct_of (cc := cX6_refusalOf) (maxL := 3) (ret := (some .int)) (fun (q : Int32) => (some (Value.int q), v)) hC.1 hr_ (by decide) rfl (Nat.le_of_ble_eq_true rfl) (fun Γ hG hT hN hl => ?_)
  subst hl
  have f16 : Cond.fieldLink RX6 16 "ChoirRegister" "trial" "LChoirRegister$Book;" ∈ wsX6_refusalOf := by decide +kernel
  have u6 : ∀ w ∈ wsX60, w ∈ wsX6_refusalOf := by decide +kernel
  show Sm Γ Λ (0, 0) 0 [(0, .ref (Λ.2.2.2.1 (0, 0, 0))), (1, .int x1), (2, .ref (Λ.2.2.2.1 (34, 0, 0)))] [] v _
  unfold f_X6_refusalOf
  refine sm_iload_n hG 1 rfl dX6_refusalOf_0 rfl 1 rfl ?_
  refine sm_tsw hG dX6_refusalOf_1 ⟨rfl, rfl⟩ ?_ (tgt := 160) rfl ?_
  · refine List.forall_mem_cons.mpr ⟨⟨44, rfl, sm_sn ?_⟩, List.forall_mem_cons.mpr ⟨⟨67, rfl, sm_sn ?_⟩, List.forall_mem_cons.mpr ⟨⟨81, rfl, sm_sn ?_⟩, List.forall_mem_cons.mpr ⟨⟨104, rfl, sm_sn ?_⟩, List.forall_mem_cons.mpr ⟨⟨121, rfl, sm_sn ?_⟩, List.forall_mem_cons.mpr ⟨⟨138, rfl, sm_sn ?_⟩, List.forall_mem_cons.mpr ⟨⟨149, rfl, sm_sn ?_⟩, fun _ h => nomatch h⟩⟩⟩⟩⟩⟩⟩
    · refine sm_aload_n hG 45 rfl dX6_refusalOf_44 rfl 0 rfl ?_
      refine gC0_1 hG hC  48 rfl u6 f16 dX6_refusalOf_45 ?_
      refine sm_aload_n hG 49 rfl dX6_refusalOf_48 rfl 2 rfl ?_
      refine sm_iconst (x := (0 : Int32)) hG 50 rfl dX6_refusalOf_49 rfl ?_
      refine lC34 hG hC  51 rfl dX6_refusalOf_50 ?_
      refine sm_aload_n hG 52 rfl dX6_refusalOf_51 rfl 2 rfl ?_
      refine sm_iconst (x := (1 : Int32)) hG 53 rfl dX6_refusalOf_52 rfl ?_
      refine lC34 hG hC  54 rfl dX6_refusalOf_53 ?_
      refine sm_aload_n hG 55 rfl dX6_refusalOf_54 rfl 2 rfl ?_
      refine sm_iconst (x := (2 : Int32)) hG 56 rfl dX6_refusalOf_55 rfl ?_
      refine lC34 hG hC  57 rfl dX6_refusalOf_56 ?_
      refine sm_aload_n hG 58 rfl dX6_refusalOf_57 rfl 2 rfl ?_
      refine sm_iconst (x := (3 : Int32)) hG 59 rfl dX6_refusalOf_58 rfl ?_
      refine lC34 hG hC  60 rfl dX6_refusalOf_59 ?_
      refine sm_aload_n hG 61 rfl dX6_refusalOf_60 rfl 2 rfl ?_
      refine sm_iconst (x := (4 : Int32)) hG 62 rfl dX6_refusalOf_61 rfl ?_
      refine lC34 hG hC  63 rfl dX6_refusalOf_62 ?_
      refine sm_callV hG (fun (q : Int32) => (some (Value.int q), v)) (1, 1, 0) [.int (v (34, 0, 0) (ix (0 : Int32))), .int (v (34, 0, 0) (ix (1 : Int32))), .int (v (34, 0, 0) (ix (2 : Int32))), .int (v (34, 0, 0) (ix (3 : Int32))), .int (v (34, 0, 0) (ix (4 : Int32)))] 66 rfl (okb hC (by decide) (by decide)) (ce_1 hC _) (ci := 0) rfl (fun r_ hr_ => c_X0_refusalToEnrol hC (by decide)  hr_) gX6_refusalOf_X0_refusalToEnrol rfl (by decide) (by decide) (n := 5) rfl (Nat.le_of_ble_eq_true rfl) (by decide) ⟨Nat.zero_le _, Nat.zero_le _⟩ rfl dX6_refusalOf_63 (fun r_63 => ?_)
      exact sm_iret hG hT ⟨Nat.zero_le _, Nat.zero_le _⟩ dX6_refusalOf_66 rfl
    · refine sm_aload_n hG 68 rfl dX6_refusalOf_67 rfl 0 rfl ?_
      refine gC0_1 hG hC  71 rfl u6 f16 dX6_refusalOf_68 ?_
      refine sm_aload_n hG 72 rfl dX6_refusalOf_71 rfl 2 rfl ?_
      refine sm_iconst (x := (0 : Int32)) hG 73 rfl dX6_refusalOf_72 rfl ?_
      refine lC34 hG hC  74 rfl dX6_refusalOf_73 ?_
      refine sm_aload_n hG 75 rfl dX6_refusalOf_74 rfl 2 rfl ?_
      refine sm_iconst (x := (1 : Int32)) hG 76 rfl dX6_refusalOf_75 rfl ?_
      refine lC34 hG hC  77 rfl dX6_refusalOf_76 ?_
      refine sm_callV hG (fun (q : Int32) => (some (Value.int q), v)) (1, 1, 0) [.int (v (34, 0, 0) (ix (0 : Int32))), .int (v (34, 0, 0) (ix (1 : Int32)))] 80 rfl (okb hC (by decide) (by decide)) (ce_1 hC _) (ci := 0) rfl (fun r_ hr_ => c_X0_refusalToAddFeast hC (by decide)  hr_) gX6_refusalOf_X0_refusalToAddFeast rfl (by decide) (by decide) (n := 2) rfl (Nat.le_of_ble_eq_true rfl) (by decide) ⟨Nat.zero_le _, Nat.zero_le _⟩ rfl dX6_refusalOf_77 (fun r_77 => ?_)
      exact sm_iret hG hT ⟨Nat.zero_le _, Nat.zero_le _⟩ dX6_refusalOf_80 rfl
    · refine sm_aload_n hG 82 rfl dX6_refusalOf_81 rfl 0 rfl ?_
      refine gC0_1 hG hC  85 rfl u6 f16 dX6_refusalOf_82 ?_
      refine sm_aload_n hG 86 rfl dX6_refusalOf_85 rfl 2 rfl ?_
      refine sm_iconst (x := (0 : Int32)) hG 87 rfl dX6_refusalOf_86 rfl ?_
      refine lC34 hG hC  88 rfl dX6_refusalOf_87 ?_
      refine sm_aload_n hG 89 rfl dX6_refusalOf_88 rfl 2 rfl ?_
      refine sm_iconst (x := (1 : Int32)) hG 90 rfl dX6_refusalOf_89 rfl ?_
      refine lC34 hG hC  91 rfl dX6_refusalOf_90 ?_
      refine sm_aload_n hG 92 rfl dX6_refusalOf_91 rfl 2 rfl ?_
      refine sm_iconst (x := (2 : Int32)) hG 93 rfl dX6_refusalOf_92 rfl ?_
      refine lC34 hG hC  94 rfl dX6_refusalOf_93 ?_
      refine sm_aload_n hG 95 rfl dX6_refusalOf_94 rfl 2 rfl ?_
      refine sm_iconst (x := (3 : Int32)) hG 96 rfl dX6_refusalOf_95 rfl ?_
      refine lC34 hG hC  97 rfl dX6_refusalOf_96 ?_
      refine sm_aload_n hG 98 rfl dX6_refusalOf_97 rfl 2 rfl ?_
      refine sm_iconst (x := (4 : Int32)) hG 99 rfl dX6_refusalOf_98 rfl ?_
      refine lC34 hG hC  100 rfl dX6_refusalOf_99 ?_
      refine sm_callV hG (fun (q : Int32) => (some (Value.int q), v)) (1, 1, 0) [.int (v (34, 0, 0) (ix (0 : Int32))), .int (v (34, 0, 0) (ix (1 : Int32))), .int (v (34, 0, 0) (ix (2 : Int32))), .int (v (34, 0, 0) (ix (3 : Int32))), .int (v (34, 0, 0) (ix (4 : Int32)))] 103 rfl (okb hC (by decide) (by decide)) (ce_1 hC _) (ci := 0) rfl (fun r_ hr_ => c_X0_refusalToArrange hC (by decide)  hr_) gX6_refusalOf_X0_refusalToArrange rfl (by decide) (by decide) (n := 5) rfl (Nat.le_of_ble_eq_true rfl) (by decide) ⟨Nat.zero_le _, Nat.zero_le _⟩ rfl dX6_refusalOf_100 (fun r_100 => ?_)
      exact sm_iret hG hT ⟨Nat.zero_le _, Nat.zero_le _⟩ dX6_refusalOf_103 rfl
    · refine sm_aload_n hG 105 rfl dX6_refusalOf_104 rfl 0 rfl ?_
      refine gC0_1 hG hC  108 rfl u6 f16 dX6_refusalOf_105 ?_
      refine sm_aload_n hG 109 rfl dX6_refusalOf_108 rfl 2 rfl ?_
      refine sm_iconst (x := (0 : Int32)) hG 110 rfl dX6_refusalOf_109 rfl ?_
      refine lC34 hG hC  111 rfl dX6_refusalOf_110 ?_
      refine sm_aload_n hG 112 rfl dX6_refusalOf_111 rfl 2 rfl ?_
      refine sm_iconst (x := (1 : Int32)) hG 113 rfl dX6_refusalOf_112 rfl ?_
      refine lC34 hG hC  114 rfl dX6_refusalOf_113 ?_
      refine sm_aload_n hG 115 rfl dX6_refusalOf_114 rfl 2 rfl ?_
      refine sm_iconst (x := (2 : Int32)) hG 116 rfl dX6_refusalOf_115 rfl ?_
      refine lC34 hG hC  117 rfl dX6_refusalOf_116 ?_
      refine sm_callV hG (fun (q : Int32) => (some (Value.int q), v)) (1, 1, 0) [.int (v (34, 0, 0) (ix (0 : Int32))), .int (v (34, 0, 0) (ix (1 : Int32))), .int (v (34, 0, 0) (ix (2 : Int32)))] 120 rfl (okb hC (by decide) (by decide)) (ce_1 hC _) (ci := 0) rfl (fun r_ hr_ => c_X0_refusalToTakeNote hC (by decide)  hr_) gX6_refusalOf_X0_refusalToTakeNote rfl (by decide) (by decide) (n := 3) rfl (Nat.le_of_ble_eq_true rfl) (by decide) ⟨Nat.zero_le _, Nat.zero_le _⟩ rfl dX6_refusalOf_117 (fun r_117 => ?_)
      exact sm_iret hG hT ⟨Nat.zero_le _, Nat.zero_le _⟩ dX6_refusalOf_120 rfl
    · refine sm_aload_n hG 122 rfl dX6_refusalOf_121 rfl 0 rfl ?_
      refine gC0_1 hG hC  125 rfl u6 f16 dX6_refusalOf_122 ?_
      refine sm_aload_n hG 126 rfl dX6_refusalOf_125 rfl 2 rfl ?_
      refine sm_iconst (x := (0 : Int32)) hG 127 rfl dX6_refusalOf_126 rfl ?_
      refine lC34 hG hC  128 rfl dX6_refusalOf_127 ?_
      refine sm_aload_n hG 129 rfl dX6_refusalOf_128 rfl 2 rfl ?_
      refine sm_iconst (x := (1 : Int32)) hG 130 rfl dX6_refusalOf_129 rfl ?_
      refine lC34 hG hC  131 rfl dX6_refusalOf_130 ?_
      refine sm_aload_n hG 132 rfl dX6_refusalOf_131 rfl 2 rfl ?_
      refine sm_iconst (x := (2 : Int32)) hG 133 rfl dX6_refusalOf_132 rfl ?_
      refine lC34 hG hC  134 rfl dX6_refusalOf_133 ?_
      refine sm_callV hG (fun (q : Int32) => (some (Value.int q), v)) (1, 1, 0) [.int (v (34, 0, 0) (ix (0 : Int32))), .int (v (34, 0, 0) (ix (1 : Int32))), .int (v (34, 0, 0) (ix (2 : Int32)))] 137 rfl (okb hC (by decide) (by decide)) (ce_1 hC _) (ci := 0) rfl (fun r_ hr_ => c_X0_refusalToSendAway hC (by decide)  hr_) gX6_refusalOf_X0_refusalToSendAway rfl (by decide) (by decide) (n := 3) rfl (Nat.le_of_ble_eq_true rfl) (by decide) ⟨Nat.zero_le _, Nat.zero_le _⟩ rfl dX6_refusalOf_134 (fun r_134 => ?_)
      exact sm_iret hG hT ⟨Nat.zero_le _, Nat.zero_le _⟩ dX6_refusalOf_137 rfl
    · refine sm_aload_n hG 139 rfl dX6_refusalOf_138 rfl 0 rfl ?_
      refine gC0_1 hG hC  142 rfl u6 f16 dX6_refusalOf_139 ?_
      refine sm_aload_n hG 143 rfl dX6_refusalOf_142 rfl 2 rfl ?_
      refine sm_iconst (x := (0 : Int32)) hG 144 rfl dX6_refusalOf_143 rfl ?_
      refine lC34 hG hC  145 rfl dX6_refusalOf_144 ?_
      refine sm_callV hG (fun (q : Int32) => (some (Value.int q), v)) (1, 1, 0) [.int (v (34, 0, 0) (ix (0 : Int32)))] 148 rfl (okb hC (by decide) (by decide)) (ce_1 hC _) (ci := 0) rfl (fun r_ hr_ => c_X0_refusalToDismiss hC (by decide)  hr_) gX6_refusalOf_X0_refusalToDismiss rfl (by decide) (by decide) (n := 1) rfl (Nat.le_of_ble_eq_true rfl) (by decide) ⟨Nat.zero_le _, Nat.zero_le _⟩ rfl dX6_refusalOf_145 (fun r_145 => ?_)
      exact sm_iret hG hT ⟨Nat.zero_le _, Nat.zero_le _⟩ dX6_refusalOf_148 rfl
    · refine sm_aload_n hG 150 rfl dX6_refusalOf_149 rfl 0 rfl ?_
      refine gC0_1 hG hC  153 rfl u6 f16 dX6_refusalOf_150 ?_
      refine sm_aload_n hG 154 rfl dX6_refusalOf_153 rfl 2 rfl ?_
      refine sm_iconst (x := (0 : Int32)) hG 155 rfl dX6_refusalOf_154 rfl ?_
      refine lC34 hG hC  156 rfl dX6_refusalOf_155 ?_
      refine sm_callV hG (fun (q : Int32) => (some (Value.int q), v)) (1, 1, 0) [.int (v (34, 0, 0) (ix (0 : Int32)))] 159 rfl (okb hC (by decide) (by decide)) (ce_1 hC _) (ci := 0) rfl (fun r_ hr_ => c_X0_refusalToAdvance hC (by decide)  hr_) gX6_refusalOf_X0_refusalToAdvance rfl (by decide) (by decide) (n := 1) rfl (Nat.le_of_ble_eq_true rfl) (by decide) ⟨Nat.zero_le _, Nat.zero_le _⟩ rfl dX6_refusalOf_156 (fun r_156 => ?_)
      exact sm_iret hG hT ⟨Nat.zero_le _, Nat.zero_le _⟩ dX6_refusalOf_159 rfl
  · refine sm_iconst (x := (3 : Int32)) hG 161 rfl dX6_refusalOf_160 rfl ?_
    exact sm_iret hG hT ⟨Nat.zero_le _, Nat.zero_le _⟩ dX6_refusalOf_161 rfl
abbrev rmX6_obey : Room := { frames := 5, cells := 0, slots := 0, locals := 123 }
set_option maxRecDepth 100000 in
set_option maxHeartbeats 4000000 in
theorem c_X6_obey {Λ : jL kC} (hC : LC Λ) {x1 : Int32}  {l : Launch} {v : mC} {r : mC} (hr_ : f_X6_obey x1 v = some r) : Ct l yX6_obey wsX6_obey rmX6_obey Λ [.ref (Λ.2.2.2.1 (0, 0, 0)), .int x1, .ref (Λ.2.2.2.1 (34, 0, 0))] v none r := by
  refine ct_of (cc := cX6_obey) (maxL := 3) (ret := none) (fun (w : mC) => ((none : Option Value), w)) hC.1 hr_ (by decide) rfl (Nat.le_of_ble_eq_true rfl) (fun Γ hG hT hN hl => ?_)
  subst hl
  have f16 : Cond.fieldLink RX6 16 "ChoirRegister" "trial" "LChoirRegister$Book;" ∈ wsX6_obey := by decide +kernel
  have f44 : Cond.fieldLink RX6 44 "ChoirRegister" "lineup" "LChoirRegister$Lineup;" ∈ wsX6_obey := by decide +kernel
  have u6 : ∀ w ∈ wsX60, w ∈ wsX6_obey := by decide +kernel
  show Sm Γ Λ (0, 0) 0 [(0, .ref (Λ.2.2.2.1 (0, 0, 0))), (1, .int x1), (2, .ref (Λ.2.2.2.1 (34, 0, 0)))] [] v _
  unfold f_X6_obey
  refine sm_iload_n hG 1 rfl dX6_obey_0 rfl 1 rfl ?_
  refine sm_tsw hG dX6_obey_1 ⟨rfl, rfl⟩ ?_ (tgt := 185) rfl ?_
  · refine List.forall_mem_cons.mpr ⟨⟨44, rfl, sm_sn ?_⟩, List.forall_mem_cons.mpr ⟨⟨70, rfl, sm_sn ?_⟩, List.forall_mem_cons.mpr ⟨⟨87, rfl, sm_sn ?_⟩, List.forall_mem_cons.mpr ⟨⟨113, rfl, sm_sn ?_⟩, List.forall_mem_cons.mpr ⟨⟨133, rfl, sm_sn ?_⟩, List.forall_mem_cons.mpr ⟨⟨153, rfl, sm_sn ?_⟩, List.forall_mem_cons.mpr ⟨⟨167, rfl, sm_sn ?_⟩, fun _ h => nomatch h⟩⟩⟩⟩⟩⟩⟩
    · refine sm_aload_n hG 45 rfl dX6_obey_44 rfl 0 rfl ?_
      refine gC0_1 hG hC  48 rfl u6 f16 dX6_obey_45 ?_
      refine sm_aload_n hG 49 rfl dX6_obey_48 rfl 2 rfl ?_
      refine sm_iconst (x := (0 : Int32)) hG 50 rfl dX6_obey_49 rfl ?_
      refine lC34 hG hC  51 rfl dX6_obey_50 ?_
      refine sm_aload_n hG 52 rfl dX6_obey_51 rfl 2 rfl ?_
      refine sm_iconst (x := (1 : Int32)) hG 53 rfl dX6_obey_52 rfl ?_
      refine lC34 hG hC  54 rfl dX6_obey_53 ?_
      refine sm_aload_n hG 55 rfl dX6_obey_54 rfl 2 rfl ?_
      refine sm_iconst (x := (2 : Int32)) hG 56 rfl dX6_obey_55 rfl ?_
      refine lC34 hG hC  57 rfl dX6_obey_56 ?_
      refine sm_aload_n hG 58 rfl dX6_obey_57 rfl 2 rfl ?_
      refine sm_iconst (x := (3 : Int32)) hG 59 rfl dX6_obey_58 rfl ?_
      refine lC34 hG hC  60 rfl dX6_obey_59 ?_
      refine sm_aload_n hG 61 rfl dX6_obey_60 rfl 2 rfl ?_
      refine sm_iconst (x := (4 : Int32)) hG 62 rfl dX6_obey_61 rfl ?_
      refine lC34 hG hC  63 rfl dX6_obey_62 ?_
      refine sm_callV hG (fun (q : Int32 × mC) => (some (Value.int q.1), q.2)) (1, 1, 0) [.int (v (34, 0, 0) (ix (0 : Int32))), .int (v (34, 0, 0) (ix (1 : Int32))), .int (v (34, 0, 0) (ix (2 : Int32))), .int (v (34, 0, 0) (ix (3 : Int32))), .int (v (34, 0, 0) (ix (4 : Int32)))] 66 rfl (okb hC (by decide) (by decide)) (ce_1 hC _) (ci := 0) rfl (fun r_ hr_ => c_X0_enrol hC (by decide)  hr_) gX6_obey_X0_enrol rfl (by decide) (by decide) (n := 5) rfl (Nat.le_of_ble_eq_true rfl) (by decide) ⟨Nat.zero_le _, Nat.zero_le _⟩ rfl dX6_obey_63 (fun r_63 => ?_)
      refine sm_pop hG 67 rfl dX6_obey_66 rfl ?_
      refine sm_goto hG 185 dX6_obey_67 (by decide) ?_
      exact sm_vret hG hT ⟨Nat.zero_le _, Nat.zero_le _⟩ dX6_obey_185 rfl
    · refine sm_aload_n hG 71 rfl dX6_obey_70 rfl 0 rfl ?_
      refine gC0_1 hG hC  74 rfl u6 f16 dX6_obey_71 ?_
      refine sm_aload_n hG 75 rfl dX6_obey_74 rfl 2 rfl ?_
      refine sm_iconst (x := (0 : Int32)) hG 76 rfl dX6_obey_75 rfl ?_
      refine lC34 hG hC  77 rfl dX6_obey_76 ?_
      refine sm_aload_n hG 78 rfl dX6_obey_77 rfl 2 rfl ?_
      refine sm_iconst (x := (1 : Int32)) hG 79 rfl dX6_obey_78 rfl ?_
      refine lC34 hG hC  80 rfl dX6_obey_79 ?_
      refine sm_callV hG (fun (q : Int32 × mC) => (some (Value.int q.1), q.2)) (1, 1, 0) [.int (v (34, 0, 0) (ix (0 : Int32))), .int (v (34, 0, 0) (ix (1 : Int32)))] 83 rfl (okb hC (by decide) (by decide)) (ce_1 hC _) (ci := 0) rfl (fun r_ hr_ => c_X0_addFeast hC (by decide)  hr_) gX6_obey_X0_addFeast rfl (by decide) (by decide) (n := 2) rfl (Nat.le_of_ble_eq_true rfl) (by decide) ⟨Nat.zero_le _, Nat.zero_le _⟩ rfl dX6_obey_80 (fun r_80 => ?_)
      refine sm_pop hG 84 rfl dX6_obey_83 rfl ?_
      refine sm_goto hG 185 dX6_obey_84 (by decide) ?_
      exact sm_vret hG hT ⟨Nat.zero_le _, Nat.zero_le _⟩ dX6_obey_185 rfl
    · refine sm_aload_n hG 88 rfl dX6_obey_87 rfl 0 rfl ?_
      refine gC0_1 hG hC  91 rfl u6 f16 dX6_obey_88 ?_
      refine sm_aload_n hG 92 rfl dX6_obey_91 rfl 2 rfl ?_
      refine sm_iconst (x := (0 : Int32)) hG 93 rfl dX6_obey_92 rfl ?_
      refine lC34 hG hC  94 rfl dX6_obey_93 ?_
      refine sm_aload_n hG 95 rfl dX6_obey_94 rfl 2 rfl ?_
      refine sm_iconst (x := (1 : Int32)) hG 96 rfl dX6_obey_95 rfl ?_
      refine lC34 hG hC  97 rfl dX6_obey_96 ?_
      refine sm_aload_n hG 98 rfl dX6_obey_97 rfl 2 rfl ?_
      refine sm_iconst (x := (2 : Int32)) hG 99 rfl dX6_obey_98 rfl ?_
      refine lC34 hG hC  100 rfl dX6_obey_99 ?_
      refine sm_aload_n hG 101 rfl dX6_obey_100 rfl 2 rfl ?_
      refine sm_iconst (x := (3 : Int32)) hG 102 rfl dX6_obey_101 rfl ?_
      refine lC34 hG hC  103 rfl dX6_obey_102 ?_
      refine sm_aload_n hG 104 rfl dX6_obey_103 rfl 2 rfl ?_
      refine sm_iconst (x := (4 : Int32)) hG 105 rfl dX6_obey_104 rfl ?_
      refine lC34 hG hC  106 rfl dX6_obey_105 ?_
      refine sm_callV hG (fun (q : Int32 × mC) => (some (Value.int q.1), q.2)) (1, 1, 0) [.int (v (34, 0, 0) (ix (0 : Int32))), .int (v (34, 0, 0) (ix (1 : Int32))), .int (v (34, 0, 0) (ix (2 : Int32))), .int (v (34, 0, 0) (ix (3 : Int32))), .int (v (34, 0, 0) (ix (4 : Int32)))] 109 rfl (okb hC (by decide) (by decide)) (ce_1 hC _) (ci := 0) rfl (fun r_ hr_ => c_X0_arrange hC (by decide)  hr_) gX6_obey_X0_arrange rfl (by decide) (by decide) (n := 5) rfl (Nat.le_of_ble_eq_true rfl) (by decide) ⟨Nat.zero_le _, Nat.zero_le _⟩ rfl dX6_obey_106 (fun r_106 => ?_)
      refine sm_pop hG 110 rfl dX6_obey_109 rfl ?_
      refine sm_goto hG 185 dX6_obey_110 (by decide) ?_
      exact sm_vret hG hT ⟨Nat.zero_le _, Nat.zero_le _⟩ dX6_obey_185 rfl
    · refine sm_aload_n hG 114 rfl dX6_obey_113 rfl 0 rfl ?_
      refine gC0_1 hG hC  117 rfl u6 f16 dX6_obey_114 ?_
      refine sm_aload_n hG 118 rfl dX6_obey_117 rfl 2 rfl ?_
      refine sm_iconst (x := (0 : Int32)) hG 119 rfl dX6_obey_118 rfl ?_
      refine lC34 hG hC  120 rfl dX6_obey_119 ?_
      refine sm_aload_n hG 121 rfl dX6_obey_120 rfl 2 rfl ?_
      refine sm_iconst (x := (1 : Int32)) hG 122 rfl dX6_obey_121 rfl ?_
      refine lC34 hG hC  123 rfl dX6_obey_122 ?_
      refine sm_aload_n hG 124 rfl dX6_obey_123 rfl 2 rfl ?_
      refine sm_iconst (x := (2 : Int32)) hG 125 rfl dX6_obey_124 rfl ?_
      refine lC34 hG hC  126 rfl dX6_obey_125 ?_
      refine sm_callV hG (fun (q : Int32 × mC) => (some (Value.int q.1), q.2)) (1, 1, 0) [.int (v (34, 0, 0) (ix (0 : Int32))), .int (v (34, 0, 0) (ix (1 : Int32))), .int (v (34, 0, 0) (ix (2 : Int32)))] 129 rfl (okb hC (by decide) (by decide)) (ce_1 hC _) (ci := 0) rfl (fun r_ hr_ => c_X0_takeNote hC (by decide)  hr_) gX6_obey_X0_takeNote rfl (by decide) (by decide) (n := 3) rfl (Nat.le_of_ble_eq_true rfl) (by decide) ⟨Nat.zero_le _, Nat.zero_le _⟩ rfl dX6_obey_126 (fun r_126 => ?_)
      refine sm_pop hG 130 rfl dX6_obey_129 rfl ?_
      refine sm_goto hG 185 dX6_obey_130 (by decide) ?_
      exact sm_vret hG hT ⟨Nat.zero_le _, Nat.zero_le _⟩ dX6_obey_185 rfl
    · refine sm_aload_n hG 134 rfl dX6_obey_133 rfl 0 rfl ?_
      refine gC0_1 hG hC  137 rfl u6 f16 dX6_obey_134 ?_
      refine sm_aload_n hG 138 rfl dX6_obey_137 rfl 2 rfl ?_
      refine sm_iconst (x := (0 : Int32)) hG 139 rfl dX6_obey_138 rfl ?_
      refine lC34 hG hC  140 rfl dX6_obey_139 ?_
      refine sm_aload_n hG 141 rfl dX6_obey_140 rfl 2 rfl ?_
      refine sm_iconst (x := (1 : Int32)) hG 142 rfl dX6_obey_141 rfl ?_
      refine lC34 hG hC  143 rfl dX6_obey_142 ?_
      refine sm_aload_n hG 144 rfl dX6_obey_143 rfl 2 rfl ?_
      refine sm_iconst (x := (2 : Int32)) hG 145 rfl dX6_obey_144 rfl ?_
      refine lC34 hG hC  146 rfl dX6_obey_145 ?_
      refine sm_callV hG (fun (q : Int32 × mC) => (some (Value.int q.1), q.2)) (1, 1, 0) [.int (v (34, 0, 0) (ix (0 : Int32))), .int (v (34, 0, 0) (ix (1 : Int32))), .int (v (34, 0, 0) (ix (2 : Int32)))] 149 rfl (okb hC (by decide) (by decide)) (ce_1 hC _) (ci := 0) rfl (fun r_ hr_ => c_X0_sendAway hC (by decide)  hr_) gX6_obey_X0_sendAway rfl (by decide) (by decide) (n := 3) rfl (Nat.le_of_ble_eq_true rfl) (by decide) ⟨Nat.zero_le _, Nat.zero_le _⟩ rfl dX6_obey_146 (fun r_146 => ?_)
      refine sm_pop hG 150 rfl dX6_obey_149 rfl ?_
      refine sm_goto hG 185 dX6_obey_150 (by decide) ?_
      exact sm_vret hG hT ⟨Nat.zero_le _, Nat.zero_le _⟩ dX6_obey_185 rfl
    · refine sm_aload_n hG 154 rfl dX6_obey_153 rfl 0 rfl ?_
      refine gC0_1 hG hC  157 rfl u6 f16 dX6_obey_154 ?_
      refine sm_aload_n hG 158 rfl dX6_obey_157 rfl 2 rfl ?_
      refine sm_iconst (x := (0 : Int32)) hG 159 rfl dX6_obey_158 rfl ?_
      refine lC34 hG hC  160 rfl dX6_obey_159 ?_
      refine sm_callV hG (fun (q : Int32 × mC) => (some (Value.int q.1), q.2)) (1, 1, 0) [.int (v (34, 0, 0) (ix (0 : Int32)))] 163 rfl (okb hC (by decide) (by decide)) (ce_1 hC _) (ci := 0) rfl (fun r_ hr_ => c_X0_dismiss hC (by decide)  hr_) gX6_obey_X0_dismiss rfl (by decide) (by decide) (n := 1) rfl (Nat.le_of_ble_eq_true rfl) (by decide) ⟨Nat.zero_le _, Nat.zero_le _⟩ rfl dX6_obey_160 (fun r_160 => ?_)
      refine sm_pop hG 164 rfl dX6_obey_163 rfl ?_
      refine sm_goto hG 185 dX6_obey_164 (by decide) ?_
      exact sm_vret hG hT ⟨Nat.zero_le _, Nat.zero_le _⟩ dX6_obey_185 rfl
    · refine sm_aload_n hG 168 rfl dX6_obey_167 rfl 0 rfl ?_
      refine gC0_1 hG hC  171 rfl u6 f16 dX6_obey_168 ?_
      refine sm_aload_n hG 172 rfl dX6_obey_171 rfl 2 rfl ?_
      refine sm_iconst (x := (0 : Int32)) hG 173 rfl dX6_obey_172 rfl ?_
      refine lC34 hG hC  174 rfl dX6_obey_173 ?_
      refine sm_aload_n hG 175 rfl dX6_obey_174 rfl 0 rfl ?_
      refine gC0_7 hG hC  178 rfl u6 f44 dX6_obey_175 ?_
      refine sm_callV hG (fun (q : Int32 × mC) => (some (Value.int q.1), q.2)) (1, 1, 0) [.int (v (34, 0, 0) (ix (0 : Int32))), .ref (Λ.2.2.2.1 (35, 0, 0))] 181 rfl (okb hC (by decide) (by decide)) (ce_1 hC _) (ci := 0) rfl (fun r_ hr_ => c_X0_advance hC (by decide)  hr_) gX6_obey_X0_advance rfl (by decide) (by decide) (n := 2) rfl (Nat.le_of_ble_eq_true rfl) (by decide) ⟨Nat.zero_le _, Nat.zero_le _⟩ rfl dX6_obey_178 (fun r_178 => ?_)
      refine sm_pop hG 182 rfl dX6_obey_181 rfl ?_
      refine sm_goto hG 185 dX6_obey_182 (by decide) ?_
      exact sm_vret hG hT ⟨Nat.zero_le _, Nat.zero_le _⟩ dX6_obey_185 rfl
  · exact sm_vret hG hT ⟨Nat.zero_le _, Nat.zero_le _⟩ dX6_obey_185 rfl
abbrev rmX6_tryOrders : Room := { frames := 7, cells := 0, slots := 0, locals := 193 }
set_option maxRecDepth 100000 in
set_option maxHeartbeats 4000000 in
theorem c_X6_tryOrders {Λ : jL kC} (hC : LC Λ)   {l : Launch} {v : mC} {r : (Int32 × mC)} (hr_ : f_X6_tryOrders v = some r) : Ct l yX6_tryOrders wsX6_tryOrders rmX6_tryOrders Λ [.ref (Λ.2.2.2.1 (0, 0, 0))] v (some (.int r.1)) r.2 := by
  refine ct_of (cc := cX6_tryOrders) (maxL := 2) (ret := (some .int)) (fun (q : Int32 × mC) => (some (Value.int q.1), q.2)) hC.1 hr_ (by decide) rfl (Nat.le_of_ble_eq_true rfl) (fun Γ hG hT hN hl => ?_)
  subst hl
  have f10 : Cond.fieldLink RX6 10 "ChoirRegister" "book" "LChoirRegister$Book;" ∈ wsX6_tryOrders := by decide +kernel
  have f16 : Cond.fieldLink RX6 16 "ChoirRegister" "trial" "LChoirRegister$Book;" ∈ wsX6_tryOrders := by decide +kernel
  have f320 : Cond.fieldLink RX6 320 "ChoirRegister$Letter" "kind" "I" ∈ wsX6_tryOrders := by decide +kernel
  have f323 : Cond.fieldLink RX6 323 "ChoirRegister$Letter" "numbers" "[I" ∈ wsX6_tryOrders := by decide +kernel
  have f334 : Cond.fieldLink RX6 334 "ChoirRegister$Letter" "at" "I" ∈ wsX6_tryOrders := by decide +kernel
  have f37 : Cond.fieldLink RX6 37 "ChoirRegister" "letter" "LChoirRegister$Letter;" ∈ wsX6_tryOrders := by decide +kernel
  have u2 : ∀ w ∈ wsX20, w ∈ wsX6_tryOrders := by decide +kernel
  have u6 : ∀ w ∈ wsX60, w ∈ wsX6_tryOrders := by decide +kernel
  show Sm Γ Λ (0, 0) 0 [(0, .ref (Λ.2.2.2.1 (0, 0, 0)))] [] v _
  unfold f_X6_tryOrders
  refine sm_aload_n hG 1 rfl dX6_tryOrders_0 rfl 0 rfl ?_
  refine gC0_1 hG hC  4 rfl u6 f16 dX6_tryOrders_1 ?_
  refine sm_aload_n hG 5 rfl dX6_tryOrders_4 rfl 0 rfl ?_
  refine gC0_0 hG hC  8 rfl u6 f10 dX6_tryOrders_5 ?_
  refine sm_callV hG (fun (w : mC) => ((none : Option Value), w)) (1, 1, 0) [.ref (Λ.2.2.2.1 (1, 0, 0))] 11 rfl (okb hC (by decide) (by decide)) (ce_1 hC _) (ci := 0) rfl (fun r_ hr_ => c_X0_copyFrom hC (by decide) (by decide)  hr_) gX6_tryOrders_X0_copyFrom rfl (by decide) (by decide) (n := 1) rfl (Nat.le_of_ble_eq_true rfl) (by decide) ⟨Nat.zero_le _, Nat.zero_le _⟩ rfl dX6_tryOrders_8 (fun r_8 => ?_)
  refine sm_aload_n hG 12 rfl dX6_tryOrders_11 rfl 0 rfl ?_
  refine gC0_6 hG hC  15 rfl u6 f37 dX6_tryOrders_12 ?_
  refine sm_iconst (x := (0 : Int32)) hG 16 rfl dX6_tryOrders_15 rfl ?_
  refine sm_callV hG (fun (w : mC) => ((none : Option Value), w)) (32, 0, 0) [.int (0 : Int32)] 19 rfl (oks hC (by decide)) (ce_32 hC _) (ci := 2) rfl (fun r_ hr_ => c_X2_goTo hC   hr_) gX6_tryOrders_X2_goTo rfl (by decide) (by decide) (n := 1) rfl (Nat.le_of_ble_eq_true rfl) (by decide) ⟨Nat.zero_le _, Nat.zero_le _⟩ rfl dX6_tryOrders_16 (fun r_16 => ?_)
  refine sm_iconst (x := (0 : Int32)) hG 20 rfl dX6_tryOrders_19 rfl ?_
  refine sm_istore_n hG 21 rfl dX6_tryOrders_20 rfl (jlt hN rfl) [(1, .int (0 : Int32)), (0, .ref (Λ.2.2.2.1 (0, 0, 0)))] rfl ?_
  refine sm_loc [1, 0] [(0, .ref (Λ.2.2.2.1 (0, 0, 0))), (1, .int (0 : Int32))] rfl ?_
  refine lp_ind (fun (X21 : Int32 → mC → Option (Int32 × mC)) => ∀ (x1_21 : Int32) (v_21 : mC), Sm Γ Λ (0, 0) 21 [(0, .ref (Λ.2.2.2.1 (0, 0, 0))), (1, .int x1_21)] [] v_21 (X21 x1_21 v_21)) (fun _ _ => sm_none) (fun self21 hs21 x1_21 v_21 => ?_) 8192 _ _
  refine sm_iload_n hG 22 rfl dX6_tryOrders_21 rfl 1 rfl ?_
  refine sm_bipush (x := (80 : Int32)) hG 24 rfl dX6_tryOrders_22 rfl ?_
  refine sm_icmp_ge hG 110 27 rfl dX6_tryOrders_24 (by decide) ?_ ?_
  · refine sm_iconst (x := (-1 : Int32)) hG 111 rfl dX6_tryOrders_110 rfl ?_
    exact sm_iret hG hT ⟨Nat.zero_le _, Nat.zero_le _⟩ dX6_tryOrders_111 rfl
  · refine sm_aload_n hG 28 rfl dX6_tryOrders_27 rfl 0 rfl ?_
    refine gC0_6 hG hC  31 rfl u6 f37 dX6_tryOrders_28 ?_
    refine sm_callV hG (fun (q : Int32) => (some (Value.int q), v_21)) (32, 0, 0) [] 34 rfl (oks hC (by decide)) (ce_32 hC _) (ci := 2) rfl (fun r_ hr_ => c_X2_isAtEnd hC   hr_) gX6_tryOrders_X2_isAtEnd rfl (by decide) (by decide) (n := 0) rfl (Nat.le_of_ble_eq_true rfl) (by decide) ⟨Nat.zero_le _, Nat.zero_le _⟩ rfl dX6_tryOrders_31 (fun r_31 => ?_)
    refine sm_if_ne hG 110 37 rfl dX6_tryOrders_34 (by decide) ?_ ?_
    · refine sm_iconst (x := (-1 : Int32)) hG 111 rfl dX6_tryOrders_110 rfl ?_
      exact sm_iret hG hT ⟨Nat.zero_le _, Nat.zero_le _⟩ dX6_tryOrders_111 rfl
    · refine sm_aload_n hG 38 rfl dX6_tryOrders_37 rfl 0 rfl ?_
      refine gC0_6 hG hC  41 rfl u6 f37 dX6_tryOrders_38 ?_
      refine sm_callV hG (fun (q : Int32 × mC) => (some (Value.int q.1), q.2)) (32, 0, 0) [] 44 rfl (oks hC (by decide)) (ce_32 hC _) (ci := 2) rfl (fun r_ hr_ => c_X2_readOrder hC   hr_) gX6_tryOrders_X2_readOrder rfl (by decide) (by decide) (n := 0) rfl (Nat.le_of_ble_eq_true rfl) (by decide) ⟨Nat.zero_le _, Nat.zero_le _⟩ rfl dX6_tryOrders_41 (fun r_41 => ?_)
      refine sm_if_eq hG 68 47 rfl dX6_tryOrders_44 (by decide) ?_ ?_
      · refine sm_iload_n hG 69 rfl dX6_tryOrders_68 rfl 1 rfl ?_
        exact sm_iret hG hT ⟨Nat.zero_le _, Nat.zero_le _⟩ dX6_tryOrders_69 rfl
      · refine sm_aload_n hG 48 rfl dX6_tryOrders_47 rfl 0 rfl ?_
        refine sm_aload_n hG 49 rfl dX6_tryOrders_48 rfl 0 rfl ?_
        refine gC0_6 hG hC  52 rfl u6 f37 dX6_tryOrders_49 ?_
        refine gC32_3 hG hC  55 rfl u2 f320 dX6_tryOrders_52 ?_
        refine sm_aload_n hG 56 rfl dX6_tryOrders_55 rfl 0 rfl ?_
        refine gC0_6 hG hC  59 rfl u6 f37 dX6_tryOrders_56 ?_
        refine gC32_4 hG hC  62 rfl u2 f323 dX6_tryOrders_59 ?_
        refine sm_callV hG (fun (q : Int32) => (some (Value.int q), r_41.2)) (0, 0, 0) [.int (r_41.2 (32, 0, 0) 3), .ref (Λ.2.2.2.1 (34, 0, 0))] 65 rfl (ok0 hC) (ce_0 hC _) (ci := 6) rfl (fun r_ hr_ => c_X6_refusalOf hC   hr_) gX6_tryOrders_X6_refusalOf rfl (by decide) (by decide) (n := 2) rfl (Nat.le_of_ble_eq_true rfl) (by decide) ⟨Nat.zero_le _, Nat.zero_le _⟩ rfl dX6_tryOrders_62 (fun r_62 => ?_)
        refine sm_if_eq hG 70 68 rfl dX6_tryOrders_65 (by decide) ?_ ?_
        · refine sm_aload_n hG 71 rfl dX6_tryOrders_70 rfl 0 rfl ?_
          refine sm_aload_n hG 72 rfl dX6_tryOrders_71 rfl 0 rfl ?_
          refine gC0_6 hG hC  75 rfl u6 f37 dX6_tryOrders_72 ?_
          refine gC32_3 hG hC  78 rfl u2 f320 dX6_tryOrders_75 ?_
          refine sm_aload_n hG 79 rfl dX6_tryOrders_78 rfl 0 rfl ?_
          refine gC0_6 hG hC  82 rfl u6 f37 dX6_tryOrders_79 ?_
          refine gC32_4 hG hC  85 rfl u2 f323 dX6_tryOrders_82 ?_
          refine sm_callV hG (fun (w : mC) => ((none : Option Value), w)) (0, 0, 0) [.int (r_41.2 (32, 0, 0) 3), .ref (Λ.2.2.2.1 (34, 0, 0))] 88 rfl (ok0 hC) (ce_0 hC _) (ci := 6) rfl (fun r_ hr_ => c_X6_obey hC   hr_) gX6_tryOrders_X6_obey rfl (by decide) (by decide) (n := 2) rfl (Nat.le_of_ble_eq_true rfl) (by decide) ⟨Nat.zero_le _, Nat.zero_le _⟩ rfl dX6_tryOrders_85 (fun r_85 => ?_)
          refine sm_aload_n hG 89 rfl dX6_tryOrders_88 rfl 0 rfl ?_
          refine gC0_6 hG hC  92 rfl u6 f37 dX6_tryOrders_89 ?_
          refine sm_aload_n hG 93 rfl dX6_tryOrders_92 rfl 0 rfl ?_
          refine gC0_6 hG hC  96 rfl u6 f37 dX6_tryOrders_93 ?_
          refine gC32_2 hG hC  99 rfl u2 f334 dX6_tryOrders_96 ?_
          refine sm_iconst (x := (1 : Int32)) hG 100 rfl dX6_tryOrders_99 rfl ?_
          refine sm_iadd hG 101 rfl dX6_tryOrders_100 ?_
          refine sm_callV hG (fun (w : mC) => ((none : Option Value), w)) (32, 0, 0) [.int ((r_85 (32, 0, 0) 2) + (1 : Int32))] 104 rfl (oks hC (by decide)) (ce_32 hC _) (ci := 2) rfl (fun r_ hr_ => c_X2_goTo hC   hr_) gX6_tryOrders_X2_goTo rfl (by decide) (by decide) (n := 1) rfl (Nat.le_of_ble_eq_true rfl) (by decide) ⟨Nat.zero_le _, Nat.zero_le _⟩ rfl dX6_tryOrders_101 (fun r_101 => ?_)
          refine sm_iinc hG 107 rfl dX6_tryOrders_104 (j := 1) rfl rfl (jlt hN rfl) [(1, .int (x1_21 + (1 : Int32))), (0, .ref (Λ.2.2.2.1 (0, 0, 0)))] rfl ?_
          refine sm_goto hG 21 dX6_tryOrders_107 (by decide) ?_
          refine sm_loc [1, 0] [(0, .ref (Λ.2.2.2.1 (0, 0, 0))), (1, .int (x1_21 + (1 : Int32)))] rfl ?_
          exact hs21 _ _
        · refine sm_iload_n hG 69 rfl dX6_tryOrders_68 rfl 1 rfl ?_
          exact sm_iret hG hT ⟨Nat.zero_le _, Nat.zero_le _⟩ dX6_tryOrders_69 rfl
abbrev rmX2_countOrders : Room := { frames := 0, cells := 0, slots := 0, locals := 0 }
set_option maxRecDepth 100000 in
set_option maxHeartbeats 4000000 in
theorem c_X2_countOrders {Λ : jL kC} (hC : LC Λ)   {l : Launch} {v : mC} {r : Int32} (hr_ : f_X2_countOrders v = some r) : Ct l yX2_countOrders wsX2_countOrders rmX2_countOrders Λ [.ref (Λ.2.2.2.1 (32, 0, 0))] v (some (.int r)) v := by
  refine ct_of (cc := cX2_countOrders) (maxL := 3) (ret := (some .int)) (fun (q : Int32) => (some (Value.int q), v)) hC.1 hr_ (by decide) rfl (Nat.le_of_ble_eq_true rfl) (fun Γ hG hT hN hl => ?_)
  subst hl
  have f15 : Cond.fieldLink RX2 15 "ChoirRegister$Letter" "length" "I" ∈ wsX2_countOrders := by decide +kernel
  have f9 : Cond.fieldLink RX2 9 "ChoirRegister$Letter" "signs" "[C" ∈ wsX2_countOrders := by decide +kernel
  have u2 : ∀ w ∈ wsX20, w ∈ wsX2_countOrders := by decide +kernel
  show Sm Γ Λ (0, 0) 0 [(0, .ref (Λ.2.2.2.1 (32, 0, 0)))] [] v _
  unfold f_X2_countOrders
  refine sm_iconst (x := (1 : Int32)) hG 1 rfl dX2_countOrders_0 rfl ?_
  refine sm_istore_n hG 2 rfl dX2_countOrders_1 rfl (jlt hN rfl) [(1, .int (1 : Int32)), (0, .ref (Λ.2.2.2.1 (32, 0, 0)))] rfl ?_
  refine sm_iconst (x := (0 : Int32)) hG 3 rfl dX2_countOrders_2 rfl ?_
  refine sm_istore_n hG 4 rfl dX2_countOrders_3 rfl (jlt hN rfl) [(2, .int (0 : Int32)), (1, .int (1 : Int32)), (0, .ref (Λ.2.2.2.1 (32, 0, 0)))] rfl ?_
  refine sm_loc [2, 1, 0] [(0, .ref (Λ.2.2.2.1 (32, 0, 0))), (1, .int (1 : Int32)), (2, .int (0 : Int32))] rfl ?_
  refine lp_ind (fun (X4 : Int32 → Int32 → Option Int32) => ∀ (x1_4 : Int32) (x2_4 : Int32), Sm Γ Λ (0, 0) 4 [(0, .ref (Λ.2.2.2.1 (32, 0, 0))), (1, .int x1_4), (2, .int x2_4)] [] v (X4 x1_4 x2_4)) (fun _ _ => sm_none) (fun self4 hs4 x1_4 x2_4 => ?_) 8192 _ _
  refine sm_iload_n hG 5 rfl dX2_countOrders_4 rfl 2 rfl ?_
  refine sm_aload_n hG 6 rfl dX2_countOrders_5 rfl 0 rfl ?_
  refine gC32_1 hG hC  9 rfl u2 f15 dX2_countOrders_6 ?_
  refine sm_icmp_ge hG 32 12 rfl dX2_countOrders_9 (by decide) ?_ ?_
  · refine sm_iload_n hG 33 rfl dX2_countOrders_32 rfl 1 rfl ?_
    exact sm_iret hG hT ⟨Nat.zero_le _, Nat.zero_le _⟩ dX2_countOrders_33 rfl
  · refine sm_aload_n hG 13 rfl dX2_countOrders_12 rfl 0 rfl ?_
    refine gC32_0 hG hC  16 rfl u2 f9 dX2_countOrders_13 ?_
    refine sm_iload_n hG 17 rfl dX2_countOrders_16 rfl 2 rfl ?_
    refine lC33 hG hC  18 rfl dX2_countOrders_17 ?_
    refine sm_bipush (x := (59 : Int32)) hG 20 rfl dX2_countOrders_18 rfl ?_
    refine sm_icmp_ne hG 26 23 rfl dX2_countOrders_20 (by decide) ?_ ?_
    · refine sm_iinc hG 29 rfl dX2_countOrders_26 (j := 2) rfl rfl (jlt hN rfl) [(2, .int (x2_4 + (1 : Int32))), (0, .ref (Λ.2.2.2.1 (32, 0, 0))), (1, .int x1_4)] rfl ?_
      refine sm_goto hG 4 dX2_countOrders_29 (by decide) ?_
      refine sm_loc [1, 2, 0] [(0, .ref (Λ.2.2.2.1 (32, 0, 0))), (1, .int x1_4), (2, .int (x2_4 + (1 : Int32)))] rfl ?_
      exact hs4 _ _
    · refine sm_iinc hG 26 rfl dX2_countOrders_23 (j := 1) rfl rfl (jlt hN rfl) [(1, .int (x1_4 + (1 : Int32))), (0, .ref (Λ.2.2.2.1 (32, 0, 0))), (2, .int x2_4)] rfl ?_
      refine sm_iinc hG 29 rfl dX2_countOrders_26 (j := 2) rfl rfl (jlt hN rfl) [(2, .int (x2_4 + (1 : Int32))), (1, .int (x1_4 + (1 : Int32))), (0, .ref (Λ.2.2.2.1 (32, 0, 0)))] rfl ?_
      refine sm_goto hG 4 dX2_countOrders_29 (by decide) ?_
      refine sm_loc [2, 1, 0] [(0, .ref (Λ.2.2.2.1 (32, 0, 0))), (1, .int (x1_4 + (1 : Int32))), (2, .int (x2_4 + (1 : Int32)))] rfl ?_
      exact hs4 _ _
abbrev rmX6_takeSnapshot : Room := { frames := 3, cells := 0, slots := 0, locals := 69 }
set_option maxRecDepth 100000 in
set_option maxHeartbeats 4000000 in
theorem c_X6_takeSnapshot {Λ : jL kC} (hC : LC Λ)   {l : Launch} {v : mC} {r : (Int32 × mC)} (hr_ : f_X6_takeSnapshot v = some r) : Ct l yX6_takeSnapshot wsX6_takeSnapshot rmX6_takeSnapshot Λ [.ref (Λ.2.2.2.1 (0, 0, 0))] v (some (.int r.1)) r.2 := by
  refine ct_of (cc := cX6_takeSnapshot) (maxL := 1) (ret := (some .int)) (fun (q : Int32 × mC) => (some (Value.int q.1), q.2)) hC.1 hr_ (by decide) rfl (Nat.le_of_ble_eq_true rfl) (fun Γ hG hT hN hl => ?_)
  subst hl
  have f10 : Cond.fieldLink RX6 10 "ChoirRegister" "book" "LChoirRegister$Book;" ∈ wsX6_takeSnapshot := by decide +kernel
  have f134 : Cond.fieldLink RX6 134 "ChoirRegister$Book" "day" "I" ∈ wsX6_takeSnapshot := by decide +kernel
  have f19 : Cond.fieldLink RX6 19 "ChoirRegister" "snapshot" "LChoirRegister$Book;" ∈ wsX6_takeSnapshot := by decide +kernel
  have f22 : Cond.fieldLink RX6 22 "ChoirRegister" "hasSnapshot" "Z" ∈ wsX6_takeSnapshot := by decide +kernel
  have u0 : ∀ w ∈ wsX00, w ∈ wsX6_takeSnapshot := by decide +kernel
  have u6 : ∀ w ∈ wsX60, w ∈ wsX6_takeSnapshot := by decide +kernel
  show Sm Γ Λ (0, 0) 0 [(0, .ref (Λ.2.2.2.1 (0, 0, 0)))] [] v _
  unfold f_X6_takeSnapshot
  refine sm_aload_n hG 1 rfl dX6_takeSnapshot_0 rfl 0 rfl ?_
  refine gC0_2 hG hC  4 rfl u6 f19 dX6_takeSnapshot_1 ?_
  refine sm_aload_n hG 5 rfl dX6_takeSnapshot_4 rfl 0 rfl ?_
  refine gC0_0 hG hC  8 rfl u6 f10 dX6_takeSnapshot_5 ?_
  refine sm_callV hG (fun (w : mC) => ((none : Option Value), w)) (1, 2, 0) [.ref (Λ.2.2.2.1 (1, 0, 0))] 11 rfl (okb hC (by decide) (by decide)) (ce_1 hC _) (ci := 0) rfl (fun r_ hr_ => c_X0_copyFrom hC (by decide) (by decide)  hr_) gX6_takeSnapshot_X0_copyFrom rfl (by decide) (by decide) (n := 1) rfl (Nat.le_of_ble_eq_true rfl) (by decide) ⟨Nat.zero_le _, Nat.zero_le _⟩ rfl dX6_takeSnapshot_8 (fun r_8 => ?_)
  refine sm_aload_n hG 12 rfl dX6_takeSnapshot_11 rfl 0 rfl ?_
  refine sm_iconst (x := (1 : Int32)) hG 13 rfl dX6_takeSnapshot_12 rfl ?_
  refine pC0_3 hG hC  16 rfl u6 f22 rfl rfl dX6_takeSnapshot_13 ?_
  refine sm_nmv (fun w13_1 => ?_)
  refine sm_aload_n hG 17 rfl dX6_takeSnapshot_16 rfl 0 rfl ?_
  refine gC0_0 hG hC  20 rfl u6 f10 dX6_takeSnapshot_17 ?_
  refine gC1_0 hG hC (by decide) 23 rfl u0 f134 dX6_takeSnapshot_20 ?_
  exact sm_iret hG hT ⟨Nat.zero_le _, Nat.zero_le _⟩ dX6_takeSnapshot_23 rfl
abbrev rmX6_singers : Room := { frames := 0, cells := 0, slots := 0, locals := 0 }
set_option maxRecDepth 100000 in
set_option maxHeartbeats 4000000 in
theorem c_X6_singers {Λ : jL kC} (hC : LC Λ)   {l : Launch} {v : mC} {r : Int32} (hr_ : f_X6_singers v = some r) : Ct l yX6_singers wsX6_singers rmX6_singers Λ [.ref (Λ.2.2.2.1 (0, 0, 0))] v (some (.int r)) v := by
  refine ct_of (cc := cX6_singers) (maxL := 1) (ret := (some .int)) (fun (q : Int32) => (some (Value.int q), v)) hC.1 hr_ (by decide) rfl (Nat.le_of_ble_eq_true rfl) (fun Γ hG hT hN hl => ?_)
  subst hl
  have f10 : Cond.fieldLink RX6 10 "ChoirRegister" "book" "LChoirRegister$Book;" ∈ wsX6_singers := by decide +kernel
  have f137 : Cond.fieldLink RX6 137 "ChoirRegister$Book" "roster" "LChoirRegister$Roster;" ∈ wsX6_singers := by decide +kernel
  have f141 : Cond.fieldLink RX6 141 "ChoirRegister$Roster" "count" "I" ∈ wsX6_singers := by decide +kernel
  have u0 : ∀ w ∈ wsX00, w ∈ wsX6_singers := by decide +kernel
  have u5 : ∀ w ∈ wsX50, w ∈ wsX6_singers := by decide +kernel
  have u6 : ∀ w ∈ wsX60, w ∈ wsX6_singers := by decide +kernel
  show Sm Γ Λ (0, 0) 0 [(0, .ref (Λ.2.2.2.1 (0, 0, 0)))] [] v _
  unfold f_X6_singers
  refine sm_aload_n hG 1 rfl dX6_singers_0 rfl 0 rfl ?_
  refine gC0_0 hG hC  4 rfl u6 f10 dX6_singers_1 ?_
  refine gC1_1 hG hC (by decide) 7 rfl u0 f137 dX6_singers_4 ?_
  refine gC2_0 hG hC (by decide) 10 rfl u5 f141 dX6_singers_7 ?_
  exact sm_iret hG hT ⟨Nat.zero_le _, Nat.zero_le _⟩ dX6_singers_10 rfl
abbrev rmX5_nextBreakingAfter : Room := { frames := 1, cells := 0, slots := 0, locals := 22 }
set_option maxRecDepth 100000 in
set_option maxHeartbeats 4000000 in
theorem c_X5_nextBreakingAfter {Λ : jL kC} (hC : LC Λ) {o : Nat} {x1 : Int32} (ho : o < 7) {l : Launch} {v : mC} {r : Int32} (hr_ : f_X5_nextBreakingAfter o x1 v = some r) : Ct l yX5_nextBreakingAfter wsX5_nextBreakingAfter rmX5_nextBreakingAfter Λ [.ref (Λ.2.2.2.1 (2, o, 0)), .int x1] v (some (.int r)) v := by
  refine ct_of (cc := cX5_nextBreakingAfter) (maxL := 5) (ret := (some .int)) (fun (q : Int32) => (some (Value.int q), v)) hC.1 hr_ (by decide) rfl (Nat.le_of_ble_eq_true rfl) (fun Γ hG hT hN hl => ?_)
  subst hl
  have f28 : Cond.fieldLink RX5 28 "ChoirRegister$Roster" "breakDay" "[I" ∈ wsX5_nextBreakingAfter := by decide +kernel
  have f9 : Cond.fieldLink RX5 9 "ChoirRegister$Roster" "count" "I" ∈ wsX5_nextBreakingAfter := by decide +kernel
  have u5 : ∀ w ∈ wsX50, w ∈ wsX5_nextBreakingAfter := by decide +kernel
  show Sm Γ Λ (0, 0) 0 [(0, .ref (Λ.2.2.2.1 (2, o, 0))), (1, .int x1)] [] v _
  unfold f_X5_nextBreakingAfter
  refine sm_iconst (x := (-1 : Int32)) hG 1 rfl dX5_nextBreakingAfter_0 rfl ?_
  refine sm_istore_n hG 2 rfl dX5_nextBreakingAfter_1 rfl (jlt hN rfl) [(2, .int (-1 : Int32)), (0, .ref (Λ.2.2.2.1 (2, o, 0))), (1, .int x1)] rfl ?_
  refine sm_iconst (x := (0 : Int32)) hG 3 rfl dX5_nextBreakingAfter_2 rfl ?_
  refine sm_istore_n hG 4 rfl dX5_nextBreakingAfter_3 rfl (jlt hN rfl) [(3, .int (0 : Int32)), (2, .int (-1 : Int32)), (0, .ref (Λ.2.2.2.1 (2, o, 0))), (1, .int x1)] rfl ?_
  refine sm_loc [2, 3, 1, 0] [(0, .ref (Λ.2.2.2.1 (2, o, 0))), (1, .int x1), (2, .int (-1 : Int32)), (3, .int (0 : Int32))] rfl ?_
  refine lp_ind (fun (X4 : Int32 → Int32 → Option Int32) => ∀ (x2_4 : Int32) (x3_4 : Int32), Sm Γ Λ (0, 0) 4 [(0, .ref (Λ.2.2.2.1 (2, o, 0))), (1, .int x1), (2, .int x2_4), (3, .int x3_4)] [] v (X4 x2_4 x3_4)) (fun _ _ => sm_none) (fun self4 hs4 x2_4 x3_4 => ?_) 8192 _ _
  refine sm_iload_n hG 5 rfl dX5_nextBreakingAfter_4 rfl 3 rfl ?_
  refine sm_aload_n hG 6 rfl dX5_nextBreakingAfter_5 rfl 0 rfl ?_
  refine gC2_0 hG hC ho 9 rfl u5 f9 dX5_nextBreakingAfter_6 ?_
  refine sm_icmp_ge hG 71 12 rfl dX5_nextBreakingAfter_9 (by decide) ?_ ?_
  · refine sm_iload_n hG 72 rfl dX5_nextBreakingAfter_71 rfl 2 rfl ?_
    exact sm_iret hG hT ⟨Nat.zero_le _, Nat.zero_le _⟩ dX5_nextBreakingAfter_72 rfl
  · refine sm_jn (fun (X36 : Int32 → Option Int32) => ∀ (s0_36 : Int32), Sm Γ Λ (0, 0) 36 [(0, .ref (Λ.2.2.2.1 (2, o, 0))), (1, .int x1), (2, .int x2_4), (3, .int x3_4)] [.int s0_36] v (X36 s0_36)) (fun s0_36 => ?_) (fun j36 hj36 => ?_)
    · refine sm_istore hG 38 rfl dX5_nextBreakingAfter_36 (jlt hN rfl) [(4, .int s0_36), (0, .ref (Λ.2.2.2.1 (2, o, 0))), (1, .int x1), (2, .int x2_4), (3, .int x3_4)] rfl ?_
      refine sm_iload hG 40 rfl dX5_nextBreakingAfter_38 0 rfl ?_
      refine sm_if_eq hG 65 43 rfl dX5_nextBreakingAfter_40 (by decide) ?_ ?_
      · refine sm_iinc hG 68 rfl dX5_nextBreakingAfter_65 (j := 4) rfl rfl (jlt hN rfl) [(3, .int (x3_4 + (1 : Int32))), (4, .int s0_36), (0, .ref (Λ.2.2.2.1 (2, o, 0))), (1, .int x1), (2, .int x2_4)] rfl ?_
        refine sm_goto hG 4 dX5_nextBreakingAfter_68 (by decide) ?_
        refine sm_loc [2, 3, 4, 0] [(0, .ref (Λ.2.2.2.1 (2, o, 0))), (1, .int x1), (2, .int x2_4), (3, .int (x3_4 + (1 : Int32)))] rfl ?_
        exact hs4 _ _
      · refine sm_iload_n hG 44 rfl dX5_nextBreakingAfter_43 rfl 3 rfl ?_
        refine sm_iconst (x := (-1 : Int32)) hG 45 rfl dX5_nextBreakingAfter_44 rfl ?_
        refine sm_icmp_eq hG 63 48 rfl dX5_nextBreakingAfter_45 (by decide) ?_ ?_
        · refine sm_iload_n hG 64 rfl dX5_nextBreakingAfter_63 rfl 4 rfl ?_
          refine sm_istore_n hG 65 rfl dX5_nextBreakingAfter_64 rfl (jlt hN rfl) [(2, .int x3_4), (4, .int s0_36), (0, .ref (Λ.2.2.2.1 (2, o, 0))), (1, .int x1), (3, .int x3_4)] rfl ?_
          refine sm_iinc hG 68 rfl dX5_nextBreakingAfter_65 (j := 4) rfl rfl (jlt hN rfl) [(3, .int (x3_4 + (1 : Int32))), (2, .int x3_4), (4, .int s0_36), (0, .ref (Λ.2.2.2.1 (2, o, 0))), (1, .int x1)] rfl ?_
          refine sm_goto hG 4 dX5_nextBreakingAfter_68 (by decide) ?_
          refine sm_loc [3, 4, 1, 0] [(0, .ref (Λ.2.2.2.1 (2, o, 0))), (1, .int x1), (2, .int x3_4), (3, .int (x3_4 + (1 : Int32)))] rfl ?_
          exact hs4 _ _
        · refine sm_aload_n hG 49 rfl dX5_nextBreakingAfter_48 rfl 1 rfl ?_
          refine gC2_5 hG hC ho 52 rfl u5 f28 dX5_nextBreakingAfter_49 ?_
          refine sm_iload_n hG 53 rfl dX5_nextBreakingAfter_52 rfl 4 rfl ?_
          refine lC7 hG hC ho 54 rfl dX5_nextBreakingAfter_53 ?_
          refine sm_aload_n hG 55 rfl dX5_nextBreakingAfter_54 rfl 1 rfl ?_
          refine gC2_5 hG hC ho 58 rfl u5 f28 dX5_nextBreakingAfter_55 ?_
          refine sm_iload_n hG 59 rfl dX5_nextBreakingAfter_58 rfl 3 rfl ?_
          refine lC7 hG hC ho 60 rfl dX5_nextBreakingAfter_59 ?_
          refine sm_icmp_ge hG 65 63 rfl dX5_nextBreakingAfter_60 (by decide) ?_ ?_
          · refine sm_iinc hG 68 rfl dX5_nextBreakingAfter_65 (j := 4) rfl rfl (jlt hN rfl) [(3, .int (x3_4 + (1 : Int32))), (4, .int s0_36), (0, .ref (Λ.2.2.2.1 (2, o, 0))), (1, .int x1), (2, .int x2_4)] rfl ?_
            refine sm_goto hG 4 dX5_nextBreakingAfter_68 (by decide) ?_
            refine sm_loc [2, 3, 4, 0] [(0, .ref (Λ.2.2.2.1 (2, o, 0))), (1, .int x1), (2, .int x2_4), (3, .int (x3_4 + (1 : Int32)))] rfl ?_
            exact hs4 _ _
          · refine sm_iload_n hG 64 rfl dX5_nextBreakingAfter_63 rfl 4 rfl ?_
            refine sm_istore_n hG 65 rfl dX5_nextBreakingAfter_64 rfl (jlt hN rfl) [(2, .int x3_4), (4, .int s0_36), (0, .ref (Λ.2.2.2.1 (2, o, 0))), (1, .int x1), (3, .int x3_4)] rfl ?_
            refine sm_iinc hG 68 rfl dX5_nextBreakingAfter_65 (j := 4) rfl rfl (jlt hN rfl) [(3, .int (x3_4 + (1 : Int32))), (2, .int x3_4), (4, .int s0_36), (0, .ref (Λ.2.2.2.1 (2, o, 0))), (1, .int x1)] rfl ?_
            refine sm_goto hG 4 dX5_nextBreakingAfter_68 (by decide) ?_
            refine sm_loc [3, 4, 1, 0] [(0, .ref (Λ.2.2.2.1 (2, o, 0))), (1, .int x1), (2, .int x3_4), (3, .int (x3_4 + (1 : Int32)))] rfl ?_
            exact hs4 _ _
    · refine sm_jn (fun (X35 : Unit → Option Int32) => ∀ (u_ : Unit), Sm Γ Λ (0, 0) 35 [(0, .ref (Λ.2.2.2.1 (2, o, 0))), (1, .int x1), (2, .int x2_4), (3, .int x3_4)] [] v (X35 u_)) (fun u_ => ?_) (fun j35 hj35 => ?_)
      · refine sm_iconst (x := (0 : Int32)) hG 36 rfl dX5_nextBreakingAfter_35 rfl ?_
        exact hj36 _
      · refine sm_aload_n hG 13 rfl dX5_nextBreakingAfter_12 rfl 0 rfl ?_
        refine gC2_5 hG hC ho 16 rfl u5 f28 dX5_nextBreakingAfter_13 ?_
        refine sm_iload_n hG 17 rfl dX5_nextBreakingAfter_16 rfl 3 rfl ?_
        refine lC7 hG hC ho 18 rfl dX5_nextBreakingAfter_17 ?_
        refine sm_iload_n hG 19 rfl dX5_nextBreakingAfter_18 rfl 1 rfl ?_
        refine sm_icmp_le hG 35 22 rfl dX5_nextBreakingAfter_19 (by decide) ?_ ?_
        · exact hj35 ()
        · refine sm_aload_n hG 23 rfl dX5_nextBreakingAfter_22 rfl 0 rfl ?_
          refine sm_iload_n hG 24 rfl dX5_nextBreakingAfter_23 rfl 3 rfl ?_
          refine sm_iload_n hG 25 rfl dX5_nextBreakingAfter_24 rfl 1 rfl ?_
          refine sm_callV hG (fun (q : Int32) => (some (Value.int q), v)) (2, o, 0) [.int x3_4, .int x1] 28 rfl (okb hC (by decide) ho) (ce_2 hC _) (ci := 5) rfl (fun r_ hr_ => c_X5_hasLeftBy hC ho  hr_) gX5_nextBreakingAfter_X5_hasLeftBy rfl (by decide) (by decide) (n := 2) rfl (Nat.le_of_ble_eq_true rfl) (by decide) ⟨Nat.zero_le _, Nat.zero_le _⟩ rfl dX5_nextBreakingAfter_25 (fun r_25 => ?_)
          refine sm_if_ne hG 35 31 rfl dX5_nextBreakingAfter_28 (by decide) ?_ ?_
          · exact hj35 ()
          · refine sm_iconst (x := (1 : Int32)) hG 32 rfl dX5_nextBreakingAfter_31 rfl ?_
            refine sm_goto hG 36 dX5_nextBreakingAfter_32 (by decide) ?_
            exact hj36 _
abbrev rmX6_nextToBreak : Room := { frames := 2, cells := 0, slots := 0, locals := 46 }
set_option maxRecDepth 100000 in
set_option maxHeartbeats 4000000 in
theorem c_X6_nextToBreak {Λ : jL kC} (hC : LC Λ)   {l : Launch} {v : mC} {r : Int32} (hr_ : f_X6_nextToBreak v = some r) : Ct l yX6_nextToBreak wsX6_nextToBreak rmX6_nextToBreak Λ [.ref (Λ.2.2.2.1 (0, 0, 0))] v (some (.int r)) v := by
  refine ct_of (cc := cX6_nextToBreak) (maxL := 1) (ret := (some .int)) (fun (q : Int32) => (some (Value.int q), v)) hC.1 hr_ (by decide) rfl (Nat.le_of_ble_eq_true rfl) (fun Γ hG hT hN hl => ?_)
  subst hl
  have f10 : Cond.fieldLink RX6 10 "ChoirRegister" "book" "LChoirRegister$Book;" ∈ wsX6_nextToBreak := by decide +kernel
  have f134 : Cond.fieldLink RX6 134 "ChoirRegister$Book" "day" "I" ∈ wsX6_nextToBreak := by decide +kernel
  have f137 : Cond.fieldLink RX6 137 "ChoirRegister$Book" "roster" "LChoirRegister$Roster;" ∈ wsX6_nextToBreak := by decide +kernel
  have u0 : ∀ w ∈ wsX00, w ∈ wsX6_nextToBreak := by decide +kernel
  have u6 : ∀ w ∈ wsX60, w ∈ wsX6_nextToBreak := by decide +kernel
  show Sm Γ Λ (0, 0) 0 [(0, .ref (Λ.2.2.2.1 (0, 0, 0)))] [] v _
  unfold f_X6_nextToBreak
  refine sm_aload_n hG 1 rfl dX6_nextToBreak_0 rfl 0 rfl ?_
  refine gC0_0 hG hC  4 rfl u6 f10 dX6_nextToBreak_1 ?_
  refine gC1_1 hG hC (by decide) 7 rfl u0 f137 dX6_nextToBreak_4 ?_
  refine sm_aload_n hG 8 rfl dX6_nextToBreak_7 rfl 0 rfl ?_
  refine gC0_0 hG hC  11 rfl u6 f10 dX6_nextToBreak_8 ?_
  refine gC1_0 hG hC (by decide) 14 rfl u0 f134 dX6_nextToBreak_11 ?_
  refine sm_callV hG (fun (q : Int32) => (some (Value.int q), v)) (2, 0, 0) [.int (v (1, 0, 0) 0)] 17 rfl (okb hC (by decide) (by decide)) (ce_2 hC _) (ci := 5) rfl (fun r_ hr_ => c_X5_nextBreakingAfter hC (by decide)  hr_) gX6_nextToBreak_X5_nextBreakingAfter rfl (by decide) (by decide) (n := 1) rfl (Nat.le_of_ble_eq_true rfl) (by decide) ⟨Nat.zero_le _, Nat.zero_le _⟩ rfl dX6_nextToBreak_14 (fun r_14 => ?_)
  exact sm_iret hG hT ⟨Nat.zero_le _, Nat.zero_le _⟩ dX6_nextToBreak_17 rfl
abbrev rmX6_feasts : Room := { frames := 0, cells := 0, slots := 0, locals := 0 }
set_option maxRecDepth 100000 in
set_option maxHeartbeats 4000000 in
theorem c_X6_feasts {Λ : jL kC} (hC : LC Λ)   {l : Launch} {v : mC} {r : Int32} (hr_ : f_X6_feasts v = some r) : Ct l yX6_feasts wsX6_feasts rmX6_feasts Λ [.ref (Λ.2.2.2.1 (0, 0, 0))] v (some (.int r)) v := by
  refine ct_of (cc := cX6_feasts) (maxL := 1) (ret := (some .int)) (fun (q : Int32) => (some (Value.int q), v)) hC.1 hr_ (by decide) rfl (Nat.le_of_ble_eq_true rfl) (fun Γ hG hT hN hl => ?_)
  subst hl
  have f10 : Cond.fieldLink RX6 10 "ChoirRegister" "book" "LChoirRegister$Book;" ∈ wsX6_feasts := by decide +kernel
  have f200 : Cond.fieldLink RX6 200 "ChoirRegister$Book" "calendar" "LChoirRegister$Calendar;" ∈ wsX6_feasts := by decide +kernel
  have f204 : Cond.fieldLink RX6 204 "ChoirRegister$Calendar" "count" "I" ∈ wsX6_feasts := by decide +kernel
  have u0 : ∀ w ∈ wsX00, w ∈ wsX6_feasts := by decide +kernel
  have u1 : ∀ w ∈ wsX10, w ∈ wsX6_feasts := by decide +kernel
  have u6 : ∀ w ∈ wsX60, w ∈ wsX6_feasts := by decide +kernel
  show Sm Γ Λ (0, 0) 0 [(0, .ref (Λ.2.2.2.1 (0, 0, 0)))] [] v _
  unfold f_X6_feasts
  refine sm_aload_n hG 1 rfl dX6_feasts_0 rfl 0 rfl ?_
  refine gC0_0 hG hC  4 rfl u6 f10 dX6_feasts_1 ?_
  refine gC1_3 hG hC (by decide) 7 rfl u0 f200 dX6_feasts_4 ?_
  refine gC18_0 hG hC (by decide) 10 rfl u1 f204 dX6_feasts_7 ?_
  exact sm_iret hG hT ⟨Nat.zero_le _, Nat.zero_le _⟩ dX6_feasts_10 rfl
abbrev rmX3_tell : Room := { frames := 4, cells := 0, slots := 0, locals := 97 }
set_option maxRecDepth 100000 in
set_option maxHeartbeats 4000000 in
theorem c_X3_tell {Λ : jL kC} (hC : LC Λ) {o : Nat} {x2 : Int32} (ho : o < 7) {l : Launch} {v : mC} {r : mC} (hr_ : f_X3_tell o x2 v = some r) : Ct l yX3_tell wsX3_tell rmX3_tell Λ [.ref (Λ.2.2.2.1 (35, 0, 0)), .ref (Λ.2.2.2.1 (1, o, 0)), .int x2] v none r := by
  refine ct_of (cc := cX3_tell) (maxL := 3) (ret := none) (fun (w : mC) => ((none : Option Value), w)) hC.1 hr_ (by decide) rfl (Nat.le_of_ble_eq_true rfl) (fun Γ hG hT hN hl => ?_)
  subst hl
  have f33 : Cond.fieldLink RX3 33 "ChoirRegister$Book" "calendar" "LChoirRegister$Calendar;" ∈ wsX3_tell := by decide +kernel
  have f37 : Cond.fieldLink RX3 37 "ChoirRegister$Calendar" "linesSung" "[[I" ∈ wsX3_tell := by decide +kernel
  have f9 : Cond.fieldLink RX3 9 "ChoirRegister$Lineup" "lines" "[I" ∈ wsX3_tell := by decide +kernel
  have fa1 : Cond.methodLink RX3 43 arraycopyName ∈ wsX3_tell := by decide +kernel
  have fa2 : Cond.native arraycopyName ∈ wsX3_tell := by decide +kernel
  have fa3 : Cond.static arraycopyName ∈ wsX3_tell := by decide +kernel
  have fa4 : Cond.initialized "java/lang/System" ∈ wsX3_tell := by decide +kernel
  have u0 : ∀ w ∈ wsX00, w ∈ wsX3_tell := by decide +kernel
  have u1 : ∀ w ∈ wsX10, w ∈ wsX3_tell := by decide +kernel
  have u3 : ∀ w ∈ wsX30, w ∈ wsX3_tell := by decide +kernel
  show Sm Γ Λ (0, 0) 0 [(0, .ref (Λ.2.2.2.1 (35, 0, 0))), (1, .ref (Λ.2.2.2.1 (1, o, 0))), (2, .int x2)] [] v _
  unfold f_X3_tell
  refine sm_aload_n hG 1 rfl dX3_tell_0 rfl 1 rfl ?_
  refine sm_iload_n hG 2 rfl dX3_tell_1 rfl 2 rfl ?_
  refine sm_callV hG (fun (q : Int32) => (some (Value.int q), v)) (1, o, 0) [.int x2] 5 rfl (okb hC (by decide) ho) (ce_1 hC _) (ci := 0) rfl (fun r_ hr_ => c_X0_hasHeld hC ho  hr_) gX3_tell_X0_hasHeld rfl (by decide) (by decide) (n := 1) rfl (Nat.le_of_ble_eq_true rfl) (by decide) ⟨Nat.zero_le _, Nat.zero_le _⟩ rfl dX3_tell_2 (fun r_2 => ?_)
  refine sm_if_eq hG 31 8 rfl dX3_tell_5 (by decide) ?_ ?_
  · refine sm_aload_n hG 32 rfl dX3_tell_31 rfl 0 rfl ?_
    refine sm_aload_n hG 33 rfl dX3_tell_32 rfl 1 rfl ?_
    refine sm_iload_n hG 34 rfl dX3_tell_33 rfl 2 rfl ?_
    refine sm_callV hG (fun (w : mC) => ((none : Option Value), w)) (35, 0, 0) [.ref (Λ.2.2.2.1 (1, o, 0)), .int x2] 37 rfl (oks hC (by decide)) (ce_35 hC _) (ci := 3) rfl (fun r_ hr_ => c_X3_make hC ho  hr_) gX3_tell_X3_make rfl (by decide) (by decide) (n := 2) rfl (Nat.le_of_ble_eq_true rfl) (by decide) ⟨Nat.zero_le _, Nat.zero_le _⟩ rfl dX3_tell_34 (fun r_34 => ?_)
    exact sm_vret hG hT ⟨Nat.zero_le _, Nat.zero_le _⟩ dX3_tell_37 rfl
  · refine sm_aload_n hG 9 rfl dX3_tell_8 rfl 1 rfl ?_
    refine gC1_3 hG hC ho 12 rfl u0 f33 dX3_tell_9 ?_
    refine gC18_7 hG hC ho 15 rfl u1 f37 dX3_tell_12 ?_
    refine sm_iload_n hG 16 rfl dX3_tell_15 rfl 2 rfl ?_
    refine lC25 hG hC ho 17 rfl dX3_tell_16 (fun hf16_1 => ?_)
    refine sm_iconst (x := (0 : Int32)) hG 18 rfl dX3_tell_17 rfl ?_
    refine sm_aload_n hG 19 rfl dX3_tell_18 rfl 0 rfl ?_
    refine gC35_0 hG hC  22 rfl u3 f9 dX3_tell_19 ?_
    refine sm_iconst (x := (0 : Int32)) hG 23 rfl dX3_tell_22 rfl ?_
    refine sm_bipush (x := (30 : Int32)) hG 25 rfl dX3_tell_23 rfl ?_
    refine cA hG (ic_29 hC ho hf16_1) (ic_36 hC ) 28 rfl fa1 fa2 fa3 fa4 (by decide) (Nat.le_of_ble_eq_true rfl) dX3_tell_25 ?_
    refine sm_nmv (fun w25_1 => ?_)
    refine sm_goto hG 37 dX3_tell_28 (by decide) ?_
    exact sm_vret hG hT ⟨Nat.zero_le _, Nat.zero_le _⟩ dX3_tell_37 rfl
abbrev rmX3_lackBySets : Room := { frames := 3, cells := 0, slots := 0, locals := 72 }
set_option maxRecDepth 100000 in
set_option maxHeartbeats 4000000 in
theorem c_X3_lackBySets {Λ : jL kC} (hC : LC Λ) {o : Nat} {x2 : Int32} {x3 : Int32} (ho : o < 7) {l : Launch} {v : mC} {r : (Int32 × mC)} (hr_ : f_X3_lackBySets o x2 x3 v = some r) : Ct l yX3_lackBySets wsX3_lackBySets rmX3_lackBySets Λ [.ref (Λ.2.2.2.1 (35, 0, 0)), .ref (Λ.2.2.2.1 (1, o, 0)), .int x2, .int x3] v (some (.int r.1)) r.2 := by
  refine ct_of (cc := cX3_lackBySets) (maxL := 8) (ret := (some .int)) (fun (q : Int32 × mC) => (some (Value.int q.1), q.2)) hC.1 hr_ (by decide) rfl (Nat.le_of_ble_eq_true rfl) (fun Γ hG hT hN hl => ?_)
  subst hl
  have f33 : Cond.fieldLink RX3 33 "ChoirRegister$Book" "calendar" "LChoirRegister$Calendar;" ∈ wsX3_lackBySets := by decide +kernel
  have f62 : Cond.fieldLink RX3 62 "ChoirRegister$Calendar" "places" "[[I" ∈ wsX3_lackBySets := by decide +kernel
  have f65 : Cond.fieldLink RX3 65 "ChoirRegister$Book" "roster" "LChoirRegister$Roster;" ∈ wsX3_lackBySets := by decide +kernel
  have f69 : Cond.fieldLink RX3 69 "ChoirRegister$Roster" "count" "I" ∈ wsX3_lackBySets := by decide +kernel
  have u0 : ∀ w ∈ wsX00, w ∈ wsX3_lackBySets := by decide +kernel
  have u1 : ∀ w ∈ wsX10, w ∈ wsX3_lackBySets := by decide +kernel
  have u5 : ∀ w ∈ wsX50, w ∈ wsX3_lackBySets := by decide +kernel
  show Sm Γ Λ (0, 0) 0 [(0, .ref (Λ.2.2.2.1 (35, 0, 0))), (1, .ref (Λ.2.2.2.1 (1, o, 0))), (2, .int x2), (3, .int x3)] [] v _
  unfold f_X3_lackBySets
  refine sm_aload_n hG 1 rfl dX3_lackBySets_0 rfl 0 rfl ?_
  refine sm_aload_n hG 2 rfl dX3_lackBySets_1 rfl 1 rfl ?_
  refine sm_iload_n hG 3 rfl dX3_lackBySets_2 rfl 2 rfl ?_
  refine sm_callV hG (fun (w : mC) => ((none : Option Value), w)) (35, 0, 0) [.ref (Λ.2.2.2.1 (1, o, 0)), .int x2] 6 rfl (oks hC (by decide)) (ce_35 hC _) (ci := 3) rfl (fun r_ hr_ => c_X3_listWhoCanSing hC ho  hr_) gX3_lackBySets_X3_listWhoCanSing rfl (by decide) (by decide) (n := 2) rfl (Nat.le_of_ble_eq_true rfl) (by decide) ⟨Nat.zero_le _, Nat.zero_le _⟩ rfl dX3_lackBySets_3 (fun r_3 => ?_)
  refine sm_iconst (x := (0 : Int32)) hG 7 rfl dX3_lackBySets_6 rfl ?_
  refine sm_istore hG 9 rfl dX3_lackBySets_7 (jlt hN rfl) [(4, .int (0 : Int32)), (0, .ref (Λ.2.2.2.1 (35, 0, 0))), (1, .ref (Λ.2.2.2.1 (1, o, 0))), (2, .int x2), (3, .int x3)] rfl ?_
  refine sm_iconst (x := (0 : Int32)) hG 10 rfl dX3_lackBySets_9 rfl ?_
  refine sm_istore hG 12 rfl dX3_lackBySets_10 (jlt hN rfl) [(5, .int (0 : Int32)), (4, .int (0 : Int32)), (0, .ref (Λ.2.2.2.1 (35, 0, 0))), (1, .ref (Λ.2.2.2.1 (1, o, 0))), (2, .int x2), (3, .int x3)] rfl ?_
  refine sm_loc [2, 3, 4, 5, 1, 0] [(0, .ref (Λ.2.2.2.1 (35, 0, 0))), (1, .ref (Λ.2.2.2.1 (1, o, 0))), (2, .int x2), (3, .int x3), (4, .int (0 : Int32)), (5, .int (0 : Int32))] rfl ?_
  refine lp_ind (fun (X12 : Int32 → Int32 → Option (Int32 × mC)) => ∀ (x4_12 : Int32) (x5_12 : Int32), Sm Γ Λ (0, 0) 12 [(0, .ref (Λ.2.2.2.1 (35, 0, 0))), (1, .ref (Λ.2.2.2.1 (1, o, 0))), (2, .int x2), (3, .int x3), (4, .int x4_12), (5, .int x5_12)] [] r_3 (X12 x4_12 x5_12)) (fun _ _ => sm_none) (fun self12 hs12 x4_12 x5_12 => ?_) 8192 _ _
  refine sm_iload hG 14 rfl dX3_lackBySets_12 5 rfl ?_
  refine sm_bipush (x := (16 : Int32)) hG 16 rfl dX3_lackBySets_14 rfl ?_
  refine sm_icmp_ge hG 111 19 rfl dX3_lackBySets_16 (by decide) ?_ ?_
  · refine sm_iload hG 113 rfl dX3_lackBySets_111 4 rfl ?_
    exact sm_iret hG hT ⟨Nat.zero_le _, Nat.zero_le _⟩ dX3_lackBySets_113 rfl
  · refine sm_aload_n hG 20 rfl dX3_lackBySets_19 rfl 0 rfl ?_
    refine sm_iload hG 22 rfl dX3_lackBySets_20 5 rfl ?_
    refine sm_aload_n hG 23 rfl dX3_lackBySets_22 rfl 1 rfl ?_
    refine gC1_1 hG hC ho 26 rfl u0 f65 dX3_lackBySets_23 ?_
    refine gC2_0 hG hC ho 29 rfl u5 f69 dX3_lackBySets_26 ?_
    refine sm_callV hG (fun (q : Int32) => (some (Value.int q), r_3)) (35, 0, 0) [.int x5_12, .int (r_3 (2, o, 0) 0)] 32 rfl (oks hC (by decide)) (ce_35 hC _) (ci := 3) rfl (fun r_ hr_ => c_X3_countWhoCanSing hC   hr_) gX3_lackBySets_X3_countWhoCanSing rfl (by decide) (by decide) (n := 2) rfl (Nat.le_of_ble_eq_true rfl) (by decide) ⟨Nat.zero_le _, Nat.zero_le _⟩ rfl dX3_lackBySets_29 (fun r_29 => ?_)
    refine sm_ineg hG 33 rfl dX3_lackBySets_32 ?_
    refine sm_istore hG 35 rfl dX3_lackBySets_33 (jlt hN rfl) [(6, .int (-r_29)), (0, .ref (Λ.2.2.2.1 (35, 0, 0))), (1, .ref (Λ.2.2.2.1 (1, o, 0))), (2, .int x2), (3, .int x3), (4, .int x4_12), (5, .int x5_12)] rfl ?_
    refine sm_iconst (x := (0 : Int32)) hG 36 rfl dX3_lackBySets_35 rfl ?_
    refine sm_istore hG 38 rfl dX3_lackBySets_36 (jlt hN rfl) [(7, .int (0 : Int32)), (6, .int (-r_29)), (0, .ref (Λ.2.2.2.1 (35, 0, 0))), (1, .ref (Λ.2.2.2.1 (1, o, 0))), (2, .int x2), (3, .int x3), (4, .int x4_12), (5, .int x5_12)] rfl ?_
    refine sm_loc [2, 3, 4, 5, 6, 7, 1, 0] [(0, .ref (Λ.2.2.2.1 (35, 0, 0))), (1, .ref (Λ.2.2.2.1 (1, o, 0))), (2, .int x2), (3, .int x3), (4, .int x4_12), (5, .int x5_12), (6, .int (-r_29)), (7, .int (0 : Int32))] rfl ?_
    refine lp_ind (fun (X38 : Int32 → Int32 → Option (Int32 × mC)) => ∀ (x6_38 : Int32) (x7_38 : Int32), Sm Γ Λ (0, 0) 38 [(0, .ref (Λ.2.2.2.1 (35, 0, 0))), (1, .ref (Λ.2.2.2.1 (1, o, 0))), (2, .int x2), (3, .int x3), (4, .int x4_12), (5, .int x5_12), (6, .int x6_38), (7, .int x7_38)] [] r_3 (X38 x6_38 x7_38)) (fun _ _ => sm_none) (fun self38 hs38 x6_38 x7_38 => ?_) 8192 _ _
    refine sm_iload hG 40 rfl dX3_lackBySets_38 7 rfl ?_
    refine sm_iconst (x := (4 : Int32)) hG 41 rfl dX3_lackBySets_40 rfl ?_
    refine sm_icmp_ge hG 89 44 rfl dX3_lackBySets_41 (by decide) ?_ ?_
    · refine sm_iload hG 91 rfl dX3_lackBySets_89 6 rfl ?_
      refine sm_iload hG 93 rfl dX3_lackBySets_91 4 rfl ?_
      refine sm_icmp_le hG 101 96 rfl dX3_lackBySets_93 (by decide) ?_ ?_
      · refine sm_iload hG 103 rfl dX3_lackBySets_101 4 rfl ?_
        refine sm_istore hG 105 rfl dX3_lackBySets_103 (jlt hN rfl) [(4, .int x4_12), (0, .ref (Λ.2.2.2.1 (35, 0, 0))), (1, .ref (Λ.2.2.2.1 (1, o, 0))), (2, .int x2), (3, .int x3), (5, .int x5_12), (6, .int x6_38), (7, .int x7_38)] rfl ?_
        refine sm_iinc hG 108 rfl dX3_lackBySets_105 (j := 5) rfl rfl (jlt hN rfl) [(5, .int (x5_12 + (1 : Int32))), (4, .int x4_12), (0, .ref (Λ.2.2.2.1 (35, 0, 0))), (1, .ref (Λ.2.2.2.1 (1, o, 0))), (2, .int x2), (3, .int x3), (6, .int x6_38), (7, .int x7_38)] rfl ?_
        refine sm_goto hG 12 dX3_lackBySets_108 (by decide) ?_
        refine sm_loc [2, 3, 4, 5, 1, 0] [(0, .ref (Λ.2.2.2.1 (35, 0, 0))), (1, .ref (Λ.2.2.2.1 (1, o, 0))), (2, .int x2), (3, .int x3), (4, .int x4_12), (5, .int (x5_12 + (1 : Int32)))] rfl ?_
        exact hs12 _ _
      · refine sm_iload hG 98 rfl dX3_lackBySets_96 6 rfl ?_
        refine sm_goto hG 103 dX3_lackBySets_98 (by decide) ?_
        refine sm_istore hG 105 rfl dX3_lackBySets_103 (jlt hN rfl) [(4, .int x6_38), (0, .ref (Λ.2.2.2.1 (35, 0, 0))), (1, .ref (Λ.2.2.2.1 (1, o, 0))), (2, .int x2), (3, .int x3), (5, .int x5_12), (6, .int x6_38), (7, .int x7_38)] rfl ?_
        refine sm_iinc hG 108 rfl dX3_lackBySets_105 (j := 5) rfl rfl (jlt hN rfl) [(5, .int (x5_12 + (1 : Int32))), (4, .int x6_38), (0, .ref (Λ.2.2.2.1 (35, 0, 0))), (1, .ref (Λ.2.2.2.1 (1, o, 0))), (2, .int x2), (3, .int x3), (6, .int x6_38), (7, .int x7_38)] rfl ?_
        refine sm_goto hG 12 dX3_lackBySets_108 (by decide) ?_
        refine sm_loc [2, 3, 4, 5, 1, 0] [(0, .ref (Λ.2.2.2.1 (35, 0, 0))), (1, .ref (Λ.2.2.2.1 (1, o, 0))), (2, .int x2), (3, .int x3), (4, .int x6_38), (5, .int (x5_12 + (1 : Int32)))] rfl ?_
        exact hs12 _ _
    · refine sm_iload hG 46 rfl dX3_lackBySets_44 5 rfl ?_
      refine sm_iload hG 48 rfl dX3_lackBySets_46 7 rfl ?_
      refine sm_callS hG (fun (q : Int32) => (some (Value.int q), r_3)) [.int x5_12, .int x7_38] 51 rfl (fun r_ hr_ => c_X3_contains hC   hr_) gX3_lackBySets_X3_contains rfl (by decide) (by decide) (n := 2) rfl (Nat.le_of_ble_eq_true rfl) (by decide) ⟨Nat.zero_le _, Nat.zero_le _⟩ rfl dX3_lackBySets_48 (fun r_48 => ?_)
      refine sm_if_eq hG 83 54 rfl dX3_lackBySets_51 (by decide) ?_ ?_
      · refine sm_iinc hG 86 rfl dX3_lackBySets_83 (j := 7) rfl rfl (jlt hN rfl) [(7, .int (x7_38 + (1 : Int32))), (0, .ref (Λ.2.2.2.1 (35, 0, 0))), (1, .ref (Λ.2.2.2.1 (1, o, 0))), (2, .int x2), (3, .int x3), (4, .int x4_12), (5, .int x5_12), (6, .int x6_38)] rfl ?_
        refine sm_goto hG 38 dX3_lackBySets_86 (by decide) ?_
        refine sm_loc [1, 2, 3, 4, 5, 6, 7, 0] [(0, .ref (Λ.2.2.2.1 (35, 0, 0))), (1, .ref (Λ.2.2.2.1 (1, o, 0))), (2, .int x2), (3, .int x3), (4, .int x4_12), (5, .int x5_12), (6, .int x6_38), (7, .int (x7_38 + (1 : Int32)))] rfl ?_
        exact hs38 _ _
      · refine sm_iload hG 56 rfl dX3_lackBySets_54 6 rfl ?_
        refine sm_aload_n hG 57 rfl dX3_lackBySets_56 rfl 1 rfl ?_
        refine gC1_3 hG hC ho 60 rfl u0 f33 dX3_lackBySets_57 ?_
        refine gC18_4 hG hC ho 63 rfl u1 f62 dX3_lackBySets_60 ?_
        refine sm_iload_n hG 64 rfl dX3_lackBySets_63 rfl 2 rfl ?_
        refine lC22 hG hC ho 65 rfl dX3_lackBySets_64 (fun hf64_1 => ?_)
        refine sm_iload hG 67 rfl dX3_lackBySets_65 7 rfl ?_
        refine lC26 hG hC ho hf64_1 68 rfl dX3_lackBySets_67 ?_
        refine sm_iload hG 70 rfl dX3_lackBySets_68 7 rfl ?_
        refine sm_iload_n hG 71 rfl dX3_lackBySets_70 rfl 3 rfl ?_
        refine sm_icmp_ne hG 78 74 rfl dX3_lackBySets_71 (by decide) ?_ ?_
        · refine sm_iconst (x := (0 : Int32)) hG 79 rfl dX3_lackBySets_78 rfl ?_
          refine sm_isub hG 80 rfl dX3_lackBySets_79 ?_
          refine sm_nmi (fun y79_1 => ?_)
          refine sm_iadd hG 81 rfl dX3_lackBySets_80 ?_
          refine sm_istore hG 83 rfl dX3_lackBySets_81 (jlt hN rfl) [(6, .int (x6_38 + y79_1)), (0, .ref (Λ.2.2.2.1 (35, 0, 0))), (1, .ref (Λ.2.2.2.1 (1, o, 0))), (2, .int x2), (3, .int x3), (4, .int x4_12), (5, .int x5_12), (7, .int x7_38)] rfl ?_
          refine sm_iinc hG 86 rfl dX3_lackBySets_83 (j := 7) rfl rfl (jlt hN rfl) [(7, .int (x7_38 + (1 : Int32))), (6, .int (x6_38 + y79_1)), (0, .ref (Λ.2.2.2.1 (35, 0, 0))), (1, .ref (Λ.2.2.2.1 (1, o, 0))), (2, .int x2), (3, .int x3), (4, .int x4_12), (5, .int x5_12)] rfl ?_
          refine sm_goto hG 38 dX3_lackBySets_86 (by decide) ?_
          refine sm_loc [2, 3, 4, 5, 6, 7, 1, 0] [(0, .ref (Λ.2.2.2.1 (35, 0, 0))), (1, .ref (Λ.2.2.2.1 (1, o, 0))), (2, .int x2), (3, .int x3), (4, .int x4_12), (5, .int x5_12), (6, .int (x6_38 + y79_1)), (7, .int (x7_38 + (1 : Int32)))] rfl ?_
          exact hs38 _ _
        · refine sm_iconst (x := (1 : Int32)) hG 75 rfl dX3_lackBySets_74 rfl ?_
          refine sm_goto hG 79 dX3_lackBySets_75 (by decide) ?_
          refine sm_isub hG 80 rfl dX3_lackBySets_79 ?_
          refine sm_nmi (fun y79_2 => ?_)
          refine sm_iadd hG 81 rfl dX3_lackBySets_80 ?_
          refine sm_istore hG 83 rfl dX3_lackBySets_81 (jlt hN rfl) [(6, .int (x6_38 + y79_2)), (0, .ref (Λ.2.2.2.1 (35, 0, 0))), (1, .ref (Λ.2.2.2.1 (1, o, 0))), (2, .int x2), (3, .int x3), (4, .int x4_12), (5, .int x5_12), (7, .int x7_38)] rfl ?_
          refine sm_iinc hG 86 rfl dX3_lackBySets_83 (j := 7) rfl rfl (jlt hN rfl) [(7, .int (x7_38 + (1 : Int32))), (6, .int (x6_38 + y79_2)), (0, .ref (Λ.2.2.2.1 (35, 0, 0))), (1, .ref (Λ.2.2.2.1 (1, o, 0))), (2, .int x2), (3, .int x3), (4, .int x4_12), (5, .int x5_12)] rfl ?_
          refine sm_goto hG 38 dX3_lackBySets_86 (by decide) ?_
          refine sm_loc [2, 3, 4, 5, 6, 7, 1, 0] [(0, .ref (Λ.2.2.2.1 (35, 0, 0))), (1, .ref (Λ.2.2.2.1 (1, o, 0))), (2, .int x2), (3, .int x3), (4, .int x4_12), (5, .int x5_12), (6, .int (x6_38 + y79_2)), (7, .int (x7_38 + (1 : Int32)))] rfl ?_
          exact hs38 _ _
abbrev rmX3_descantToCome : Room := { frames := 4, cells := 0, slots := 0, locals := 97 }
set_option maxRecDepth 100000 in
set_option maxHeartbeats 4000000 in
theorem c_X3_descantToCome {Λ : jL kC} (hC : LC Λ) {o : Nat} {x2 : Int32} (ho : o < 7) {l : Launch} {v : mC} {r : (Int32 × mC)} (hr_ : f_X3_descantToCome o x2 v = some r) : Ct l yX3_descantToCome wsX3_descantToCome rmX3_descantToCome Λ [.ref (Λ.2.2.2.1 (35, 0, 0)), .ref (Λ.2.2.2.1 (1, o, 0)), .int x2] v (some (.int r.1)) r.2 := by
  refine ct_of (cc := cX3_descantToCome) (maxL := 6) (ret := (some .int)) (fun (q : Int32 × mC) => (some (Value.int q.1), q.2)) hC.1 hr_ (by decide) rfl (Nat.le_of_ble_eq_true rfl) (fun Γ hG hT hN hl => ?_)
  subst hl
  have f122 : Cond.fieldLink RX3 122 "ChoirRegister$Roster" "descantsSung" "[I" ∈ wsX3_descantToCome := by decide +kernel
  have f125 : Cond.fieldLink RX3 125 "ChoirRegister$Book" "day" "I" ∈ wsX3_descantToCome := by decide +kernel
  have f24 : Cond.fieldLink RX3 24 "ChoirRegister$Lineup" "descants" "[I" ∈ wsX3_descantToCome := by decide +kernel
  have f33 : Cond.fieldLink RX3 33 "ChoirRegister$Book" "calendar" "LChoirRegister$Calendar;" ∈ wsX3_descantToCome := by decide +kernel
  have f65 : Cond.fieldLink RX3 65 "ChoirRegister$Book" "roster" "LChoirRegister$Roster;" ∈ wsX3_descantToCome := by decide +kernel
  have f91 : Cond.fieldLink RX3 91 "ChoirRegister$Calendar" "day" "[I" ∈ wsX3_descantToCome := by decide +kernel
  have fa1 : Cond.methodLink RX3 43 arraycopyName ∈ wsX3_descantToCome := by decide +kernel
  have fa2 : Cond.native arraycopyName ∈ wsX3_descantToCome := by decide +kernel
  have fa3 : Cond.static arraycopyName ∈ wsX3_descantToCome := by decide +kernel
  have fa4 : Cond.initialized "java/lang/System" ∈ wsX3_descantToCome := by decide +kernel
  have u0 : ∀ w ∈ wsX00, w ∈ wsX3_descantToCome := by decide +kernel
  have u1 : ∀ w ∈ wsX10, w ∈ wsX3_descantToCome := by decide +kernel
  have u3 : ∀ w ∈ wsX30, w ∈ wsX3_descantToCome := by decide +kernel
  have u5 : ∀ w ∈ wsX50, w ∈ wsX3_descantToCome := by decide +kernel
  show Sm Γ Λ (0, 0) 0 [(0, .ref (Λ.2.2.2.1 (35, 0, 0))), (1, .ref (Λ.2.2.2.1 (1, o, 0))), (2, .int x2)] [] v _
  unfold f_X3_descantToCome
  refine sm_aload_n hG 1 rfl dX3_descantToCome_0 rfl 1 rfl ?_
  refine gC1_1 hG hC ho 4 rfl u0 f65 dX3_descantToCome_1 ?_
  refine gC2_11 hG hC ho 7 rfl u5 f122 dX3_descantToCome_4 ?_
  refine sm_iconst (x := (0 : Int32)) hG 8 rfl dX3_descantToCome_7 rfl ?_
  refine sm_aload_n hG 9 rfl dX3_descantToCome_8 rfl 0 rfl ?_
  refine gC35_4 hG hC  12 rfl u3 f24 dX3_descantToCome_9 ?_
  refine sm_iconst (x := (0 : Int32)) hG 13 rfl dX3_descantToCome_12 rfl ?_
  refine sm_bipush (x := (30 : Int32)) hG 15 rfl dX3_descantToCome_13 rfl ?_
  refine cA hG (ic_13 hC ho) (ic_40 hC ) 18 rfl fa1 fa2 fa3 fa4 (by decide) (Nat.le_of_ble_eq_true rfl) dX3_descantToCome_15 ?_
  refine sm_nmv (fun w15_1 => ?_)
  refine sm_aload_n hG 19 rfl dX3_descantToCome_18 rfl 1 rfl ?_
  refine gC1_3 hG hC ho 22 rfl u0 f33 dX3_descantToCome_19 ?_
  refine sm_aload_n hG 23 rfl dX3_descantToCome_22 rfl 1 rfl ?_
  refine gC1_0 hG hC ho 26 rfl u0 f125 dX3_descantToCome_23 ?_
  refine sm_callV hG (fun (q : Int32) => (some (Value.int q), w15_1)) (18, o, 0) [.int (w15_1 (1, o, 0) 0)] 29 rfl (okb hC (by decide) ho) (ce_18 hC _) (ci := 1) rfl (fun r_ hr_ => c_X1_nextAfter hC ho  hr_) gX3_descantToCome_X1_nextAfter rfl (by decide) (by decide) (n := 1) rfl (Nat.le_of_ble_eq_true rfl) (by decide) ⟨Nat.zero_le _, Nat.zero_le _⟩ rfl dX3_descantToCome_26 (fun r_26 => ?_)
  refine sm_istore_n hG 30 rfl dX3_descantToCome_29 rfl (jlt hN rfl) [(3, .int r_26), (0, .ref (Λ.2.2.2.1 (35, 0, 0))), (1, .ref (Λ.2.2.2.1 (1, o, 0))), (2, .int x2)] rfl ?_
  refine sm_iconst (x := (0 : Int32)) hG 31 rfl dX3_descantToCome_30 rfl ?_
  refine sm_istore hG 33 rfl dX3_descantToCome_31 (jlt hN rfl) [(4, .int (0 : Int32)), (3, .int r_26), (0, .ref (Λ.2.2.2.1 (35, 0, 0))), (1, .ref (Λ.2.2.2.1 (1, o, 0))), (2, .int x2)] rfl ?_
  refine sm_loc [2, 3, 4, 1, 0] [(0, .ref (Λ.2.2.2.1 (35, 0, 0))), (1, .ref (Λ.2.2.2.1 (1, o, 0))), (2, .int x2), (3, .int r_26), (4, .int (0 : Int32))] rfl ?_
  refine lp_ind (fun (X33 : Int32 → Int32 → mC → Option (Int32 × mC)) => ∀ (x3_33 : Int32) (x4_33 : Int32) (v_33 : mC), Sm Γ Λ (0, 0) 33 [(0, .ref (Λ.2.2.2.1 (35, 0, 0))), (1, .ref (Λ.2.2.2.1 (1, o, 0))), (2, .int x2), (3, .int x3_33), (4, .int x4_33)] [] v_33 (X33 x3_33 x4_33 v_33)) (fun _ _ _ => sm_none) (fun self33 hs33 x3_33 x4_33 v_33 => ?_) 8192 _ _ _
  refine sm_iload hG 35 rfl dX3_descantToCome_33 4 rfl ?_
  refine sm_bipush (x := (20 : Int32)) hG 37 rfl dX3_descantToCome_35 rfl ?_
  refine sm_icmp_ge hG 113 40 rfl dX3_descantToCome_37 (by decide) ?_ ?_
  · refine sm_iconst (x := (-1 : Int32)) hG 114 rfl dX3_descantToCome_113 rfl ?_
    exact sm_iret hG hT ⟨Nat.zero_le _, Nat.zero_le _⟩ dX3_descantToCome_114 rfl
  · refine sm_iload_n hG 41 rfl dX3_descantToCome_40 rfl 3 rfl ?_
    refine sm_iconst (x := (-1 : Int32)) hG 42 rfl dX3_descantToCome_41 rfl ?_
    refine sm_icmp_eq hG 113 45 rfl dX3_descantToCome_42 (by decide) ?_ ?_
    · refine sm_iconst (x := (-1 : Int32)) hG 114 rfl dX3_descantToCome_113 rfl ?_
      exact sm_iret hG hT ⟨Nat.zero_le _, Nat.zero_le _⟩ dX3_descantToCome_114 rfl
    · refine sm_aload_n hG 46 rfl dX3_descantToCome_45 rfl 0 rfl ?_
      refine sm_aload_n hG 47 rfl dX3_descantToCome_46 rfl 1 rfl ?_
      refine sm_iload_n hG 48 rfl dX3_descantToCome_47 rfl 3 rfl ?_
      refine sm_callV hG (fun (w : mC) => ((none : Option Value), w)) (35, 0, 0) [.ref (Λ.2.2.2.1 (1, o, 0)), .int x3_33] 51 rfl (oks hC (by decide)) (ce_35 hC _) (ci := 3) rfl (fun r_ hr_ => c_X3_make hC ho  hr_) gX3_descantToCome_X3_make rfl (by decide) (by decide) (n := 2) rfl (Nat.le_of_ble_eq_true rfl) (by decide) ⟨Nat.zero_le _, Nat.zero_le _⟩ rfl dX3_descantToCome_48 (fun r_48 => ?_)
      refine sm_aload_n hG 52 rfl dX3_descantToCome_51 rfl 0 rfl ?_
      refine sm_aload_n hG 53 rfl dX3_descantToCome_52 rfl 1 rfl ?_
      refine gC1_1 hG hC ho 56 rfl u0 f65 dX3_descantToCome_53 ?_
      refine sm_aload_n hG 57 rfl dX3_descantToCome_56 rfl 0 rfl ?_
      refine gC35_4 hG hC  60 rfl u3 f24 dX3_descantToCome_57 ?_
      refine sm_callV hG (fun (q : Int32) => (some (Value.int q), r_48)) (35, 0, 0) [.ref (Λ.2.2.2.1 (2, o, 0)), .ref (Λ.2.2.2.1 (40, 0, 0))] 63 rfl (oks hC (by decide)) (ce_35 hC _) (ci := 3) rfl (fun r_ hr_ => c_X3_chooseDescant hC ho (ic_40 hC )  hr_) gX3_descantToCome_X3_chooseDescant rfl (by decide) (by decide) (n := 2) rfl (Nat.le_of_ble_eq_true rfl) (by decide) ⟨Nat.zero_le _, Nat.zero_le _⟩ rfl dX3_descantToCome_60 (fun r_60 => ?_)
      refine sm_istore hG 65 rfl dX3_descantToCome_63 (jlt hN rfl) [(5, .int r_60), (0, .ref (Λ.2.2.2.1 (35, 0, 0))), (1, .ref (Λ.2.2.2.1 (1, o, 0))), (2, .int x2), (3, .int x3_33), (4, .int x4_33)] rfl ?_
      refine sm_iload_n hG 66 rfl dX3_descantToCome_65 rfl 4 rfl ?_
      refine sm_iload_n hG 67 rfl dX3_descantToCome_66 rfl 3 rfl ?_
      refine sm_icmp_ne hG 73 70 rfl dX3_descantToCome_67 (by decide) ?_ ?_
      · refine sm_jn (fun (X90 : mC → Option (Int32 × mC)) => ∀ (v_90 : mC), Sm Γ Λ (0, 0) 90 [(0, .ref (Λ.2.2.2.1 (35, 0, 0))), (1, .ref (Λ.2.2.2.1 (1, o, 0))), (2, .int x2), (3, .int x3_33), (4, .int x4_33)] [] v_90 (X90 v_90)) (fun v_90 => ?_) (fun j90 hj90 => ?_)
        · refine sm_aload_n hG 91 rfl dX3_descantToCome_90 rfl 1 rfl ?_
          refine gC1_3 hG hC ho 94 rfl u0 f33 dX3_descantToCome_91 ?_
          refine sm_aload_n hG 95 rfl dX3_descantToCome_94 rfl 1 rfl ?_
          refine gC1_3 hG hC ho 98 rfl u0 f33 dX3_descantToCome_95 ?_
          refine gC18_1 hG hC ho 101 rfl u1 f91 dX3_descantToCome_98 ?_
          refine sm_iload_n hG 102 rfl dX3_descantToCome_101 rfl 3 rfl ?_
          refine lC19 hG hC ho 103 rfl dX3_descantToCome_102 ?_
          refine sm_callV hG (fun (q : Int32) => (some (Value.int q), v_90)) (18, o, 0) [.int (v_90 (19, o, 0) (ix x3_33))] 106 rfl (okb hC (by decide) ho) (ce_18 hC _) (ci := 1) rfl (fun r_ hr_ => c_X1_nextAfter hC ho  hr_) gX3_descantToCome_X1_nextAfter rfl (by decide) (by decide) (n := 1) rfl (Nat.le_of_ble_eq_true rfl) (by decide) ⟨Nat.zero_le _, Nat.zero_le _⟩ rfl dX3_descantToCome_103 (fun r_103 => ?_)
          refine sm_istore_n hG 107 rfl dX3_descantToCome_106 rfl (jlt hN rfl) [(3, .int r_103), (0, .ref (Λ.2.2.2.1 (35, 0, 0))), (1, .ref (Λ.2.2.2.1 (1, o, 0))), (2, .int x2), (4, .int x4_33)] rfl ?_
          refine sm_iinc hG 110 rfl dX3_descantToCome_107 (j := 4) rfl rfl (jlt hN rfl) [(4, .int (x4_33 + (1 : Int32))), (3, .int r_103), (0, .ref (Λ.2.2.2.1 (35, 0, 0))), (1, .ref (Λ.2.2.2.1 (1, o, 0))), (2, .int x2)] rfl ?_
          refine sm_goto hG 33 dX3_descantToCome_110 (by decide) ?_
          refine sm_loc [2, 3, 4, 1, 0] [(0, .ref (Λ.2.2.2.1 (35, 0, 0))), (1, .ref (Λ.2.2.2.1 (1, o, 0))), (2, .int x2), (3, .int r_103), (4, .int (x4_33 + (1 : Int32)))] rfl ?_
          exact hs33 _ _ _
        · refine sm_iload hG 75 rfl dX3_descantToCome_73 0 rfl ?_
          refine sm_iconst (x := (-1 : Int32)) hG 76 rfl dX3_descantToCome_75 rfl ?_
          refine sm_icmp_eq hG 90 79 rfl dX3_descantToCome_76 (by decide) ?_ ?_
          · refine sm_loc [1, 2, 3, 4, 5] [(0, .ref (Λ.2.2.2.1 (35, 0, 0))), (1, .ref (Λ.2.2.2.1 (1, o, 0))), (2, .int x2), (3, .int x3_33), (4, .int x4_33)] rfl ?_
            exact hj90 _
          · refine sm_aload_n hG 80 rfl dX3_descantToCome_79 rfl 1 rfl ?_
            refine gC35_4 hG hC  83 rfl u3 f24 dX3_descantToCome_80 ?_
            refine sm_iload hG 85 rfl dX3_descantToCome_83 0 rfl ?_
            refine sm_dup2 hG 86 rfl dX3_descantToCome_85 rfl rfl ?_
            refine lC40 hG hC  87 rfl dX3_descantToCome_86 ?_
            refine sm_iconst (x := (1 : Int32)) hG 88 rfl dX3_descantToCome_87 rfl ?_
            refine sm_iadd hG 89 rfl dX3_descantToCome_88 ?_
            refine sC40 hG hC  90 rfl dX3_descantToCome_89 ?_
            refine sm_nmv (fun w89_2 => ?_)
            refine sm_loc [1, 2, 3, 4, 5] [(0, .ref (Λ.2.2.2.1 (35, 0, 0))), (1, .ref (Λ.2.2.2.1 (1, o, 0))), (2, .int x2), (3, .int x3_33), (4, .int x4_33)] rfl ?_
            exact hj90 _
      · refine sm_iload hG 72 rfl dX3_descantToCome_70 0 rfl ?_
        exact sm_iret hG hT ⟨Nat.zero_le _, Nat.zero_le _⟩ dX3_descantToCome_72 rfl
abbrev rmX5_sitsBefore : Room := { frames := 0, cells := 0, slots := 0, locals := 0 }
set_option maxRecDepth 100000 in
set_option maxHeartbeats 4000000 in
theorem c_X5_sitsBefore {Λ : jL kC} (hC : LC Λ) {o : Nat} {x1 : Int32} {x2 : Int32} (ho : o < 7) {l : Launch} {v : mC} {r : Int32} (hr_ : f_X5_sitsBefore o x1 x2 v = some r) : Ct l yX5_sitsBefore wsX5_sitsBefore rmX5_sitsBefore Λ [.ref (Λ.2.2.2.1 (2, o, 0)), .int x1, .int x2] v (some (.int r)) v := by
  refine ct_of (cc := cX5_sitsBefore) (maxL := 3) (ret := (some .boolean)) (fun (q : Int32) => (some (Value.int q), v)) hC.1 hr_ (by decide) rfl (Nat.le_of_ble_eq_true rfl) (fun Γ hG hT hN hl => ?_)
  subst hl
  have f15 : Cond.fieldLink RX5 15 "ChoirRegister$Roster" "height" "[I" ∈ wsX5_sitsBefore := by decide +kernel
  have u5 : ∀ w ∈ wsX50, w ∈ wsX5_sitsBefore := by decide +kernel
  show Sm Γ Λ (0, 0) 0 [(0, .ref (Λ.2.2.2.1 (2, o, 0))), (1, .int x1), (2, .int x2)] [] v _
  unfold f_X5_sitsBefore
  refine sm_aload_n hG 1 rfl dX5_sitsBefore_0 rfl 0 rfl ?_
  refine gC2_1 hG hC ho 4 rfl u5 f15 dX5_sitsBefore_1 ?_
  refine sm_iload_n hG 5 rfl dX5_sitsBefore_4 rfl 1 rfl ?_
  refine lC3 hG hC ho 6 rfl dX5_sitsBefore_5 ?_
  refine sm_aload_n hG 7 rfl dX5_sitsBefore_6 rfl 0 rfl ?_
  refine gC2_1 hG hC ho 10 rfl u5 f15 dX5_sitsBefore_7 ?_
  refine sm_iload_n hG 11 rfl dX5_sitsBefore_10 rfl 2 rfl ?_
  refine lC3 hG hC ho 12 rfl dX5_sitsBefore_11 ?_
  refine sm_icmp_lt hG 35 15 rfl dX5_sitsBefore_12 (by decide) ?_ ?_
  · refine sm_iconst (x := (1 : Int32)) hG 36 rfl dX5_sitsBefore_35 rfl ?_
    refine sm_goto hG 40 dX5_sitsBefore_36 (by decide) ?_
    exact sm_bret hG hT ⟨Nat.zero_le _, Nat.zero_le _⟩ dX5_sitsBefore_40 rfl
  · refine sm_aload_n hG 16 rfl dX5_sitsBefore_15 rfl 0 rfl ?_
    refine gC2_1 hG hC ho 19 rfl u5 f15 dX5_sitsBefore_16 ?_
    refine sm_iload_n hG 20 rfl dX5_sitsBefore_19 rfl 1 rfl ?_
    refine lC3 hG hC ho 21 rfl dX5_sitsBefore_20 ?_
    refine sm_aload_n hG 22 rfl dX5_sitsBefore_21 rfl 0 rfl ?_
    refine gC2_1 hG hC ho 25 rfl u5 f15 dX5_sitsBefore_22 ?_
    refine sm_iload_n hG 26 rfl dX5_sitsBefore_25 rfl 2 rfl ?_
    refine lC3 hG hC ho 27 rfl dX5_sitsBefore_26 ?_
    refine sm_icmp_ne hG 39 30 rfl dX5_sitsBefore_27 (by decide) ?_ ?_
    · refine sm_iconst (x := (0 : Int32)) hG 40 rfl dX5_sitsBefore_39 rfl ?_
      exact sm_bret hG hT ⟨Nat.zero_le _, Nat.zero_le _⟩ dX5_sitsBefore_40 rfl
    · refine sm_iload_n hG 31 rfl dX5_sitsBefore_30 rfl 1 rfl ?_
      refine sm_iload_n hG 32 rfl dX5_sitsBefore_31 rfl 2 rfl ?_
      refine sm_icmp_ge hG 39 35 rfl dX5_sitsBefore_32 (by decide) ?_ ?_
      · refine sm_iconst (x := (0 : Int32)) hG 40 rfl dX5_sitsBefore_39 rfl ?_
        exact sm_bret hG hT ⟨Nat.zero_le _, Nat.zero_le _⟩ dX5_sitsBefore_40 rfl
      · refine sm_iconst (x := (1 : Int32)) hG 36 rfl dX5_sitsBefore_35 rfl ?_
        refine sm_goto hG 40 dX5_sitsBefore_36 (by decide) ?_
        exact sm_bret hG hT ⟨Nat.zero_le _, Nat.zero_le _⟩ dX5_sitsBefore_40 rfl
abbrev rmX3_rankByHeight : Room := { frames := 1, cells := 0, slots := 0, locals := 22 }
set_option maxRecDepth 100000 in
set_option maxHeartbeats 4000000 in
theorem c_X3_rankByHeight {Λ : jL kC} (hC : LC Λ) {o : Nat} {x2 : Int32} (ho : o < 7) {l : Launch} {v : mC} {r : Int32} (hr_ : f_X3_rankByHeight o x2 v = some r) : Ct l yX3_rankByHeight wsX3_rankByHeight rmX3_rankByHeight Λ [.ref (Λ.2.2.2.1 (35, 0, 0)), .ref (Λ.2.2.2.1 (2, o, 0)), .int x2] v (some (.int r)) v := by
  refine ct_of (cc := cX3_rankByHeight) (maxL := 5) (ret := (some .int)) (fun (q : Int32) => (some (Value.int q), v)) hC.1 hr_ (by decide) rfl (Nat.le_of_ble_eq_true rfl) (fun Γ hG hT hN hl => ?_)
  subst hl
  have f69 : Cond.fieldLink RX3 69 "ChoirRegister$Roster" "count" "I" ∈ wsX3_rankByHeight := by decide +kernel
  have f9 : Cond.fieldLink RX3 9 "ChoirRegister$Lineup" "lines" "[I" ∈ wsX3_rankByHeight := by decide +kernel
  have u3 : ∀ w ∈ wsX30, w ∈ wsX3_rankByHeight := by decide +kernel
  have u5 : ∀ w ∈ wsX50, w ∈ wsX3_rankByHeight := by decide +kernel
  show Sm Γ Λ (0, 0) 0 [(0, .ref (Λ.2.2.2.1 (35, 0, 0))), (1, .ref (Λ.2.2.2.1 (2, o, 0))), (2, .int x2)] [] v _
  unfold f_X3_rankByHeight
  refine sm_aload_n hG 1 rfl dX3_rankByHeight_0 rfl 0 rfl ?_
  refine gC35_0 hG hC  4 rfl u3 f9 dX3_rankByHeight_1 ?_
  refine sm_iload_n hG 5 rfl dX3_rankByHeight_4 rfl 2 rfl ?_
  refine lC36 hG hC  6 rfl dX3_rankByHeight_5 ?_
  refine sm_iconst (x := (-1 : Int32)) hG 7 rfl dX3_rankByHeight_6 rfl ?_
  refine sm_icmp_ne hG 12 10 rfl dX3_rankByHeight_7 (by decide) ?_ ?_
  · refine sm_iconst (x := (0 : Int32)) hG 13 rfl dX3_rankByHeight_12 rfl ?_
    refine sm_istore_n hG 14 rfl dX3_rankByHeight_13 rfl (jlt hN rfl) [(3, .int (0 : Int32)), (0, .ref (Λ.2.2.2.1 (35, 0, 0))), (1, .ref (Λ.2.2.2.1 (2, o, 0))), (2, .int x2)] rfl ?_
    refine sm_iconst (x := (0 : Int32)) hG 15 rfl dX3_rankByHeight_14 rfl ?_
    refine sm_istore hG 17 rfl dX3_rankByHeight_15 (jlt hN rfl) [(4, .int (0 : Int32)), (3, .int (0 : Int32)), (0, .ref (Λ.2.2.2.1 (35, 0, 0))), (1, .ref (Λ.2.2.2.1 (2, o, 0))), (2, .int x2)] rfl ?_
    refine sm_loc [2, 3, 4, 1, 0] [(0, .ref (Λ.2.2.2.1 (35, 0, 0))), (1, .ref (Λ.2.2.2.1 (2, o, 0))), (2, .int x2), (3, .int (0 : Int32)), (4, .int (0 : Int32))] rfl ?_
    refine lp_ind (fun (X17 : Int32 → Int32 → Option Int32) => ∀ (x3_17 : Int32) (x4_17 : Int32), Sm Γ Λ (0, 0) 17 [(0, .ref (Λ.2.2.2.1 (35, 0, 0))), (1, .ref (Λ.2.2.2.1 (2, o, 0))), (2, .int x2), (3, .int x3_17), (4, .int x4_17)] [] v (X17 x3_17 x4_17)) (fun _ _ => sm_none) (fun self17 hs17 x3_17 x4_17 => ?_) 8192 _ _
    refine sm_iload hG 19 rfl dX3_rankByHeight_17 4 rfl ?_
    refine sm_aload_n hG 20 rfl dX3_rankByHeight_19 rfl 1 rfl ?_
    refine gC2_0 hG hC ho 23 rfl u5 f69 dX3_rankByHeight_20 ?_
    refine sm_icmp_ge hG 61 26 rfl dX3_rankByHeight_23 (by decide) ?_ ?_
    · refine sm_iload_n hG 62 rfl dX3_rankByHeight_61 rfl 3 rfl ?_
      exact sm_iret hG hT ⟨Nat.zero_le _, Nat.zero_le _⟩ dX3_rankByHeight_62 rfl
    · refine sm_aload_n hG 27 rfl dX3_rankByHeight_26 rfl 0 rfl ?_
      refine gC35_0 hG hC  30 rfl u3 f9 dX3_rankByHeight_27 ?_
      refine sm_iload hG 32 rfl dX3_rankByHeight_30 4 rfl ?_
      refine lC36 hG hC  33 rfl dX3_rankByHeight_32 ?_
      refine sm_aload_n hG 34 rfl dX3_rankByHeight_33 rfl 0 rfl ?_
      refine gC35_0 hG hC  37 rfl u3 f9 dX3_rankByHeight_34 ?_
      refine sm_iload_n hG 38 rfl dX3_rankByHeight_37 rfl 2 rfl ?_
      refine lC36 hG hC  39 rfl dX3_rankByHeight_38 ?_
      refine sm_icmp_ne hG 55 42 rfl dX3_rankByHeight_39 (by decide) ?_ ?_
      · refine sm_iinc hG 58 rfl dX3_rankByHeight_55 (j := 4) rfl rfl (jlt hN rfl) [(4, .int (x4_17 + (1 : Int32))), (0, .ref (Λ.2.2.2.1 (35, 0, 0))), (1, .ref (Λ.2.2.2.1 (2, o, 0))), (2, .int x2), (3, .int x3_17)] rfl ?_
        refine sm_goto hG 17 dX3_rankByHeight_58 (by decide) ?_
        refine sm_loc [1, 2, 3, 4, 0] [(0, .ref (Λ.2.2.2.1 (35, 0, 0))), (1, .ref (Λ.2.2.2.1 (2, o, 0))), (2, .int x2), (3, .int x3_17), (4, .int (x4_17 + (1 : Int32)))] rfl ?_
        exact hs17 _ _
      · refine sm_aload_n hG 43 rfl dX3_rankByHeight_42 rfl 1 rfl ?_
        refine sm_iload hG 45 rfl dX3_rankByHeight_43 4 rfl ?_
        refine sm_iload_n hG 46 rfl dX3_rankByHeight_45 rfl 2 rfl ?_
        refine sm_callV hG (fun (q : Int32) => (some (Value.int q), v)) (2, o, 0) [.int x4_17, .int x2] 49 rfl (okb hC (by decide) ho) (ce_2 hC _) (ci := 5) rfl (fun r_ hr_ => c_X5_sitsBefore hC ho  hr_) gX3_rankByHeight_X5_sitsBefore rfl (by decide) (by decide) (n := 2) rfl (Nat.le_of_ble_eq_true rfl) (by decide) ⟨Nat.zero_le _, Nat.zero_le _⟩ rfl dX3_rankByHeight_46 (fun r_46 => ?_)
        refine sm_if_eq hG 55 52 rfl dX3_rankByHeight_49 (by decide) ?_ ?_
        · refine sm_iinc hG 58 rfl dX3_rankByHeight_55 (j := 4) rfl rfl (jlt hN rfl) [(4, .int (x4_17 + (1 : Int32))), (0, .ref (Λ.2.2.2.1 (35, 0, 0))), (1, .ref (Λ.2.2.2.1 (2, o, 0))), (2, .int x2), (3, .int x3_17)] rfl ?_
          refine sm_goto hG 17 dX3_rankByHeight_58 (by decide) ?_
          refine sm_loc [1, 2, 3, 4, 0] [(0, .ref (Λ.2.2.2.1 (35, 0, 0))), (1, .ref (Λ.2.2.2.1 (2, o, 0))), (2, .int x2), (3, .int x3_17), (4, .int (x4_17 + (1 : Int32)))] rfl ?_
          exact hs17 _ _
        · refine sm_iinc hG 55 rfl dX3_rankByHeight_52 (j := 3) rfl rfl (jlt hN rfl) [(3, .int (x3_17 + (1 : Int32))), (0, .ref (Λ.2.2.2.1 (35, 0, 0))), (1, .ref (Λ.2.2.2.1 (2, o, 0))), (2, .int x2), (4, .int x4_17)] rfl ?_
          refine sm_iinc hG 58 rfl dX3_rankByHeight_55 (j := 4) rfl rfl (jlt hN rfl) [(4, .int (x4_17 + (1 : Int32))), (3, .int (x3_17 + (1 : Int32))), (0, .ref (Λ.2.2.2.1 (35, 0, 0))), (1, .ref (Λ.2.2.2.1 (2, o, 0))), (2, .int x2)] rfl ?_
          refine sm_goto hG 17 dX3_rankByHeight_58 (by decide) ?_
          refine sm_loc [2, 3, 4, 1, 0] [(0, .ref (Λ.2.2.2.1 (35, 0, 0))), (1, .ref (Λ.2.2.2.1 (2, o, 0))), (2, .int x2), (3, .int (x3_17 + (1 : Int32))), (4, .int (x4_17 + (1 : Int32)))] rfl ?_
          exact hs17 _ _
  · refine sm_iconst (x := (-1 : Int32)) hG 11 rfl dX3_rankByHeight_10 rfl ?_
    exact sm_iret hG hT ⟨Nat.zero_le _, Nat.zero_le _⟩ dX3_rankByHeight_11 rfl
abbrev rmX6_firstShortFeast : Room := { frames := 4, cells := 0, slots := 0, locals := 99 }
set_option maxRecDepth 100000 in
set_option maxHeartbeats 4000000 in
theorem c_X6_firstShortFeast {Λ : jL kC} (hC : LC Λ)   {l : Launch} {v : mC} {r : (Int32 × mC)} (hr_ : f_X6_firstShortFeast v = some r) : Ct l yX6_firstShortFeast wsX6_firstShortFeast rmX6_firstShortFeast Λ [.ref (Λ.2.2.2.1 (0, 0, 0))] v (some (.int r.1)) r.2 := by
  refine ct_of (cc := cX6_firstShortFeast) (maxL := 3) (ret := (some .int)) (fun (q : Int32 × mC) => (some (Value.int q.1), q.2)) hC.1 hr_ (by decide) rfl (Nat.le_of_ble_eq_true rfl) (fun Γ hG hT hN hl => ?_)
  subst hl
  have f10 : Cond.fieldLink RX6 10 "ChoirRegister" "book" "LChoirRegister$Book;" ∈ wsX6_firstShortFeast := by decide +kernel
  have f134 : Cond.fieldLink RX6 134 "ChoirRegister$Book" "day" "I" ∈ wsX6_firstShortFeast := by decide +kernel
  have f200 : Cond.fieldLink RX6 200 "ChoirRegister$Book" "calendar" "LChoirRegister$Calendar;" ∈ wsX6_firstShortFeast := by decide +kernel
  have f210 : Cond.fieldLink RX6 210 "ChoirRegister$Calendar" "day" "[I" ∈ wsX6_firstShortFeast := by decide +kernel
  have f44 : Cond.fieldLink RX6 44 "ChoirRegister" "lineup" "LChoirRegister$Lineup;" ∈ wsX6_firstShortFeast := by decide +kernel
  have u0 : ∀ w ∈ wsX00, w ∈ wsX6_firstShortFeast := by decide +kernel
  have u1 : ∀ w ∈ wsX10, w ∈ wsX6_firstShortFeast := by decide +kernel
  have u6 : ∀ w ∈ wsX60, w ∈ wsX6_firstShortFeast := by decide +kernel
  show Sm Γ Λ (0, 0) 0 [(0, .ref (Λ.2.2.2.1 (0, 0, 0)))] [] v _
  unfold f_X6_firstShortFeast
  refine sm_aload_n hG 1 rfl dX6_firstShortFeast_0 rfl 0 rfl ?_
  refine gC0_0 hG hC  4 rfl u6 f10 dX6_firstShortFeast_1 ?_
  refine gC1_3 hG hC (by decide) 7 rfl u0 f200 dX6_firstShortFeast_4 ?_
  refine sm_aload_n hG 8 rfl dX6_firstShortFeast_7 rfl 0 rfl ?_
  refine gC0_0 hG hC  11 rfl u6 f10 dX6_firstShortFeast_8 ?_
  refine gC1_0 hG hC (by decide) 14 rfl u0 f134 dX6_firstShortFeast_11 ?_
  refine sm_callV hG (fun (q : Int32) => (some (Value.int q), v)) (18, 0, 0) [.int (v (1, 0, 0) 0)] 17 rfl (okb hC (by decide) (by decide)) (ce_18 hC _) (ci := 1) rfl (fun r_ hr_ => c_X1_nextAfter hC (by decide)  hr_) gX6_firstShortFeast_X1_nextAfter rfl (by decide) (by decide) (n := 1) rfl (Nat.le_of_ble_eq_true rfl) (by decide) ⟨Nat.zero_le _, Nat.zero_le _⟩ rfl dX6_firstShortFeast_14 (fun r_14 => ?_)
  refine sm_istore_n hG 18 rfl dX6_firstShortFeast_17 rfl (jlt hN rfl) [(1, .int r_14), (0, .ref (Λ.2.2.2.1 (0, 0, 0)))] rfl ?_
  refine sm_iconst (x := (0 : Int32)) hG 19 rfl dX6_firstShortFeast_18 rfl ?_
  refine sm_istore_n hG 20 rfl dX6_firstShortFeast_19 rfl (jlt hN rfl) [(2, .int (0 : Int32)), (1, .int r_14), (0, .ref (Λ.2.2.2.1 (0, 0, 0)))] rfl ?_
  refine sm_loc [2, 1, 0] [(0, .ref (Λ.2.2.2.1 (0, 0, 0))), (1, .int r_14), (2, .int (0 : Int32))] rfl ?_
  refine lp_ind (fun (X20 : Int32 → Int32 → mC → Option (Int32 × mC)) => ∀ (x1_20 : Int32) (x2_20 : Int32) (v_20 : mC), Sm Γ Λ (0, 0) 20 [(0, .ref (Λ.2.2.2.1 (0, 0, 0))), (1, .int x1_20), (2, .int x2_20)] [] v_20 (X20 x1_20 x2_20 v_20)) (fun _ _ _ => sm_none) (fun self20 hs20 x1_20 x2_20 v_20 => ?_) 8192 _ _ _
  refine sm_iload_n hG 21 rfl dX6_firstShortFeast_20 rfl 2 rfl ?_
  refine sm_bipush (x := (20 : Int32)) hG 23 rfl dX6_firstShortFeast_21 rfl ?_
  refine sm_icmp_ge hG 78 26 rfl dX6_firstShortFeast_23 (by decide) ?_ ?_
  · refine sm_iconst (x := (-1 : Int32)) hG 79 rfl dX6_firstShortFeast_78 rfl ?_
    exact sm_iret hG hT ⟨Nat.zero_le _, Nat.zero_le _⟩ dX6_firstShortFeast_79 rfl
  · refine sm_iload_n hG 27 rfl dX6_firstShortFeast_26 rfl 1 rfl ?_
    refine sm_iconst (x := (-1 : Int32)) hG 28 rfl dX6_firstShortFeast_27 rfl ?_
    refine sm_icmp_eq hG 78 31 rfl dX6_firstShortFeast_28 (by decide) ?_ ?_
    · refine sm_iconst (x := (-1 : Int32)) hG 79 rfl dX6_firstShortFeast_78 rfl ?_
      exact sm_iret hG hT ⟨Nat.zero_le _, Nat.zero_le _⟩ dX6_firstShortFeast_79 rfl
    · refine sm_aload_n hG 32 rfl dX6_firstShortFeast_31 rfl 0 rfl ?_
      refine gC0_7 hG hC  35 rfl u6 f44 dX6_firstShortFeast_32 ?_
      refine sm_aload_n hG 36 rfl dX6_firstShortFeast_35 rfl 0 rfl ?_
      refine gC0_0 hG hC  39 rfl u6 f10 dX6_firstShortFeast_36 ?_
      refine sm_iload_n hG 40 rfl dX6_firstShortFeast_39 rfl 1 rfl ?_
      refine sm_iconst (x := (-1 : Int32)) hG 41 rfl dX6_firstShortFeast_40 rfl ?_
      refine sm_callV hG (fun (q : Int32 × mC) => (some (Value.int q.1), q.2)) (35, 0, 0) [.ref (Λ.2.2.2.1 (1, 0, 0)), .int x1_20, .int (-1 : Int32)] 44 rfl (oks hC (by decide)) (ce_35 hC _) (ci := 3) rfl (fun r_ hr_ => c_X3_lackBySets hC (by decide)  hr_) gX6_firstShortFeast_X3_lackBySets rfl (by decide) (by decide) (n := 3) rfl (Nat.le_of_ble_eq_true rfl) (by decide) ⟨Nat.zero_le _, Nat.zero_le _⟩ rfl dX6_firstShortFeast_41 (fun r_41 => ?_)
      refine sm_if_le hG 49 47 rfl dX6_firstShortFeast_44 (by decide) ?_ ?_
      · refine sm_aload_n hG 50 rfl dX6_firstShortFeast_49 rfl 0 rfl ?_
        refine gC0_0 hG hC  53 rfl u6 f10 dX6_firstShortFeast_50 ?_
        refine gC1_3 hG hC (by decide) 56 rfl u0 f200 dX6_firstShortFeast_53 ?_
        refine sm_aload_n hG 57 rfl dX6_firstShortFeast_56 rfl 0 rfl ?_
        refine gC0_0 hG hC  60 rfl u6 f10 dX6_firstShortFeast_57 ?_
        refine gC1_3 hG hC (by decide) 63 rfl u0 f200 dX6_firstShortFeast_60 ?_
        refine gC18_1 hG hC (by decide) 66 rfl u1 f210 dX6_firstShortFeast_63 ?_
        refine sm_iload_n hG 67 rfl dX6_firstShortFeast_66 rfl 1 rfl ?_
        refine lC19 hG hC (by decide) 68 rfl dX6_firstShortFeast_67 ?_
        refine sm_callV hG (fun (q : Int32) => (some (Value.int q), r_41.2)) (18, 0, 0) [.int (r_41.2 (19, 0, 0) (ix x1_20))] 71 rfl (okb hC (by decide) (by decide)) (ce_18 hC _) (ci := 1) rfl (fun r_ hr_ => c_X1_nextAfter hC (by decide)  hr_) gX6_firstShortFeast_X1_nextAfter rfl (by decide) (by decide) (n := 1) rfl (Nat.le_of_ble_eq_true rfl) (by decide) ⟨Nat.zero_le _, Nat.zero_le _⟩ rfl dX6_firstShortFeast_68 (fun r_68 => ?_)
        refine sm_istore_n hG 72 rfl dX6_firstShortFeast_71 rfl (jlt hN rfl) [(1, .int r_68), (0, .ref (Λ.2.2.2.1 (0, 0, 0))), (2, .int x2_20)] rfl ?_
        refine sm_iinc hG 75 rfl dX6_firstShortFeast_72 (j := 2) rfl rfl (jlt hN rfl) [(2, .int (x2_20 + (1 : Int32))), (1, .int r_68), (0, .ref (Λ.2.2.2.1 (0, 0, 0)))] rfl ?_
        refine sm_goto hG 20 dX6_firstShortFeast_75 (by decide) ?_
        refine sm_loc [2, 1, 0] [(0, .ref (Λ.2.2.2.1 (0, 0, 0))), (1, .int r_68), (2, .int (x2_20 + (1 : Int32)))] rfl ?_
        exact hs20 _ _ _
      · refine sm_iload_n hG 48 rfl dX6_firstShortFeast_47 rfl 1 rfl ?_
        exact sm_iret hG hT ⟨Nat.zero_le _, Nat.zero_le _⟩ dX6_firstShortFeast_48 rfl
abbrev rmX6_purse : Room := { frames := 0, cells := 0, slots := 0, locals := 0 }
set_option maxRecDepth 100000 in
set_option maxHeartbeats 4000000 in
theorem c_X6_purse {Λ : jL kC} (hC : LC Λ)   {l : Launch} {v : mC} {r : Int32} (hr_ : f_X6_purse v = some r) : Ct l yX6_purse wsX6_purse rmX6_purse Λ [.ref (Λ.2.2.2.1 (0, 0, 0))] v (some (.int r)) v := by
  refine ct_of (cc := cX6_purse) (maxL := 1) (ret := (some .int)) (fun (q : Int32) => (some (Value.int q), v)) hC.1 hr_ (by decide) rfl (Nat.le_of_ble_eq_true rfl) (fun Γ hG hT hN hl => ?_)
  subst hl
  have f10 : Cond.fieldLink RX6 10 "ChoirRegister" "book" "LChoirRegister$Book;" ∈ wsX6_purse := by decide +kernel
  have f266 : Cond.fieldLink RX6 266 "ChoirRegister$Book" "purse" "I" ∈ wsX6_purse := by decide +kernel
  have u0 : ∀ w ∈ wsX00, w ∈ wsX6_purse := by decide +kernel
  have u6 : ∀ w ∈ wsX60, w ∈ wsX6_purse := by decide +kernel
  show Sm Γ Λ (0, 0) 0 [(0, .ref (Λ.2.2.2.1 (0, 0, 0)))] [] v _
  unfold f_X6_purse
  refine sm_aload_n hG 1 rfl dX6_purse_0 rfl 0 rfl ?_
  refine gC0_0 hG hC  4 rfl u6 f10 dX6_purse_1 ?_
  refine gC1_5 hG hC (by decide) 7 rfl u0 f266 dX6_purse_4 ?_
  exact sm_iret hG hT ⟨Nat.zero_le _, Nat.zero_le _⟩ dX6_purse_7 rfl
