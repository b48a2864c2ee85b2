/-! printed by wip/whole/jgen.py out of the bytecode: the walks -/
abbrev rmX6_isWithin : Room := { frames := 0, cells := 0, slots := 0, locals := 0 }
set_option maxRecDepth 100000 in
set_option maxHeartbeats 4000000 in
theorem c_X6_isWithin {Λ : jL kC} (hC : LC Λ) {x0 : Int32} {x1 : Int32} {x2 : Int32}  {l : Launch} {v : mC} {r : Int32} (hr_ : f_X6_isWithin x0 x1 x2 v = some r) : Ct l yX6_isWithin wsX6_isWithin rmX6_isWithin Λ [.int x0, .int x1, .int x2] v (some (.int r)) v := by
  refine ct_of (cc := cX6_isWithin) (maxL := 3) (ret := (some .boolean)) (fun (q : Int32) => (some (Value.int q), v)) hC.1 hr_ (by decide) rfl (Nat.le_of_ble_eq_true rfl) (fun Γ hG hT hN hl => ?_)
  subst hl
  show Sm Γ Λ (0, 0) 0 [(0, .int x0), (1, .int x1), (2, .int x2)] [] v _
  unfold f_X6_isWithin
  refine sm_iload_n hG 1 rfl dX6_isWithin_0 rfl 0 rfl ?_
  refine sm_iload_n hG 2 rfl dX6_isWithin_1 rfl 1 rfl ?_
  refine sm_icmp_lt hG 14 5 rfl dX6_isWithin_2 (by decide) ?_ ?_
  · refine sm_iconst (x := (0 : Int32)) hG 15 rfl dX6_isWithin_14 rfl ?_
    exact sm_bret hG hT ⟨Nat.zero_le _, Nat.zero_le _⟩ dX6_isWithin_15 rfl
  · refine sm_iload_n hG 6 rfl dX6_isWithin_5 rfl 0 rfl ?_
    refine sm_iload_n hG 7 rfl dX6_isWithin_6 rfl 2 rfl ?_
    refine sm_icmp_gt hG 14 10 rfl dX6_isWithin_7 (by decide) ?_ ?_
    · refine sm_iconst (x := (0 : Int32)) hG 15 rfl dX6_isWithin_14 rfl ?_
      exact sm_bret hG hT ⟨Nat.zero_le _, Nat.zero_le _⟩ dX6_isWithin_15 rfl
    · refine sm_iconst (x := (1 : Int32)) hG 11 rfl dX6_isWithin_10 rfl ?_
      refine sm_goto hG 15 dX6_isWithin_11 (by decide) ?_
      exact sm_bret hG hT ⟨Nat.zero_le _, Nat.zero_le _⟩ dX6_isWithin_15 rfl
abbrev rmX6_isRange : Room := { frames := 1, cells := 0, slots := 0, locals := 22 }
set_option maxRecDepth 100000 in
set_option maxHeartbeats 4000000 in
theorem c_X6_isRange {Λ : jL kC} (hC : LC Λ) {x0 : Int32} {x1 : Int32}  {l : Launch} {v : mC} {r : Int32} (hr_ : f_X6_isRange x0 x1 v = some r) : Ct l yX6_isRange wsX6_isRange rmX6_isRange Λ [.int x0, .int x1] v (some (.int r)) v := by
  refine ct_of (cc := cX6_isRange) (maxL := 2) (ret := (some .boolean)) (fun (q : Int32) => (some (Value.int q), v)) hC.1 hr_ (by decide) rfl (Nat.le_of_ble_eq_true rfl) (fun Γ hG hT hN hl => ?_)
  subst hl
  show Sm Γ Λ (0, 0) 0 [(0, .int x0), (1, .int x1)] [] v _
  unfold f_X6_isRange
  refine sm_iload_n hG 1 rfl dX6_isRange_0 rfl 0 rfl ?_
  refine sm_iconst (x := (0 : Int32)) hG 2 rfl dX6_isRange_1 rfl ?_
  refine sm_bipush (x := (48 : Int32)) hG 4 rfl dX6_isRange_2 rfl ?_
  refine sm_callS hG (fun (q : Int32) => (some (Value.int q), v)) [.int x0, .int (0 : Int32), .int (48 : Int32)] 7 rfl (fun r_ hr_ => c_X6_isWithin hC   hr_) gX6_isRange_X6_isWithin rfl (by decide) (by decide) (n := 3) rfl (Nat.le_of_ble_eq_true rfl) (by decide) ⟨Nat.zero_le _, Nat.zero_le _⟩ rfl dX6_isRange_4 (fun r_4 => ?_)
  refine sm_if_eq hG 24 10 rfl dX6_isRange_7 (by decide) ?_ ?_
  · refine sm_iconst (x := (0 : Int32)) hG 25 rfl dX6_isRange_24 rfl ?_
    exact sm_bret hG hT ⟨Nat.zero_le _, Nat.zero_le _⟩ dX6_isRange_25 rfl
  · refine sm_iload_n hG 11 rfl dX6_isRange_10 rfl 1 rfl ?_
    refine sm_iload_n hG 12 rfl dX6_isRange_11 rfl 0 rfl ?_
    refine sm_bipush (x := (48 : Int32)) hG 14 rfl dX6_isRange_12 rfl ?_
    refine sm_callS hG (fun (q : Int32) => (some (Value.int q), v)) [.int x1, .int x0, .int (48 : Int32)] 17 rfl (fun r_ hr_ => c_X6_isWithin hC   hr_) gX6_isRange_X6_isWithin rfl (by decide) (by decide) (n := 3) rfl (Nat.le_of_ble_eq_true rfl) (by decide) ⟨Nat.zero_le _, Nat.zero_le _⟩ rfl dX6_isRange_14 (fun r_14 => ?_)
    refine sm_if_eq hG 24 20 rfl dX6_isRange_17 (by decide) ?_ ?_
    · refine sm_iconst (x := (0 : Int32)) hG 25 rfl dX6_isRange_24 rfl ?_
      exact sm_bret hG hT ⟨Nat.zero_le _, Nat.zero_le _⟩ dX6_isRange_25 rfl
    · refine sm_iconst (x := (1 : Int32)) hG 21 rfl dX6_isRange_20 rfl ?_
      refine sm_goto hG 25 dX6_isRange_21 (by decide) ?_
      exact sm_bret hG hT ⟨Nat.zero_le _, Nat.zero_le _⟩ dX6_isRange_25 rfl
abbrev rmX6_isHeightAndRange : Room := { frames := 2, cells := 0, slots := 0, locals := 43 }
set_option maxRecDepth 100000 in
set_option maxHeartbeats 4000000 in
theorem c_X6_isHeightAndRange {Λ : jL kC} (hC : LC Λ) {x0 : Int32} {x1 : Int32} {x2 : Int32}  {l : Launch} {v : mC} {r : Int32} (hr_ : f_X6_isHeightAndRange x0 x1 x2 v = some r) : Ct l yX6_isHeightAndRange wsX6_isHeightAndRange rmX6_isHeightAndRange Λ [.int x0, .int x1, .int x2] v (some (.int r)) v := by
  refine ct_of (cc := cX6_isHeightAndRange) (maxL := 3) (ret := (some .boolean)) (fun (q : Int32) => (some (Value.int q), v)) hC.1 hr_ (by decide) rfl (Nat.le_of_ble_eq_true rfl) (fun Γ hG hT hN hl => ?_)
  subst hl
  show Sm Γ Λ (0, 0) 0 [(0, .int x0), (1, .int x1), (2, .int x2)] [] v _
  unfold f_X6_isHeightAndRange
  refine sm_iload_n hG 1 rfl dX6_isHeightAndRange_0 rfl 0 rfl ?_
  refine sm_bipush (x := (90 : Int32)) hG 3 rfl dX6_isHeightAndRange_1 rfl ?_
  refine sm_sipush (x := (210 : Int32)) hG 6 rfl dX6_isHeightAndRange_3 rfl ?_
  refine sm_callS hG (fun (q : Int32) => (some (Value.int q), v)) [.int x0, .int (90 : Int32), .int (210 : Int32)] 9 rfl (fun r_ hr_ => c_X6_isWithin hC   hr_) gX6_isHeightAndRange_X6_isWithin rfl (by decide) (by decide) (n := 3) rfl (Nat.le_of_ble_eq_true rfl) (by decide) ⟨Nat.zero_le _, Nat.zero_le _⟩ rfl dX6_isHeightAndRange_6 (fun r_6 => ?_)
  refine sm_if_eq hG 24 12 rfl dX6_isHeightAndRange_9 (by decide) ?_ ?_
  · refine sm_iconst (x := (0 : Int32)) hG 25 rfl dX6_isHeightAndRange_24 rfl ?_
    exact sm_bret hG hT ⟨Nat.zero_le _, Nat.zero_le _⟩ dX6_isHeightAndRange_25 rfl
  · refine sm_iload_n hG 13 rfl dX6_isHeightAndRange_12 rfl 1 rfl ?_
    refine sm_iload_n hG 14 rfl dX6_isHeightAndRange_13 rfl 2 rfl ?_
    refine sm_callS hG (fun (q : Int32) => (some (Value.int q), v)) [.int x1, .int x2] 17 rfl (fun r_ hr_ => c_X6_isRange hC   hr_) gX6_isHeightAndRange_X6_isRange rfl (by decide) (by decide) (n := 2) rfl (Nat.le_of_ble_eq_true rfl) (by decide) ⟨Nat.zero_le _, Nat.zero_le _⟩ rfl dX6_isHeightAndRange_14 (fun r_14 => ?_)
    refine sm_if_eq hG 24 20 rfl dX6_isHeightAndRange_17 (by decide) ?_ ?_
    · refine sm_iconst (x := (0 : Int32)) hG 25 rfl dX6_isHeightAndRange_24 rfl ?_
      exact sm_bret hG hT ⟨Nat.zero_le _, Nat.zero_le _⟩ dX6_isHeightAndRange_25 rfl
    · refine sm_iconst (x := (1 : Int32)) hG 21 rfl dX6_isHeightAndRange_20 rfl ?_
      refine sm_goto hG 25 dX6_isHeightAndRange_21 (by decide) ?_
      exact sm_bret hG hT ⟨Nat.zero_le _, Nat.zero_le _⟩ dX6_isHeightAndRange_25 rfl
abbrev rmX5_isFull : Room := { frames := 0, cells := 0, slots := 0, locals := 0 }
set_option maxRecDepth 100000 in
set_option maxHeartbeats 4000000 in
theorem c_X5_isFull {Λ : jL kC} (hC : LC Λ) {o : Nat} (ho : o < 7) {l : Launch} {v : mC} {r : Int32} (hr_ : f_X5_isFull o v = some r) : Ct l yX5_isFull wsX5_isFull rmX5_isFull Λ [.ref (Λ.2.2.2.1 (2, o, 0))] v (some (.int r)) v := by
  refine ct_of (cc := cX5_isFull) (maxL := 1) (ret := (some .boolean)) (fun (q : Int32) => (some (Value.int q), v)) hC.1 hr_ (by decide) rfl (Nat.le_of_ble_eq_true rfl) (fun Γ hG hT hN hl => ?_)
  subst hl
  have f9 : Cond.fieldLink RX5 9 "ChoirRegister$Roster" "count" "I" ∈ wsX5_isFull := by decide +kernel
  have u5 : ∀ w ∈ wsX50, w ∈ wsX5_isFull := by decide +kernel
  show Sm Γ Λ (0, 0) 0 [(0, .ref (Λ.2.2.2.1 (2, o, 0)))] [] v _
  unfold f_X5_isFull
  refine sm_aload_n hG 1 rfl dX5_isFull_0 rfl 0 rfl ?_
  refine gC2_0 hG hC ho 4 rfl u5 f9 dX5_isFull_1 ?_
  refine sm_bipush (x := (30 : Int32)) hG 6 rfl dX5_isFull_4 rfl ?_
  refine sm_icmp_lt hG 13 9 rfl dX5_isFull_6 (by decide) ?_ ?_
  · refine sm_iconst (x := (0 : Int32)) hG 14 rfl dX5_isFull_13 rfl ?_
    exact sm_bret hG hT ⟨Nat.zero_le _, Nat.zero_le _⟩ dX5_isFull_14 rfl
  · refine sm_iconst (x := (1 : Int32)) hG 10 rfl dX5_isFull_9 rfl ?_
    refine sm_goto hG 14 dX5_isFull_10 (by decide) ?_
    exact sm_bret hG hT ⟨Nat.zero_le _, Nat.zero_le _⟩ dX5_isFull_14 rfl
abbrev rmX0_refusalToEnrol : Room := { frames := 3, cells := 0, slots := 0, locals := 65 }
set_option maxRecDepth 100000 in
set_option maxHeartbeats 4000000 in
theorem c_X0_refusalToEnrol {Λ : jL kC} (hC : LC Λ) {o : Nat} {x1 : Int32} {x2 : Int32} {x3 : Int32} {x4 : Int32} {x5 : Int32} (ho : o < 7) {l : Launch} {v : mC} {r : Int32} (hr_ : f_X0_refusalToEnrol o x1 x2 x3 x4 x5 v = some r) : Ct l yX0_refusalToEnrol wsX0_refusalToEnrol rmX0_refusalToEnrol Λ [.ref (Λ.2.2.2.1 (1, o, 0)), .int x1, .int x2, .int x3, .int x4, .int x5] v (some (.int r)) v := by
  refine ct_of (cc := cX0_refusalToEnrol) (maxL := 6) (ret := (some .int)) (fun (q : Int32) => (some (Value.int q), v)) hC.1 hr_ (by decide) rfl (Nat.le_of_ble_eq_true rfl) (fun Γ hG hT hN hl => ?_)
  subst hl
  have f18 : Cond.fieldLink RX0 18 "ChoirRegister$Book" "roster" "LChoirRegister$Roster;" ∈ wsX0_refusalToEnrol := by decide +kernel
  have fi_X6_isHeightAndRange : Cond.initialized yX6_isHeightAndRange.cls ∈ wsX0_refusalToEnrol := by decide +kernel
  have fi_X6_isWithin : Cond.initialized yX6_isWithin.cls ∈ wsX0_refusalToEnrol := by decide +kernel
  have fs_X6_isHeightAndRange : Cond.static yX6_isHeightAndRange ∈ wsX0_refusalToEnrol := by decide +kernel
  have fs_X6_isWithin : Cond.static yX6_isWithin ∈ wsX0_refusalToEnrol := by decide +kernel
  have u0 : ∀ w ∈ wsX00, w ∈ wsX0_refusalToEnrol := by decide +kernel
  show Sm Γ Λ (0, 0) 0 [(0, .ref (Λ.2.2.2.1 (1, o, 0))), (1, .int x1), (2, .int x2), (3, .int x3), (4, .int x4), (5, .int x5)] [] v _
  unfold f_X0_refusalToEnrol
  refine sm_iload_n hG 1 rfl dX0_refusalToEnrol_0 rfl 1 rfl ?_
  refine sm_bipush (x := (7 : Int32)) hG 3 rfl dX0_refusalToEnrol_1 rfl ?_
  refine sm_bipush (x := (70 : Int32)) hG 5 rfl dX0_refusalToEnrol_3 rfl ?_
  refine sm_callN hG (host := "ChoirRegister") (fun (q : Int32) => (some (Value.int q), v)) [.int x1, .int (7 : Int32), .int (70 : Int32)] 8 rfl (fun hX => (hC.2.2.2 _ _ hX).1 _ (by decide +kernel)) (fun r_ hr_ => c_X6_isWithin hC   hr_) gX0_refusalToEnrol_X6_isWithin_n71 fs_X6_isWithin fi_X6_isWithin rfl (by decide) (by decide) (n := 3) rfl (Nat.le_of_ble_eq_true rfl) (by decide) ⟨Nat.zero_le _, Nat.zero_le _⟩ rfl dX0_refusalToEnrol_5 (fun r_5 => ?_)
  refine sm_if_eq hG 21 11 rfl dX0_refusalToEnrol_8 (by decide) ?_ ?_
  · refine sm_iconst (x := (2 : Int32)) hG 22 rfl dX0_refusalToEnrol_21 rfl ?_
    exact sm_iret hG hT ⟨Nat.zero_le _, Nat.zero_le _⟩ dX0_refusalToEnrol_22 rfl
  · refine sm_iload_n hG 12 rfl dX0_refusalToEnrol_11 rfl 2 rfl ?_
    refine sm_iload_n hG 13 rfl dX0_refusalToEnrol_12 rfl 3 rfl ?_
    refine sm_iload hG 15 rfl dX0_refusalToEnrol_13 4 rfl ?_
    refine sm_callN hG (host := "ChoirRegister") (fun (q : Int32) => (some (Value.int q), v)) [.int x2, .int x3, .int x4] 18 rfl (fun hX => (hC.2.2.2 _ _ hX).1 _ (by decide +kernel)) (fun r_ hr_ => c_X6_isHeightAndRange hC   hr_) gX0_refusalToEnrol_X6_isHeightAndRange_n75 fs_X6_isHeightAndRange fi_X6_isHeightAndRange rfl (by decide) (by decide) (n := 3) rfl (Nat.le_of_ble_eq_true rfl) (by decide) ⟨Nat.zero_le _, Nat.zero_le _⟩ rfl dX0_refusalToEnrol_15 (fun r_15 => ?_)
    refine sm_if_ne hG 23 21 rfl dX0_refusalToEnrol_18 (by decide) ?_ ?_
    · refine sm_jn (fun (X42 : Unit → Option Int32) => ∀ (u_ : Unit), Sm Γ Λ (0, 0) 42 [(0, .ref (Λ.2.2.2.1 (1, o, 0)))] [] v (X42 u_)) (fun u_ => ?_) (fun j42 hj42 => ?_)
      · refine sm_aload_n hG 43 rfl dX0_refusalToEnrol_42 rfl 0 rfl ?_
        refine gC1_1 hG hC ho 46 rfl u0 f18 dX0_refusalToEnrol_43 ?_
        refine sm_callV hG (fun (q : Int32) => (some (Value.int q), v)) (2, o, 0) [] 49 rfl (okb hC (by decide) ho) (ce_2 hC _) (ci := 5) rfl (fun r_ hr_ => c_X5_isFull hC ho  hr_) gX0_refusalToEnrol_X5_isFull rfl (by decide) (by decide) (n := 0) rfl (Nat.le_of_ble_eq_true rfl) (by decide) ⟨Nat.zero_le _, Nat.zero_le _⟩ rfl dX0_refusalToEnrol_46 (fun r_46 => ?_)
        refine sm_if_eq hG 56 52 rfl dX0_refusalToEnrol_49 (by decide) ?_ ?_
        · refine sm_iconst (x := (0 : Int32)) hG 57 rfl dX0_refusalToEnrol_56 rfl ?_
          exact sm_iret hG hT ⟨Nat.zero_le _, Nat.zero_le _⟩ dX0_refusalToEnrol_57 rfl
        · refine sm_iconst (x := (3 : Int32)) hG 53 rfl dX0_refusalToEnrol_52 rfl ?_
          refine sm_goto hG 57 dX0_refusalToEnrol_53 (by decide) ?_
          exact sm_iret hG hT ⟨Nat.zero_le _, Nat.zero_le _⟩ dX0_refusalToEnrol_57 rfl
      · refine sm_iload hG 25 rfl dX0_refusalToEnrol_23 5 rfl ?_
        refine sm_if_eq hG 42 28 rfl dX0_refusalToEnrol_25 (by decide) ?_ ?_
        · refine sm_loc [0] [(0, .ref (Λ.2.2.2.1 (1, o, 0)))] rfl ?_
          exact hj42 ()
        · refine sm_iload hG 30 rfl dX0_refusalToEnrol_28 5 rfl ?_
          refine sm_bipush (x := (12 : Int32)) hG 32 rfl dX0_refusalToEnrol_30 rfl ?_
          refine sm_bipush (x := (17 : Int32)) hG 34 rfl dX0_refusalToEnrol_32 rfl ?_
          refine sm_callN hG (host := "ChoirRegister") (fun (q : Int32) => (some (Value.int q), v)) [.int x5, .int (12 : Int32), .int (17 : Int32)] 37 rfl (fun hX => (hC.2.2.2 _ _ hX).1 _ (by decide +kernel)) (fun r_ hr_ => c_X6_isWithin hC   hr_) gX0_refusalToEnrol_X6_isWithin_n71 fs_X6_isWithin fi_X6_isWithin rfl (by decide) (by decide) (n := 3) rfl (Nat.le_of_ble_eq_true rfl) (by decide) ⟨Nat.zero_le _, Nat.zero_le _⟩ rfl dX0_refusalToEnrol_34 (fun r_34 => ?_)
          refine sm_if_ne hG 42 40 rfl dX0_refusalToEnrol_37 (by decide) ?_ ?_
          · refine sm_loc [0] [(0, .ref (Λ.2.2.2.1 (1, o, 0)))] rfl ?_
            exact hj42 ()
          · refine sm_iconst (x := (2 : Int32)) hG 41 rfl dX0_refusalToEnrol_40 rfl ?_
            exact sm_iret hG hT ⟨Nat.zero_le _, Nat.zero_le _⟩ dX0_refusalToEnrol_41 rfl
    · refine sm_iconst (x := (2 : Int32)) hG 22 rfl dX0_refusalToEnrol_21 rfl ?_
      exact sm_iret hG hT ⟨Nat.zero_le _, Nat.zero_le _⟩ dX0_refusalToEnrol_22 rfl
abbrev rmX6_forgetOldestState : Room := { frames := 0, cells := 0, slots := 0, locals := 0 }
set_option maxRecDepth 100000 in
set_option maxHeartbeats 4000000 in
theorem c_X6_forgetOldestState {Λ : jL kC} (hC : LC Λ)   {l : Launch} {v : mC} {r : mC} (hr_ : f_X6_forgetOldestState v = some r) : Ct l yX6_forgetOldestState wsX6_forgetOldestState rmX6_forgetOldestState Λ [.ref (Λ.2.2.2.1 (0, 0, 0))] v none r := by
  refine ct_of (cc := cX6_forgetOldestState) (maxL := 3) (ret := none) (fun (w : mC) => ((none : Option Value), w)) hC.1 hr_ (by decide) rfl (Nat.le_of_ble_eq_true rfl) (fun Γ hG hT hN hl => ?_)
  subst hl
  have f26 : Cond.fieldLink RX6 26 "ChoirRegister" "recorded" "[LChoirRegister$Book;" ∈ wsX6_forgetOldestState := by decide +kernel
  have f30 : Cond.fieldLink RX6 30 "ChoirRegister" "recordedCount" "I" ∈ wsX6_forgetOldestState := by decide +kernel
  have u6 : ∀ w ∈ wsX60, w ∈ wsX6_forgetOldestState := by decide +kernel
  show Sm Γ Λ (0, 0) 0 [(0, .ref (Λ.2.2.2.1 (0, 0, 0)))] [] v _
  unfold f_X6_forgetOldestState
  refine sm_aload_n hG 1 rfl dX6_forgetOldestState_0 rfl 0 rfl ?_
  refine gC0_4 hG hC  4 rfl u6 f26 dX6_forgetOldestState_1 ?_
  refine sm_iconst (x := (0 : Int32)) hG 5 rfl dX6_forgetOldestState_4 rfl ?_
  refine lC31 hG hC 6 rfl dX6_forgetOldestState_5 (fun hf5_1 => ?_)
  refine sm_astore_n hG 7 rfl dX6_forgetOldestState_6 rfl (jlt hN rfl) [(1, .ref (Λ.2.2.2.1 (1, ix (v (31, 0, 0) (ix (0 : Int32))), 0))), (0, .ref (Λ.2.2.2.1 (0, 0, 0)))] rfl ?_
  refine sm_iconst (x := (1 : Int32)) hG 8 rfl dX6_forgetOldestState_7 rfl ?_
  refine sm_istore_n hG 9 rfl dX6_forgetOldestState_8 rfl (jlt hN rfl) [(2, .int (1 : Int32)), (1, .ref (Λ.2.2.2.1 (1, ix (v (31, 0, 0) (ix (0 : Int32))), 0))), (0, .ref (Λ.2.2.2.1 (0, 0, 0)))] rfl ?_
  refine sm_loc [2, 1, 0] [(0, .ref (Λ.2.2.2.1 (0, 0, 0))), (1, .ref (Λ.2.2.2.1 (1, ix (v (31, 0, 0) (ix (0 : Int32))), 0))), (2, .int (1 : Int32))] rfl ?_
  refine lp_ind (fun (X9 : Int32 → mC → Option mC) => ∀ (x2_9 : Int32) (v_9 : mC), Sm Γ Λ (0, 0) 9 [(0, .ref (Λ.2.2.2.1 (0, 0, 0))), (1, .ref (Λ.2.2.2.1 (1, ix (v (31, 0, 0) (ix (0 : Int32))), 0))), (2, .int x2_9)] [] v_9 (X9 x2_9 v_9)) (fun _ _ => sm_none) (fun self9 hs9 x2_9 v_9 => ?_) 8192 _ _
  refine sm_iload_n hG 10 rfl dX6_forgetOldestState_9 rfl 2 rfl ?_
  refine sm_iconst (x := (4 : Int32)) hG 11 rfl dX6_forgetOldestState_10 rfl ?_
  refine sm_icmp_ge hG 34 14 rfl dX6_forgetOldestState_11 (by decide) ?_ ?_
  · refine sm_aload_n hG 35 rfl dX6_forgetOldestState_34 rfl 0 rfl ?_
    refine gC0_4 hG hC  38 rfl u6 f26 dX6_forgetOldestState_35 ?_
    refine sm_iconst (x := (3 : Int32)) hG 39 rfl dX6_forgetOldestState_38 rfl ?_
    refine sm_aload_n hG 40 rfl dX6_forgetOldestState_39 rfl 1 rfl ?_
    refine sC31 hG hC hf5_1 41 rfl dX6_forgetOldestState_40 ?_
    refine sm_nmv (fun w40_1 => ?_)
    refine sm_aload_n hG 42 rfl dX6_forgetOldestState_41 rfl 0 rfl ?_
    refine sm_iconst (x := (3 : Int32)) hG 43 rfl dX6_forgetOldestState_42 rfl ?_
    refine pC0_5 hG hC  46 rfl u6 f30 dX6_forgetOldestState_43 ?_
    refine sm_nmv (fun w43_2 => ?_)
    exact sm_vret hG hT ⟨Nat.zero_le _, Nat.zero_le _⟩ dX6_forgetOldestState_46 rfl
  · refine sm_aload_n hG 15 rfl dX6_forgetOldestState_14 rfl 0 rfl ?_
    refine gC0_4 hG hC  18 rfl u6 f26 dX6_forgetOldestState_15 ?_
    refine sm_iload_n hG 19 rfl dX6_forgetOldestState_18 rfl 2 rfl ?_
    refine sm_iconst (x := (1 : Int32)) hG 20 rfl dX6_forgetOldestState_19 rfl ?_
    refine sm_isub hG 21 rfl dX6_forgetOldestState_20 ?_
    refine sm_aload_n hG 22 rfl dX6_forgetOldestState_21 rfl 0 rfl ?_
    refine gC0_4 hG hC  25 rfl u6 f26 dX6_forgetOldestState_22 ?_
    refine sm_iload_n hG 26 rfl dX6_forgetOldestState_25 rfl 2 rfl ?_
    refine lC31 hG hC 27 rfl dX6_forgetOldestState_26 (fun hf26_2 => ?_)
    refine sC31 hG hC hf26_2 28 rfl dX6_forgetOldestState_27 ?_
    refine sm_nmv (fun w27_3 => ?_)
    refine sm_iinc hG 31 rfl dX6_forgetOldestState_28 (j := 2) rfl rfl (jlt hN rfl) [(2, .int (x2_9 + (1 : Int32))), (0, .ref (Λ.2.2.2.1 (0, 0, 0))), (1, .ref (Λ.2.2.2.1 (1, ix (v (31, 0, 0) (ix (0 : Int32))), 0)))] rfl ?_
    refine sm_goto hG 9 dX6_forgetOldestState_31 (by decide) ?_
    refine sm_loc [1, 2, 0] [(0, .ref (Λ.2.2.2.1 (0, 0, 0))), (1, .ref (Λ.2.2.2.1 (1, ix (v (31, 0, 0) (ix (0 : Int32))), 0))), (2, .int (x2_9 + (1 : Int32)))] rfl ?_
    exact hs9 _ _
abbrev rmX5_copyFrom : Room := { frames := 1, cells := 0, slots := 0, locals := 26 }
set_option maxRecDepth 100000 in
set_option maxHeartbeats 4000000 in
theorem c_X5_copyFrom {Λ : jL kC} (hC : LC Λ) {o : Nat} {o1 : Nat} (ho : o < 7) (ho1 : o1 < 7) {l : Launch} {v : mC} {r : mC} (hr_ : f_X5_copyFrom o o1 v = some r) : Ct l yX5_copyFrom wsX5_copyFrom rmX5_copyFrom Λ [.ref (Λ.2.2.2.1 (2, o, 0)), .ref (Λ.2.2.2.1 (2, o1, 0))] v none r := by
  refine ct_of (cc := cX5_copyFrom) (maxL := 2) (ret := none) (fun (w : mC) => ((none : Option Value), w)) hC.1 hr_ (by decide) rfl (Nat.le_of_ble_eq_true rfl) (fun Γ hG hT hN hl => ?_)
  subst hl
  have f15 : Cond.fieldLink RX5 15 "ChoirRegister$Roster" "height" "[I" ∈ wsX5_copyFrom := by decide +kernel
  have f19 : Cond.fieldLink RX5 19 "ChoirRegister$Roster" "lowest" "[I" ∈ wsX5_copyFrom := by decide +kernel
  have f22 : Cond.fieldLink RX5 22 "ChoirRegister$Roster" "highest" "[I" ∈ wsX5_copyFrom := by decide +kernel
  have f25 : Cond.fieldLink RX5 25 "ChoirRegister$Roster" "birthDay" "[I" ∈ wsX5_copyFrom := by decide +kernel
  have f28 : Cond.fieldLink RX5 28 "ChoirRegister$Roster" "breakDay" "[I" ∈ wsX5_copyFrom := by decide +kernel
  have f31 : Cond.fieldLink RX5 31 "ChoirRegister$Roster" "choir" "[I" ∈ wsX5_copyFrom := by decide +kernel
  have f34 : Cond.fieldLink RX5 34 "ChoirRegister$Roster" "fee" "[I" ∈ wsX5_copyFrom := by decide +kernel
  have f37 : Cond.fieldLink RX5 37 "ChoirRegister$Roster" "lastDayInChoir" "[I" ∈ wsX5_copyFrom := by decide +kernel
  have f40 : Cond.fieldLink RX5 40 "ChoirRegister$Roster" "lastDayAway" "[I" ∈ wsX5_copyFrom := by decide +kernel
  have f43 : Cond.fieldLink RX5 43 "ChoirRegister$Roster" "feastsSung" "[I" ∈ wsX5_copyFrom := by decide +kernel
  have f46 : Cond.fieldLink RX5 46 "ChoirRegister$Roster" "descantsSung" "[I" ∈ wsX5_copyFrom := by decide +kernel
  have f9 : Cond.fieldLink RX5 9 "ChoirRegister$Roster" "count" "I" ∈ wsX5_copyFrom := by decide +kernel
  have fa1 : Cond.methodLink RX5 49 arraycopyName ∈ wsX5_copyFrom := by decide +kernel
  have fa2 : Cond.native arraycopyName ∈ wsX5_copyFrom := by decide +kernel
  have fa3 : Cond.static arraycopyName ∈ wsX5_copyFrom := by decide +kernel
  have fa4 : Cond.initialized "java/lang/System" ∈ wsX5_copyFrom := by decide +kernel
  have u5 : ∀ w ∈ wsX50, w ∈ wsX5_copyFrom := by decide +kernel
  show Sm Γ Λ (0, 0) 0 [(0, .ref (Λ.2.2.2.1 (2, o, 0))), (1, .ref (Λ.2.2.2.1 (2, o1, 0)))] [] v _
  unfold f_X5_copyFrom
  refine sm_aload_n hG 1 rfl dX5_copyFrom_0 rfl 0 rfl ?_
  refine sm_aload_n hG 2 rfl dX5_copyFrom_1 rfl 1 rfl ?_
  refine gC2_0 hG hC ho1 5 rfl u5 f9 dX5_copyFrom_2 ?_
  refine pC2_0 hG hC ho 8 rfl u5 f9 dX5_copyFrom_5 ?_
  refine sm_nmv (fun w5_1 => ?_)
  refine sm_aload_n hG 9 rfl dX5_copyFrom_8 rfl 1 rfl ?_
  refine gC2_1 hG hC ho1 12 rfl u5 f15 dX5_copyFrom_9 ?_
  refine sm_iconst (x := (0 : Int32)) hG 13 rfl dX5_copyFrom_12 rfl ?_
  refine sm_aload_n hG 14 rfl dX5_copyFrom_13 rfl 0 rfl ?_
  refine gC2_1 hG hC ho 17 rfl u5 f15 dX5_copyFrom_14 ?_
  refine sm_iconst (x := (0 : Int32)) hG 18 rfl dX5_copyFrom_17 rfl ?_
  refine sm_aload_n hG 19 rfl dX5_copyFrom_18 rfl 0 rfl ?_
  refine gC2_0 hG hC ho 22 rfl u5 f9 dX5_copyFrom_19 ?_
  refine cA hG (ic_3 hC ho1) (ic_3 hC ho) 25 rfl fa1 fa2 fa3 fa4 (by decide) (Nat.le_of_ble_eq_true rfl) dX5_copyFrom_22 ?_
  refine sm_nmv (fun w22_2 => ?_)
  refine sm_aload_n hG 26 rfl dX5_copyFrom_25 rfl 1 rfl ?_
  refine gC2_2 hG hC ho1 29 rfl u5 f19 dX5_copyFrom_26 ?_
  refine sm_iconst (x := (0 : Int32)) hG 30 rfl dX5_copyFrom_29 rfl ?_
  refine sm_aload_n hG 31 rfl dX5_copyFrom_30 rfl 0 rfl ?_
  refine gC2_2 hG hC ho 34 rfl u5 f19 dX5_copyFrom_31 ?_
  refine sm_iconst (x := (0 : Int32)) hG 35 rfl dX5_copyFrom_34 rfl ?_
  refine sm_aload_n hG 36 rfl dX5_copyFrom_35 rfl 0 rfl ?_
  refine gC2_0 hG hC ho 39 rfl u5 f9 dX5_copyFrom_36 ?_
  refine cA hG (ic_4 hC ho1) (ic_4 hC ho) 42 rfl fa1 fa2 fa3 fa4 (by decide) (Nat.le_of_ble_eq_true rfl) dX5_copyFrom_39 ?_
  refine sm_nmv (fun w39_3 => ?_)
  refine sm_aload_n hG 43 rfl dX5_copyFrom_42 rfl 1 rfl ?_
  refine gC2_3 hG hC ho1 46 rfl u5 f22 dX5_copyFrom_43 ?_
  refine sm_iconst (x := (0 : Int32)) hG 47 rfl dX5_copyFrom_46 rfl ?_
  refine sm_aload_n hG 48 rfl dX5_copyFrom_47 rfl 0 rfl ?_
  refine gC2_3 hG hC ho 51 rfl u5 f22 dX5_copyFrom_48 ?_
  refine sm_iconst (x := (0 : Int32)) hG 52 rfl dX5_copyFrom_51 rfl ?_
  refine sm_aload_n hG 53 rfl dX5_copyFrom_52 rfl 0 rfl ?_
  refine gC2_0 hG hC ho 56 rfl u5 f9 dX5_copyFrom_53 ?_
  refine cA hG (ic_5 hC ho1) (ic_5 hC ho) 59 rfl fa1 fa2 fa3 fa4 (by decide) (Nat.le_of_ble_eq_true rfl) dX5_copyFrom_56 ?_
  refine sm_nmv (fun w56_4 => ?_)
  refine sm_aload_n hG 60 rfl dX5_copyFrom_59 rfl 1 rfl ?_
  refine gC2_4 hG hC ho1 63 rfl u5 f25 dX5_copyFrom_60 ?_
  refine sm_iconst (x := (0 : Int32)) hG 64 rfl dX5_copyFrom_63 rfl ?_
  refine sm_aload_n hG 65 rfl dX5_copyFrom_64 rfl 0 rfl ?_
  refine gC2_4 hG hC ho 68 rfl u5 f25 dX5_copyFrom_65 ?_
  refine sm_iconst (x := (0 : Int32)) hG 69 rfl dX5_copyFrom_68 rfl ?_
  refine sm_aload_n hG 70 rfl dX5_copyFrom_69 rfl 0 rfl ?_
  refine gC2_0 hG hC ho 73 rfl u5 f9 dX5_copyFrom_70 ?_
  refine cA hG (ic_6 hC ho1) (ic_6 hC ho) 76 rfl fa1 fa2 fa3 fa4 (by decide) (Nat.le_of_ble_eq_true rfl) dX5_copyFrom_73 ?_
  refine sm_nmv (fun w73_5 => ?_)
  refine sm_aload_n hG 77 rfl dX5_copyFrom_76 rfl 1 rfl ?_
  refine gC2_5 hG hC ho1 80 rfl u5 f28 dX5_copyFrom_77 ?_
  refine sm_iconst (x := (0 : Int32)) hG 81 rfl dX5_copyFrom_80 rfl ?_
  refine sm_aload_n hG 82 rfl dX5_copyFrom_81 rfl 0 rfl ?_
  refine gC2_5 hG hC ho 85 rfl u5 f28 dX5_copyFrom_82 ?_
  refine sm_iconst (x := (0 : Int32)) hG 86 rfl dX5_copyFrom_85 rfl ?_
  refine sm_aload_n hG 87 rfl dX5_copyFrom_86 rfl 0 rfl ?_
  refine gC2_0 hG hC ho 90 rfl u5 f9 dX5_copyFrom_87 ?_
  refine cA hG (ic_7 hC ho1) (ic_7 hC ho) 93 rfl fa1 fa2 fa3 fa4 (by decide) (Nat.le_of_ble_eq_true rfl) dX5_copyFrom_90 ?_
  refine sm_nmv (fun w90_6 => ?_)
  refine sm_aload_n hG 94 rfl dX5_copyFrom_93 rfl 1 rfl ?_
  refine gC2_6 hG hC ho1 97 rfl u5 f31 dX5_copyFrom_94 ?_
  refine sm_iconst (x := (0 : Int32)) hG 98 rfl dX5_copyFrom_97 rfl ?_
  refine sm_aload_n hG 99 rfl dX5_copyFrom_98 rfl 0 rfl ?_
  refine gC2_6 hG hC ho 102 rfl u5 f31 dX5_copyFrom_99 ?_
  refine sm_iconst (x := (0 : Int32)) hG 103 rfl dX5_copyFrom_102 rfl ?_
  refine sm_aload_n hG 104 rfl dX5_copyFrom_103 rfl 0 rfl ?_
  refine gC2_0 hG hC ho 107 rfl u5 f9 dX5_copyFrom_104 ?_
  refine cA hG (ic_8 hC ho1) (ic_8 hC ho) 110 rfl fa1 fa2 fa3 fa4 (by decide) (Nat.le_of_ble_eq_true rfl) dX5_copyFrom_107 ?_
  refine sm_nmv (fun w107_7 => ?_)
  refine sm_aload_n hG 111 rfl dX5_copyFrom_110 rfl 1 rfl ?_
  refine gC2_7 hG hC ho1 114 rfl u5 f34 dX5_copyFrom_111 ?_
  refine sm_iconst (x := (0 : Int32)) hG 115 rfl dX5_copyFrom_114 rfl ?_
  refine sm_aload_n hG 116 rfl dX5_copyFrom_115 rfl 0 rfl ?_
  refine gC2_7 hG hC ho 119 rfl u5 f34 dX5_copyFrom_116 ?_
  refine sm_iconst (x := (0 : Int32)) hG 120 rfl dX5_copyFrom_119 rfl ?_
  refine sm_aload_n hG 121 rfl dX5_copyFrom_120 rfl 0 rfl ?_
  refine gC2_0 hG hC ho 124 rfl u5 f9 dX5_copyFrom_121 ?_
  refine cA hG (ic_9 hC ho1) (ic_9 hC ho) 127 rfl fa1 fa2 fa3 fa4 (by decide) (Nat.le_of_ble_eq_true rfl) dX5_copyFrom_124 ?_
  refine sm_nmv (fun w124_8 => ?_)
  refine sm_aload_n hG 128 rfl dX5_copyFrom_127 rfl 1 rfl ?_
  refine gC2_8 hG hC ho1 131 rfl u5 f37 dX5_copyFrom_128 ?_
  refine sm_iconst (x := (0 : Int32)) hG 132 rfl dX5_copyFrom_131 rfl ?_
  refine sm_aload_n hG 133 rfl dX5_copyFrom_132 rfl 0 rfl ?_
  refine gC2_8 hG hC ho 136 rfl u5 f37 dX5_copyFrom_133 ?_
  refine sm_iconst (x := (0 : Int32)) hG 137 rfl dX5_copyFrom_136 rfl ?_
  refine sm_aload_n hG 138 rfl dX5_copyFrom_137 rfl 0 rfl ?_
  refine gC2_0 hG hC ho 141 rfl u5 f9 dX5_copyFrom_138 ?_
  refine cA hG (ic_10 hC ho1) (ic_10 hC ho) 144 rfl fa1 fa2 fa3 fa4 (by decide) (Nat.le_of_ble_eq_true rfl) dX5_copyFrom_141 ?_
  refine sm_nmv (fun w141_9 => ?_)
  refine sm_aload_n hG 145 rfl dX5_copyFrom_144 rfl 1 rfl ?_
  refine gC2_9 hG hC ho1 148 rfl u5 f40 dX5_copyFrom_145 ?_
  refine sm_iconst (x := (0 : Int32)) hG 149 rfl dX5_copyFrom_148 rfl ?_
  refine sm_aload_n hG 150 rfl dX5_copyFrom_149 rfl 0 rfl ?_
  refine gC2_9 hG hC ho 153 rfl u5 f40 dX5_copyFrom_150 ?_
  refine sm_iconst (x := (0 : Int32)) hG 154 rfl dX5_copyFrom_153 rfl ?_
  refine sm_aload_n hG 155 rfl dX5_copyFrom_154 rfl 0 rfl ?_
  refine gC2_0 hG hC ho 158 rfl u5 f9 dX5_copyFrom_155 ?_
  refine cA hG (ic_11 hC ho1) (ic_11 hC ho) 161 rfl fa1 fa2 fa3 fa4 (by decide) (Nat.le_of_ble_eq_true rfl) dX5_copyFrom_158 ?_
  refine sm_nmv (fun w158_10 => ?_)
  refine sm_aload_n hG 162 rfl dX5_copyFrom_161 rfl 1 rfl ?_
  refine gC2_10 hG hC ho1 165 rfl u5 f43 dX5_copyFrom_162 ?_
  refine sm_iconst (x := (0 : Int32)) hG 166 rfl dX5_copyFrom_165 rfl ?_
  refine sm_aload_n hG 167 rfl dX5_copyFrom_166 rfl 0 rfl ?_
  refine gC2_10 hG hC ho 170 rfl u5 f43 dX5_copyFrom_167 ?_
  refine sm_iconst (x := (0 : Int32)) hG 171 rfl dX5_copyFrom_170 rfl ?_
  refine sm_aload_n hG 172 rfl dX5_copyFrom_171 rfl 0 rfl ?_
  refine gC2_0 hG hC ho 175 rfl u5 f9 dX5_copyFrom_172 ?_
  refine cA hG (ic_12 hC ho1) (ic_12 hC ho) 178 rfl fa1 fa2 fa3 fa4 (by decide) (Nat.le_of_ble_eq_true rfl) dX5_copyFrom_175 ?_
  refine sm_nmv (fun w175_11 => ?_)
  refine sm_aload_n hG 179 rfl dX5_copyFrom_178 rfl 1 rfl ?_
  refine gC2_11 hG hC ho1 182 rfl u5 f46 dX5_copyFrom_179 ?_
  refine sm_iconst (x := (0 : Int32)) hG 183 rfl dX5_copyFrom_182 rfl ?_
  refine sm_aload_n hG 184 rfl dX5_copyFrom_183 rfl 0 rfl ?_
  refine gC2_11 hG hC ho 187 rfl u5 f46 dX5_copyFrom_184 ?_
  refine sm_iconst (x := (0 : Int32)) hG 188 rfl dX5_copyFrom_187 rfl ?_
  refine sm_aload_n hG 189 rfl dX5_copyFrom_188 rfl 0 rfl ?_
  refine gC2_0 hG hC ho 192 rfl u5 f9 dX5_copyFrom_189 ?_
  refine cA hG (ic_13 hC ho1) (ic_13 hC ho) 195 rfl fa1 fa2 fa3 fa4 (by decide) (Nat.le_of_ble_eq_true rfl) dX5_copyFrom_192 ?_
  refine sm_nmv (fun w192_12 => ?_)
  exact sm_vret hG hT ⟨Nat.zero_le _, Nat.zero_le _⟩ dX5_copyFrom_195 rfl
abbrev rmX4_copyFrom : Room := { frames := 1, cells := 0, slots := 0, locals := 26 }
set_option maxRecDepth 100000 in
set_option maxHeartbeats 4000000 in
theorem c_X4_copyFrom {Λ : jL kC} (hC : LC Λ) {o : Nat} {o1 : Nat} (ho : o < 7) (ho1 : o1 < 7) {l : Launch} {v : mC} {r : mC} (hr_ : f_X4_copyFrom o o1 v = some r) : Ct l yX4_copyFrom wsX4_copyFrom rmX4_copyFrom Λ [.ref (Λ.2.2.2.1 (14, o, 0)), .ref (Λ.2.2.2.1 (14, o1, 0))] v none r := by
  refine ct_of (cc := cX4_copyFrom) (maxL := 2) (ret := none) (fun (w : mC) => ((none : Option Value), w)) hC.1 hr_ (by decide) rfl (Nat.le_of_ble_eq_true rfl) (fun Γ hG hT hN hl => ?_)
  subst hl
  have f15 : Cond.fieldLink RX4 15 "ChoirRegister$Notes" "singers" "[I" ∈ wsX4_copyFrom := by decide +kernel
  have f19 : Cond.fieldLink RX4 19 "ChoirRegister$Notes" "first" "[I" ∈ wsX4_copyFrom := by decide +kernel
  have f22 : Cond.fieldLink RX4 22 "ChoirRegister$Notes" "last" "[I" ∈ wsX4_copyFrom := by decide +kernel
  have f9 : Cond.fieldLink RX4 9 "ChoirRegister$Notes" "count" "I" ∈ wsX4_copyFrom := by decide +kernel
  have fa1 : Cond.methodLink RX4 25 arraycopyName ∈ wsX4_copyFrom := by decide +kernel
  have fa2 : Cond.native arraycopyName ∈ wsX4_copyFrom := by decide +kernel
  have fa3 : Cond.static arraycopyName ∈ wsX4_copyFrom := by decide +kernel
  have fa4 : Cond.initialized "java/lang/System" ∈ wsX4_copyFrom := by decide +kernel
  have u4 : ∀ w ∈ wsX40, w ∈ wsX4_copyFrom := by decide +kernel
  show Sm Γ Λ (0, 0) 0 [(0, .ref (Λ.2.2.2.1 (14, o, 0))), (1, .ref (Λ.2.2.2.1 (14, o1, 0)))] [] v _
  unfold f_X4_copyFrom
  refine sm_aload_n hG 1 rfl dX4_copyFrom_0 rfl 0 rfl ?_
  refine sm_aload_n hG 2 rfl dX4_copyFrom_1 rfl 1 rfl ?_
  refine gC14_0 hG hC ho1 5 rfl u4 f9 dX4_copyFrom_2 ?_
  refine pC14_0 hG hC ho 8 rfl u4 f9 dX4_copyFrom_5 ?_
  refine sm_nmv (fun w5_1 => ?_)
  refine sm_aload_n hG 9 rfl dX4_copyFrom_8 rfl 1 rfl ?_
  refine gC14_1 hG hC ho1 12 rfl u4 f15 dX4_copyFrom_9 ?_
  refine sm_iconst (x := (0 : Int32)) hG 13 rfl dX4_copyFrom_12 rfl ?_
  refine sm_aload_n hG 14 rfl dX4_copyFrom_13 rfl 0 rfl ?_
  refine gC14_1 hG hC ho 17 rfl u4 f15 dX4_copyFrom_14 ?_
  refine sm_iconst (x := (0 : Int32)) hG 18 rfl dX4_copyFrom_17 rfl ?_
  refine sm_aload_n hG 19 rfl dX4_copyFrom_18 rfl 0 rfl ?_
  refine gC14_0 hG hC ho 22 rfl u4 f9 dX4_copyFrom_19 ?_
  refine cA hG (ic_15 hC ho1) (ic_15 hC ho) 25 rfl fa1 fa2 fa3 fa4 (by decide) (Nat.le_of_ble_eq_true rfl) dX4_copyFrom_22 ?_
  refine sm_nmv (fun w22_2 => ?_)
  refine sm_aload_n hG 26 rfl dX4_copyFrom_25 rfl 1 rfl ?_
  refine gC14_2 hG hC ho1 29 rfl u4 f19 dX4_copyFrom_26 ?_
  refine sm_iconst (x := (0 : Int32)) hG 30 rfl dX4_copyFrom_29 rfl ?_
  refine sm_aload_n hG 31 rfl dX4_copyFrom_30 rfl 0 rfl ?_
  refine gC14_2 hG hC ho 34 rfl u4 f19 dX4_copyFrom_31 ?_
  refine sm_iconst (x := (0 : Int32)) hG 35 rfl dX4_copyFrom_34 rfl ?_
  refine sm_aload_n hG 36 rfl dX4_copyFrom_35 rfl 0 rfl ?_
  refine gC14_0 hG hC ho 39 rfl u4 f9 dX4_copyFrom_36 ?_
  refine cA hG (ic_16 hC ho1) (ic_16 hC ho) 42 rfl fa1 fa2 fa3 fa4 (by decide) (Nat.le_of_ble_eq_true rfl) dX4_copyFrom_39 ?_
  refine sm_nmv (fun w39_3 => ?_)
  refine sm_aload_n hG 43 rfl dX4_copyFrom_42 rfl 1 rfl ?_
  refine gC14_3 hG hC ho1 46 rfl u4 f22 dX4_copyFrom_43 ?_
  refine sm_iconst (x := (0 : Int32)) hG 47 rfl dX4_copyFrom_46 rfl ?_
  refine sm_aload_n hG 48 rfl dX4_copyFrom_47 rfl 0 rfl ?_
  refine gC14_3 hG hC ho 51 rfl u4 f22 dX4_copyFrom_48 ?_
  refine sm_iconst (x := (0 : Int32)) hG 52 rfl dX4_copyFrom_51 rfl ?_
  refine sm_aload_n hG 53 rfl dX4_copyFrom_52 rfl 0 rfl ?_
  refine gC14_0 hG hC ho 56 rfl u4 f9 dX4_copyFrom_53 ?_
  refine cA hG (ic_17 hC ho1) (ic_17 hC ho) 59 rfl fa1 fa2 fa3 fa4 (by decide) (Nat.le_of_ble_eq_true rfl) dX4_copyFrom_56 ?_
  refine sm_nmv (fun w56_4 => ?_)
  exact sm_vret hG hT ⟨Nat.zero_le _, Nat.zero_le _⟩ dX4_copyFrom_59 rfl
abbrev rmX1_copyFrom : Room := { frames := 1, cells := 0, slots := 0, locals := 26 }
set_option maxRecDepth 100000 in
set_option maxHeartbeats 4000000 in
theorem c_X1_copyFrom {Λ : jL kC} (hC : LC Λ) {o : Nat} {o1 : Nat} (ho : o < 7) (ho1 : o1 < 7) {l : Launch} {v : mC} {r : mC} (hr_ : f_X1_copyFrom o o1 v = some r) : Ct l yX1_copyFrom wsX1_copyFrom rmX1_copyFrom Λ [.ref (Λ.2.2.2.1 (18, o, 0)), .ref (Λ.2.2.2.1 (18, o1, 0))] v none r := by
  refine ct_of (cc := cX1_copyFrom) (maxL := 3) (ret := none) (fun (w : mC) => ((none : Option Value), w)) hC.1 hr_ (by decide) rfl (Nat.le_of_ble_eq_true rfl) (fun Γ hG hT hN hl => ?_)
  subst hl
  have f15 : Cond.fieldLink RX1 15 "ChoirRegister$Calendar" "day" "[I" ∈ wsX1_copyFrom := by decide +kernel
  have f19 : Cond.fieldLink RX1 19 "ChoirRegister$Calendar" "rank" "[I" ∈ wsX1_copyFrom := by decide +kernel
  have f22 : Cond.fieldLink RX1 22 "ChoirRegister$Calendar" "descant" "[I" ∈ wsX1_copyFrom := by decide +kernel
  have f27 : Cond.fieldLink RX1 27 "ChoirRegister$Calendar" "places" "[[I" ∈ wsX1_copyFrom := by decide +kernel
  have f30 : Cond.fieldLink RX1 30 "ChoirRegister$Calendar" "lowest" "[[I" ∈ wsX1_copyFrom := by decide +kernel
  have f33 : Cond.fieldLink RX1 33 "ChoirRegister$Calendar" "highest" "[[I" ∈ wsX1_copyFrom := by decide +kernel
  have f36 : Cond.fieldLink RX1 36 "ChoirRegister$Calendar" "linesSung" "[[I" ∈ wsX1_copyFrom := by decide +kernel
  have f9 : Cond.fieldLink RX1 9 "ChoirRegister$Calendar" "count" "I" ∈ wsX1_copyFrom := by decide +kernel
  have fa1 : Cond.methodLink RX1 39 arraycopyName ∈ wsX1_copyFrom := by decide +kernel
  have fa2 : Cond.native arraycopyName ∈ wsX1_copyFrom := by decide +kernel
  have fa3 : Cond.static arraycopyName ∈ wsX1_copyFrom := by decide +kernel
  have fa4 : Cond.initialized "java/lang/System" ∈ wsX1_copyFrom := by decide +kernel
  have u1 : ∀ w ∈ wsX10, w ∈ wsX1_copyFrom := by decide +kernel
  show Sm Γ Λ (0, 0) 0 [(0, .ref (Λ.2.2.2.1 (18, o, 0))), (1, .ref (Λ.2.2.2.1 (18, o1, 0)))] [] v _
  unfold f_X1_copyFrom
  refine sm_aload_n hG 1 rfl dX1_copyFrom_0 rfl 0 rfl ?_
  refine sm_aload_n hG 2 rfl dX1_copyFrom_1 rfl 1 rfl ?_
  refine gC18_0 hG hC ho1 5 rfl u1 f9 dX1_copyFrom_2 ?_
  refine pC18_0 hG hC ho 8 rfl u1 f9 dX1_copyFrom_5 ?_
  refine sm_nmv (fun w5_1 => ?_)
  refine sm_aload_n hG 9 rfl dX1_copyFrom_8 rfl 1 rfl ?_
  refine gC18_1 hG hC ho1 12 rfl u1 f15 dX1_copyFrom_9 ?_
  refine sm_iconst (x := (0 : Int32)) hG 13 rfl dX1_copyFrom_12 rfl ?_
  refine sm_aload_n hG 14 rfl dX1_copyFrom_13 rfl 0 rfl ?_
  refine gC18_1 hG hC ho 17 rfl u1 f15 dX1_copyFrom_14 ?_
  refine sm_iconst (x := (0 : Int32)) hG 18 rfl dX1_copyFrom_17 rfl ?_
  refine sm_aload_n hG 19 rfl dX1_copyFrom_18 rfl 0 rfl ?_
  refine gC18_0 hG hC ho 22 rfl u1 f9 dX1_copyFrom_19 ?_
  refine cA hG (ic_19 hC ho1) (ic_19 hC ho) 25 rfl fa1 fa2 fa3 fa4 (by decide) (Nat.le_of_ble_eq_true rfl) dX1_copyFrom_22 ?_
  refine sm_nmv (fun w22_2 => ?_)
  refine sm_aload_n hG 26 rfl dX1_copyFrom_25 rfl 1 rfl ?_
  refine gC18_2 hG hC ho1 29 rfl u1 f19 dX1_copyFrom_26 ?_
  refine sm_iconst (x := (0 : Int32)) hG 30 rfl dX1_copyFrom_29 rfl ?_
  refine sm_aload_n hG 31 rfl dX1_copyFrom_30 rfl 0 rfl ?_
  refine gC18_2 hG hC ho 34 rfl u1 f19 dX1_copyFrom_31 ?_
  refine sm_iconst (x := (0 : Int32)) hG 35 rfl dX1_copyFrom_34 rfl ?_
  refine sm_aload_n hG 36 rfl dX1_copyFrom_35 rfl 0 rfl ?_
  refine gC18_0 hG hC ho 39 rfl u1 f9 dX1_copyFrom_36 ?_
  refine cA hG (ic_20 hC ho1) (ic_20 hC ho) 42 rfl fa1 fa2 fa3 fa4 (by decide) (Nat.le_of_ble_eq_true rfl) dX1_copyFrom_39 ?_
  refine sm_nmv (fun w39_3 => ?_)
  refine sm_aload_n hG 43 rfl dX1_copyFrom_42 rfl 1 rfl ?_
  refine gC18_3 hG hC ho1 46 rfl u1 f22 dX1_copyFrom_43 ?_
  refine sm_iconst (x := (0 : Int32)) hG 47 rfl dX1_copyFrom_46 rfl ?_
  refine sm_aload_n hG 48 rfl dX1_copyFrom_47 rfl 0 rfl ?_
  refine gC18_3 hG hC ho 51 rfl u1 f22 dX1_copyFrom_48 ?_
  refine sm_iconst (x := (0 : Int32)) hG 52 rfl dX1_copyFrom_51 rfl ?_
  refine sm_aload_n hG 53 rfl dX1_copyFrom_52 rfl 0 rfl ?_
  refine gC18_0 hG hC ho 56 rfl u1 f9 dX1_copyFrom_53 ?_
  refine cA hG (ic_21 hC ho1) (ic_21 hC ho) 59 rfl fa1 fa2 fa3 fa4 (by decide) (Nat.le_of_ble_eq_true rfl) dX1_copyFrom_56 ?_
  refine sm_nmv (fun w56_4 => ?_)
  refine sm_iconst (x := (0 : Int32)) hG 60 rfl dX1_copyFrom_59 rfl ?_
  refine sm_istore_n hG 61 rfl dX1_copyFrom_60 rfl (jlt hN rfl) [(2, .int (0 : Int32)), (0, .ref (Λ.2.2.2.1 (18, o, 0))), (1, .ref (Λ.2.2.2.1 (18, o1, 0)))] rfl ?_
  refine sm_loc [1, 2, 0] [(0, .ref (Λ.2.2.2.1 (18, o, 0))), (1, .ref (Λ.2.2.2.1 (18, o1, 0))), (2, .int (0 : Int32))] rfl ?_
  refine lp_ind (fun (X61 : Int32 → mC → Option mC) => ∀ (x2_61 : Int32) (v_61 : mC), Sm Γ Λ (0, 0) 61 [(0, .ref (Λ.2.2.2.1 (18, o, 0))), (1, .ref (Λ.2.2.2.1 (18, o1, 0))), (2, .int x2_61)] [] v_61 (X61 x2_61 v_61)) (fun _ _ => sm_none) (fun self61 hs61 x2_61 v_61 => ?_) 8192 _ _
  refine sm_iload_n hG 62 rfl dX1_copyFrom_61 rfl 2 rfl ?_
  refine sm_aload_n hG 63 rfl dX1_copyFrom_62 rfl 0 rfl ?_
  refine gC18_0 hG hC ho 66 rfl u1 f9 dX1_copyFrom_63 ?_
  refine sm_icmp_ge hG 148 69 rfl dX1_copyFrom_66 (by decide) ?_ ?_
  · exact sm_vret hG hT ⟨Nat.zero_le _, Nat.zero_le _⟩ dX1_copyFrom_148 rfl
  · refine sm_aload_n hG 70 rfl dX1_copyFrom_69 rfl 1 rfl ?_
    refine gC18_4 hG hC ho1 73 rfl u1 f27 dX1_copyFrom_70 ?_
    refine sm_iload_n hG 74 rfl dX1_copyFrom_73 rfl 2 rfl ?_
    refine lC22 hG hC ho1 75 rfl dX1_copyFrom_74 (fun hf74_1 => ?_)
    refine sm_iconst (x := (0 : Int32)) hG 76 rfl dX1_copyFrom_75 rfl ?_
    refine sm_aload_n hG 77 rfl dX1_copyFrom_76 rfl 0 rfl ?_
    refine gC18_4 hG hC ho 80 rfl u1 f27 dX1_copyFrom_77 ?_
    refine sm_iload_n hG 81 rfl dX1_copyFrom_80 rfl 2 rfl ?_
    refine lC22 hG hC ho 82 rfl dX1_copyFrom_81 (fun hf81_2 => ?_)
    refine sm_iconst (x := (0 : Int32)) hG 83 rfl dX1_copyFrom_82 rfl ?_
    refine sm_iconst (x := (4 : Int32)) hG 84 rfl dX1_copyFrom_83 rfl ?_
    refine cA hG (ic_26 hC ho1 hf74_1) (ic_26 hC ho hf81_2) 87 rfl fa1 fa2 fa3 fa4 (by decide) (Nat.le_of_ble_eq_true rfl) dX1_copyFrom_84 ?_
    refine sm_nmv (fun w84_5 => ?_)
    refine sm_aload_n hG 88 rfl dX1_copyFrom_87 rfl 1 rfl ?_
    refine gC18_5 hG hC ho1 91 rfl u1 f30 dX1_copyFrom_88 ?_
    refine sm_iload_n hG 92 rfl dX1_copyFrom_91 rfl 2 rfl ?_
    refine lC23 hG hC ho1 93 rfl dX1_copyFrom_92 (fun hf92_3 => ?_)
    refine sm_iconst (x := (0 : Int32)) hG 94 rfl dX1_copyFrom_93 rfl ?_
    refine sm_aload_n hG 95 rfl dX1_copyFrom_94 rfl 0 rfl ?_
    refine gC18_5 hG hC ho 98 rfl u1 f30 dX1_copyFrom_95 ?_
    refine sm_iload_n hG 99 rfl dX1_copyFrom_98 rfl 2 rfl ?_
    refine lC23 hG hC ho 100 rfl dX1_copyFrom_99 (fun hf99_4 => ?_)
    refine sm_iconst (x := (0 : Int32)) hG 101 rfl dX1_copyFrom_100 rfl ?_
    refine sm_iconst (x := (4 : Int32)) hG 102 rfl dX1_copyFrom_101 rfl ?_
    refine cA hG (ic_27 hC ho1 hf92_3) (ic_27 hC ho hf99_4) 105 rfl fa1 fa2 fa3 fa4 (by decide) (Nat.le_of_ble_eq_true rfl) dX1_copyFrom_102 ?_
    refine sm_nmv (fun w102_6 => ?_)
    refine sm_aload_n hG 106 rfl dX1_copyFrom_105 rfl 1 rfl ?_
    refine gC18_6 hG hC ho1 109 rfl u1 f33 dX1_copyFrom_106 ?_
    refine sm_iload_n hG 110 rfl dX1_copyFrom_109 rfl 2 rfl ?_
    refine lC24 hG hC ho1 111 rfl dX1_copyFrom_110 (fun hf110_5 => ?_)
    refine sm_iconst (x := (0 : Int32)) hG 112 rfl dX1_copyFrom_111 rfl ?_
    refine sm_aload_n hG 113 rfl dX1_copyFrom_112 rfl 0 rfl ?_
    refine gC18_6 hG hC ho 116 rfl u1 f33 dX1_copyFrom_113 ?_
    refine sm_iload_n hG 117 rfl dX1_copyFrom_116 rfl 2 rfl ?_
    refine lC24 hG hC ho 118 rfl dX1_copyFrom_117 (fun hf117_6 => ?_)
    refine sm_iconst (x := (0 : Int32)) hG 119 rfl dX1_copyFrom_118 rfl ?_
    refine sm_iconst (x := (4 : Int32)) hG 120 rfl dX1_copyFrom_119 rfl ?_
    refine cA hG (ic_28 hC ho1 hf110_5) (ic_28 hC ho hf117_6) 123 rfl fa1 fa2 fa3 fa4 (by decide) (Nat.le_of_ble_eq_true rfl) dX1_copyFrom_120 ?_
    refine sm_nmv (fun w120_7 => ?_)
    refine sm_aload_n hG 124 rfl dX1_copyFrom_123 rfl 1 rfl ?_
    refine gC18_7 hG hC ho1 127 rfl u1 f36 dX1_copyFrom_124 ?_
    refine sm_iload_n hG 128 rfl dX1_copyFrom_127 rfl 2 rfl ?_
    refine lC25 hG hC ho1 129 rfl dX1_copyFrom_128 (fun hf128_7 => ?_)
    refine sm_iconst (x := (0 : Int32)) hG 130 rfl dX1_copyFrom_129 rfl ?_
    refine sm_aload_n hG 131 rfl dX1_copyFrom_130 rfl 0 rfl ?_
    refine gC18_7 hG hC ho 134 rfl u1 f36 dX1_copyFrom_131 ?_
    refine sm_iload_n hG 135 rfl dX1_copyFrom_134 rfl 2 rfl ?_
    refine lC25 hG hC ho 136 rfl dX1_copyFrom_135 (fun hf135_8 => ?_)
    refine sm_iconst (x := (0 : Int32)) hG 137 rfl dX1_copyFrom_136 rfl ?_
    refine sm_bipush (x := (30 : Int32)) hG 139 rfl dX1_copyFrom_137 rfl ?_
    refine cA hG (ic_29 hC ho1 hf128_7) (ic_29 hC ho hf135_8) 142 rfl fa1 fa2 fa3 fa4 (by decide) (Nat.le_of_ble_eq_true rfl) dX1_copyFrom_139 ?_
    refine sm_nmv (fun w139_8 => ?_)
    refine sm_iinc hG 145 rfl dX1_copyFrom_142 (j := 2) rfl rfl (jlt hN rfl) [(2, .int (x2_61 + (1 : Int32))), (0, .ref (Λ.2.2.2.1 (18, o, 0))), (1, .ref (Λ.2.2.2.1 (18, o1, 0)))] rfl ?_
    refine sm_goto hG 61 dX1_copyFrom_145 (by decide) ?_
    refine sm_loc [1, 2, 0] [(0, .ref (Λ.2.2.2.1 (18, o, 0))), (1, .ref (Λ.2.2.2.1 (18, o1, 0))), (2, .int (x2_61 + (1 : Int32)))] rfl ?_
    exact hs61 _ _
abbrev rmX0_copyFrom : Room := { frames := 2, cells := 0, slots := 0, locals := 48 }
set_option maxRecDepth 100000 in
set_option maxHeartbeats 4000000 in
theorem c_X0_copyFrom {Λ : jL kC} (hC : LC Λ) {o : Nat} {o1 : Nat} (ho : o < 7) (ho1 : o1 < 7) {l : Launch} {v : mC} {r : mC} (hr_ : f_X0_copyFrom o o1 v = some r) : Ct l yX0_copyFrom wsX0_copyFrom rmX0_copyFrom Λ [.ref (Λ.2.2.2.1 (1, o, 0)), .ref (Λ.2.2.2.1 (1, o1, 0))] v none r := by
  refine ct_of (cc := cX0_copyFrom) (maxL := 2) (ret := none) (fun (w : mC) => ((none : Option Value), w)) hC.1 hr_ (by decide) rfl (Nat.le_of_ble_eq_true rfl) (fun Γ hG hT hN hl => ?_)
  subst hl
  have f18 : Cond.fieldLink RX0 18 "ChoirRegister$Book" "roster" "LChoirRegister$Roster;" ∈ wsX0_copyFrom := by decide +kernel
  have f25 : Cond.fieldLink RX0 25 "ChoirRegister$Book" "notes" "LChoirRegister$Notes;" ∈ wsX0_copyFrom := by decide +kernel
  have f32 : Cond.fieldLink RX0 32 "ChoirRegister$Book" "calendar" "LChoirRegister$Calendar;" ∈ wsX0_copyFrom := by decide +kernel
  have f36 : Cond.fieldLink RX0 36 "ChoirRegister$Book" "favours" "[I" ∈ wsX0_copyFrom := by decide +kernel
  have f40 : Cond.fieldLink RX0 40 "ChoirRegister$Book" "purse" "I" ∈ wsX0_copyFrom := by decide +kernel
  have f43 : Cond.fieldLink RX0 43 "ChoirRegister$Book" "paidForLending" "I" ∈ wsX0_copyFrom := by decide +kernel
  have f46 : Cond.fieldLink RX0 46 "ChoirRegister$Book" "collected" "I" ∈ wsX0_copyFrom := by decide +kernel
  have f49 : Cond.fieldLink RX0 49 "ChoirRegister$Book" "feesPaid" "I" ∈ wsX0_copyFrom := by decide +kernel
  have f52 : Cond.fieldLink RX0 52 "ChoirRegister$Book" "finesPaid" "I" ∈ wsX0_copyFrom := by decide +kernel
  have f9 : Cond.fieldLink RX0 9 "ChoirRegister$Book" "day" "I" ∈ wsX0_copyFrom := by decide +kernel
  have fa1 : Cond.methodLink RX0 65 arraycopyName ∈ wsX0_copyFrom := by decide +kernel
  have fa2 : Cond.native arraycopyName ∈ wsX0_copyFrom := by decide +kernel
  have fa3 : Cond.static arraycopyName ∈ wsX0_copyFrom := by decide +kernel
  have fa4 : Cond.initialized "java/lang/System" ∈ wsX0_copyFrom := by decide +kernel
  have u0 : ∀ w ∈ wsX00, w ∈ wsX0_copyFrom := by decide +kernel
  show Sm Γ Λ (0, 0) 0 [(0, .ref (Λ.2.2.2.1 (1, o, 0))), (1, .ref (Λ.2.2.2.1 (1, o1, 0)))] [] v _
  unfold f_X0_copyFrom
  refine sm_aload_n hG 1 rfl dX0_copyFrom_0 rfl 0 rfl ?_
  refine sm_aload_n hG 2 rfl dX0_copyFrom_1 rfl 1 rfl ?_
  refine gC1_0 hG hC ho1 5 rfl u0 f9 dX0_copyFrom_2 ?_
  refine pC1_0 hG hC ho 8 rfl u0 f9 dX0_copyFrom_5 ?_
  refine sm_nmv (fun w5_1 => ?_)
  refine sm_aload_n hG 9 rfl dX0_copyFrom_8 rfl 0 rfl ?_
  refine gC1_1 hG hC ho 12 rfl u0 f18 dX0_copyFrom_9 ?_
  refine sm_aload_n hG 13 rfl dX0_copyFrom_12 rfl 1 rfl ?_
  refine gC1_1 hG hC ho1 16 rfl u0 f18 dX0_copyFrom_13 ?_
  refine sm_callV hG (fun (w : mC) => ((none : Option Value), w)) (2, o, 0) [.ref (Λ.2.2.2.1 (2, o1, 0))] 19 rfl (okb hC (by decide) ho) (ce_2 hC _) (ci := 5) rfl (fun r_ hr_ => c_X5_copyFrom hC ho ho1  hr_) gX0_copyFrom_X5_copyFrom rfl (by decide) (by decide) (n := 1) rfl (Nat.le_of_ble_eq_true rfl) (by decide) ⟨Nat.zero_le _, Nat.zero_le _⟩ rfl dX0_copyFrom_16 (fun r_16 => ?_)
  refine sm_aload_n hG 20 rfl dX0_copyFrom_19 rfl 0 rfl ?_
  refine gC1_2 hG hC ho 23 rfl u0 f25 dX0_copyFrom_20 ?_
  refine sm_aload_n hG 24 rfl dX0_copyFrom_23 rfl 1 rfl ?_
  refine gC1_2 hG hC ho1 27 rfl u0 f25 dX0_copyFrom_24 ?_
  refine sm_callV hG (fun (w : mC) => ((none : Option Value), w)) (14, o, 0) [.ref (Λ.2.2.2.1 (14, o1, 0))] 30 rfl (okb hC (by decide) ho) (ce_14 hC _) (ci := 4) rfl (fun r_ hr_ => c_X4_copyFrom hC ho ho1  hr_) gX0_copyFrom_X4_copyFrom rfl (by decide) (by decide) (n := 1) rfl (Nat.le_of_ble_eq_true rfl) (by decide) ⟨Nat.zero_le _, Nat.zero_le _⟩ rfl dX0_copyFrom_27 (fun r_27 => ?_)
  refine sm_aload_n hG 31 rfl dX0_copyFrom_30 rfl 0 rfl ?_
  refine gC1_3 hG hC ho 34 rfl u0 f32 dX0_copyFrom_31 ?_
  refine sm_aload_n hG 35 rfl dX0_copyFrom_34 rfl 1 rfl ?_
  refine gC1_3 hG hC ho1 38 rfl u0 f32 dX0_copyFrom_35 ?_
  refine sm_callV hG (fun (w : mC) => ((none : Option Value), w)) (18, o, 0) [.ref (Λ.2.2.2.1 (18, o1, 0))] 41 rfl (okb hC (by decide) ho) (ce_18 hC _) (ci := 1) rfl (fun r_ hr_ => c_X1_copyFrom hC ho ho1  hr_) gX0_copyFrom_X1_copyFrom rfl (by decide) (by decide) (n := 1) rfl (Nat.le_of_ble_eq_true rfl) (by decide) ⟨Nat.zero_le _, Nat.zero_le _⟩ rfl dX0_copyFrom_38 (fun r_38 => ?_)
  refine sm_aload_n hG 42 rfl dX0_copyFrom_41 rfl 1 rfl ?_
  refine gC1_4 hG hC ho1 45 rfl u0 f36 dX0_copyFrom_42 ?_
  refine sm_iconst (x := (0 : Int32)) hG 46 rfl dX0_copyFrom_45 rfl ?_
  refine sm_aload_n hG 47 rfl dX0_copyFrom_46 rfl 0 rfl ?_
  refine gC1_4 hG hC ho 50 rfl u0 f36 dX0_copyFrom_47 ?_
  refine sm_iconst (x := (0 : Int32)) hG 51 rfl dX0_copyFrom_50 rfl ?_
  refine sm_iconst (x := (5 : Int32)) hG 52 rfl dX0_copyFrom_51 rfl ?_
  refine cA hG (ic_30 hC ho1) (ic_30 hC ho) 55 rfl fa1 fa2 fa3 fa4 (by decide) (Nat.le_of_ble_eq_true rfl) dX0_copyFrom_52 ?_
  refine sm_nmv (fun w52_2 => ?_)
  refine sm_aload_n hG 56 rfl dX0_copyFrom_55 rfl 0 rfl ?_
  refine sm_aload_n hG 57 rfl dX0_copyFrom_56 rfl 1 rfl ?_
  refine gC1_5 hG hC ho1 60 rfl u0 f40 dX0_copyFrom_57 ?_
  refine pC1_5 hG hC ho 63 rfl u0 f40 dX0_copyFrom_60 ?_
  refine sm_nmv (fun w60_3 => ?_)
  refine sm_aload_n hG 64 rfl dX0_copyFrom_63 rfl 0 rfl ?_
  refine sm_aload_n hG 65 rfl dX0_copyFrom_64 rfl 1 rfl ?_
  refine gC1_6 hG hC ho1 68 rfl u0 f43 dX0_copyFrom_65 ?_
  refine pC1_6 hG hC ho 71 rfl u0 f43 dX0_copyFrom_68 ?_
  refine sm_nmv (fun w68_4 => ?_)
  refine sm_aload_n hG 72 rfl dX0_copyFrom_71 rfl 0 rfl ?_
  refine sm_aload_n hG 73 rfl dX0_copyFrom_72 rfl 1 rfl ?_
  refine gC1_7 hG hC ho1 76 rfl u0 f46 dX0_copyFrom_73 ?_
  refine pC1_7 hG hC ho 79 rfl u0 f46 dX0_copyFrom_76 ?_
  refine sm_nmv (fun w76_5 => ?_)
  refine sm_aload_n hG 80 rfl dX0_copyFrom_79 rfl 0 rfl ?_
  refine sm_aload_n hG 81 rfl dX0_copyFrom_80 rfl 1 rfl ?_
  refine gC1_8 hG hC ho1 84 rfl u0 f49 dX0_copyFrom_81 ?_
  refine pC1_8 hG hC ho 87 rfl u0 f49 dX0_copyFrom_84 ?_
  refine sm_nmv (fun w84_6 => ?_)
  refine sm_aload_n hG 88 rfl dX0_copyFrom_87 rfl 0 rfl ?_
  refine sm_aload_n hG 89 rfl dX0_copyFrom_88 rfl 1 rfl ?_
  refine gC1_9 hG hC ho1 92 rfl u0 f52 dX0_copyFrom_89 ?_
  refine pC1_9 hG hC ho 95 rfl u0 f52 dX0_copyFrom_92 ?_
  refine sm_nmv (fun w92_7 => ?_)
  exact sm_vret hG hT ⟨Nat.zero_le _, Nat.zero_le _⟩ dX0_copyFrom_95 rfl
abbrev rmX6_keepState : Room := { frames := 3, cells := 0, slots := 0, locals := 69 }
set_option maxRecDepth 100000 in
set_option maxHeartbeats 4000000 in
theorem c_X6_keepState {Λ : jL kC} (hC : LC Λ)   {l : Launch} {v : mC} {r : mC} (hr_ : f_X6_keepState v = some r) : Ct l yX6_keepState wsX6_keepState rmX6_keepState Λ [.ref (Λ.2.2.2.1 (0, 0, 0))] v none r := by
  refine ct_of (cc := cX6_keepState) (maxL := 1) (ret := none) (fun (w : mC) => ((none : Option Value), w)) hC.1 hr_ (by decide) rfl (Nat.le_of_ble_eq_true rfl) (fun Γ hG hT hN hl => ?_)
  subst hl
  have f10 : Cond.fieldLink RX6 10 "ChoirRegister" "book" "LChoirRegister$Book;" ∈ wsX6_keepState := by decide +kernel
  have f26 : Cond.fieldLink RX6 26 "ChoirRegister" "recorded" "[LChoirRegister$Book;" ∈ wsX6_keepState := by decide +kernel
  have f30 : Cond.fieldLink RX6 30 "ChoirRegister" "recordedCount" "I" ∈ wsX6_keepState := by decide +kernel
  have u6 : ∀ w ∈ wsX60, w ∈ wsX6_keepState := by decide +kernel
  show Sm Γ Λ (0, 0) 0 [(0, .ref (Λ.2.2.2.1 (0, 0, 0)))] [] v _
  unfold f_X6_keepState
  refine sm_jn (fun (X12 : mC → Option mC) => ∀ (v_12 : mC), Sm Γ Λ (0, 0) 12 [(0, .ref (Λ.2.2.2.1 (0, 0, 0)))] [] v_12 (X12 v_12)) (fun v_12 => ?_) (fun j12 hj12 => ?_)
  · refine sm_aload_n hG 13 rfl dX6_keepState_12 rfl 0 rfl ?_
    refine gC0_4 hG hC  16 rfl u6 f26 dX6_keepState_13 ?_
    refine sm_aload_n hG 17 rfl dX6_keepState_16 rfl 0 rfl ?_
    refine gC0_5 hG hC  20 rfl u6 f30 dX6_keepState_17 ?_
    refine lC31 hG hC 21 rfl dX6_keepState_20 (fun hf20_1 => ?_)
    refine sm_aload_n hG 22 rfl dX6_keepState_21 rfl 0 rfl ?_
    refine gC0_0 hG hC  25 rfl u6 f10 dX6_keepState_22 ?_
    refine sm_callV hG (fun (w : mC) => ((none : Option Value), w)) (1, ix (v_12 (31, 0, 0) (ix (v_12 (0, 0, 0) 5))), 0) [.ref (Λ.2.2.2.1 (1, 0, 0))] 28 rfl (okb hC (by decide) hf20_1) (ce_1 hC _) (ci := 0) rfl (fun r_ hr_ => c_X0_copyFrom hC hf20_1 (by decide)  hr_) gX6_keepState_X0_copyFrom rfl (by decide) (by decide) (n := 1) rfl (Nat.le_of_ble_eq_true rfl) (by decide) ⟨Nat.zero_le _, Nat.zero_le _⟩ rfl dX6_keepState_25 (fun r_25 => ?_)
    refine sm_aload_n hG 29 rfl dX6_keepState_28 rfl 0 rfl ?_
    refine sm_dup hG 30 rfl dX6_keepState_29 rfl ?_
    refine gC0_5 hG hC  33 rfl u6 f30 dX6_keepState_30 ?_
    refine sm_iconst (x := (1 : Int32)) hG 34 rfl dX6_keepState_33 rfl ?_
    refine sm_iadd hG 35 rfl dX6_keepState_34 ?_
    refine pC0_5 hG hC  38 rfl u6 f30 dX6_keepState_35 ?_
    refine sm_nmv (fun w35_1 => ?_)
    exact sm_vret hG hT ⟨Nat.zero_le _, Nat.zero_le _⟩ dX6_keepState_38 rfl
  · refine sm_aload_n hG 1 rfl dX6_keepState_0 rfl 0 rfl ?_
    refine gC0_5 hG hC  4 rfl u6 f30 dX6_keepState_1 ?_
    refine sm_iconst (x := (4 : Int32)) hG 5 rfl dX6_keepState_4 rfl ?_
    refine sm_icmp_lt hG 12 8 rfl dX6_keepState_5 (by decide) ?_ ?_
    · exact hj12 _
    · refine sm_aload_n hG 9 rfl dX6_keepState_8 rfl 0 rfl ?_
      refine sm_callV hG (fun (w : mC) => ((none : Option Value), w)) (0, 0, 0) [] 12 rfl (ok0 hC) (ce_0 hC _) (ci := 6) rfl (fun r_ hr_ => c_X6_forgetOldestState hC   hr_) gX6_keepState_X6_forgetOldestState rfl (by decide) (by decide) (n := 0) rfl (Nat.le_of_ble_eq_true rfl) (by decide) ⟨Nat.zero_le _, Nat.zero_le _⟩ rfl dX6_keepState_9 (fun r_9 => ?_)
      exact hj12 _
abbrev rmX5_add : Room := { frames := 0, cells := 0, slots := 0, locals := 0 }
set_option maxRecDepth 100000 in
set_option maxHeartbeats 4000000 in
theorem c_X5_add {Λ : jL kC} (hC : LC Λ) {o : Nat} {x1 : Int32} {x2 : Int32} {x3 : Int32} {x4 : Int32} (ho : o < 7) {l : Launch} {v : mC} {r : (Int32 × mC)} (hr_ : f_X5_add o x1 x2 x3 x4 v = some r) : Ct l yX5_add wsX5_add rmX5_add Λ [.ref (Λ.2.2.2.1 (2, o, 0)), .int x1, .int x2, .int x3, .int x4] v (some (.int r.1)) r.2 := by
  refine ct_of (cc := cX5_add) (maxL := 6) (ret := (some .int)) (fun (q : Int32 × mC) => (some (Value.int q.1), q.2)) hC.1 hr_ (by decide) rfl (Nat.le_of_ble_eq_true rfl) (fun Γ hG hT hN hl => ?_)
  subst hl
  have f15 : Cond.fieldLink RX5 15 "ChoirRegister$Roster" "height" "[I" ∈ wsX5_add := by decide +kernel
  have f19 : Cond.fieldLink RX5 19 "ChoirRegister$Roster" "lowest" "[I" ∈ wsX5_add := by decide +kernel
  have f22 : Cond.fieldLink RX5 22 "ChoirRegister$Roster" "highest" "[I" ∈ wsX5_add := by decide +kernel
  have f25 : Cond.fieldLink RX5 25 "ChoirRegister$Roster" "birthDay" "[I" ∈ wsX5_add := by decide +kernel
  have f28 : Cond.fieldLink RX5 28 "ChoirRegister$Roster" "breakDay" "[I" ∈ wsX5_add := by decide +kernel
  have f31 : Cond.fieldLink RX5 31 "ChoirRegister$Roster" "choir" "[I" ∈ wsX5_add := by decide +kernel
  have f34 : Cond.fieldLink RX5 34 "ChoirRegister$Roster" "fee" "[I" ∈ wsX5_add := by decide +kernel
  have f37 : Cond.fieldLink RX5 37 "ChoirRegister$Roster" "lastDayInChoir" "[I" ∈ wsX5_add := by decide +kernel
  have f40 : Cond.fieldLink RX5 40 "ChoirRegister$Roster" "lastDayAway" "[I" ∈ wsX5_add := by decide +kernel
  have f43 : Cond.fieldLink RX5 43 "ChoirRegister$Roster" "feastsSung" "[I" ∈ wsX5_add := by decide +kernel
  have f46 : Cond.fieldLink RX5 46 "ChoirRegister$Roster" "descantsSung" "[I" ∈ wsX5_add := by decide +kernel
  have f9 : Cond.fieldLink RX5 9 "ChoirRegister$Roster" "count" "I" ∈ wsX5_add := by decide +kernel
  have fk55 : Cond.constant RX5 55 (1000000 : Int32) ∈ wsX5_add := by decide +kernel
  have u5 : ∀ w ∈ wsX50, w ∈ wsX5_add := by decide +kernel
  show Sm Γ Λ (0, 0) 0 [(0, .ref (Λ.2.2.2.1 (2, o, 0))), (1, .int x1), (2, .int x2), (3, .int x3), (4, .int x4)] [] v _
  unfold f_X5_add
  refine sm_aload_n hG 1 rfl dX5_add_0 rfl 0 rfl ?_
  refine gC2_0 hG hC ho 4 rfl u5 f9 dX5_add_1 ?_
  refine sm_istore hG 6 rfl dX5_add_4 (jlt hN rfl) [(5, .int (v (2, o, 0) 0)), (0, .ref (Λ.2.2.2.1 (2, o, 0))), (1, .int x1), (2, .int x2), (3, .int x3), (4, .int x4)] rfl ?_
  refine sm_aload_n hG 7 rfl dX5_add_6 rfl 1 rfl ?_
  refine gC2_1 hG hC ho 10 rfl u5 f15 dX5_add_7 ?_
  refine sm_iload hG 12 rfl dX5_add_10 0 rfl ?_
  refine sm_iload_n hG 13 rfl dX5_add_12 rfl 3 rfl ?_
  refine sC3 hG hC ho 14 rfl dX5_add_13 ?_
  refine sm_nmv (fun w13_1 => ?_)
  refine sm_aload_n hG 15 rfl dX5_add_14 rfl 1 rfl ?_
  refine gC2_2 hG hC ho 18 rfl u5 f19 dX5_add_15 ?_
  refine sm_iload hG 20 rfl dX5_add_18 0 rfl ?_
  refine sm_iload_n hG 21 rfl dX5_add_20 rfl 4 rfl ?_
  refine sC4 hG hC ho 22 rfl dX5_add_21 ?_
  refine sm_nmv (fun w21_2 => ?_)
  refine sm_aload_n hG 23 rfl dX5_add_22 rfl 1 rfl ?_
  refine gC2_3 hG hC ho 26 rfl u5 f22 dX5_add_23 ?_
  refine sm_iload hG 28 rfl dX5_add_26 0 rfl ?_
  refine sm_iload hG 30 rfl dX5_add_28 5 rfl ?_
  refine sC5 hG hC ho 31 rfl dX5_add_30 ?_
  refine sm_nmv (fun w30_3 => ?_)
  refine sm_aload_n hG 32 rfl dX5_add_31 rfl 1 rfl ?_
  refine gC2_4 hG hC ho 35 rfl u5 f25 dX5_add_32 ?_
  refine sm_iload hG 37 rfl dX5_add_35 0 rfl ?_
  refine sm_iload_n hG 38 rfl dX5_add_37 rfl 2 rfl ?_
  refine sC6 hG hC ho 39 rfl dX5_add_38 ?_
  refine sm_nmv (fun w38_4 => ?_)
  refine sm_aload_n hG 40 rfl dX5_add_39 rfl 1 rfl ?_
  refine gC2_5 hG hC ho 43 rfl u5 f28 dX5_add_40 ?_
  refine sm_iload hG 45 rfl dX5_add_43 0 rfl ?_
  refine sm_iconst (x := (-1 : Int32)) hG 46 rfl dX5_add_45 rfl ?_
  refine sC7 hG hC ho 47 rfl dX5_add_46 ?_
  refine sm_nmv (fun w46_5 => ?_)
  refine sm_aload_n hG 48 rfl dX5_add_47 rfl 1 rfl ?_
  refine gC2_6 hG hC ho 51 rfl u5 f31 dX5_add_48 ?_
  refine sm_iload hG 53 rfl dX5_add_51 0 rfl ?_
  refine sm_iconst (x := (-1 : Int32)) hG 54 rfl dX5_add_53 rfl ?_
  refine sC8 hG hC ho 55 rfl dX5_add_54 ?_
  refine sm_nmv (fun w54_6 => ?_)
  refine sm_aload_n hG 56 rfl dX5_add_55 rfl 1 rfl ?_
  refine gC2_7 hG hC ho 59 rfl u5 f34 dX5_add_56 ?_
  refine sm_iload hG 61 rfl dX5_add_59 0 rfl ?_
  refine sm_iconst (x := (0 : Int32)) hG 62 rfl dX5_add_61 rfl ?_
  refine sC9 hG hC ho 63 rfl dX5_add_62 ?_
  refine sm_nmv (fun w62_7 => ?_)
  refine sm_aload_n hG 64 rfl dX5_add_63 rfl 1 rfl ?_
  refine gC2_8 hG hC ho 67 rfl u5 f37 dX5_add_64 ?_
  refine sm_iload hG 69 rfl dX5_add_67 0 rfl ?_
  refine sm_ldc (x := (1000000 : Int32)) hG 71 rfl dX5_add_69 fk55 ?_
  refine sC10 hG hC ho 72 rfl dX5_add_71 ?_
  refine sm_nmv (fun w71_8 => ?_)
  refine sm_aload_n hG 73 rfl dX5_add_72 rfl 1 rfl ?_
  refine gC2_9 hG hC ho 76 rfl u5 f40 dX5_add_73 ?_
  refine sm_iload hG 78 rfl dX5_add_76 0 rfl ?_
  refine sm_iconst (x := (-1 : Int32)) hG 79 rfl dX5_add_78 rfl ?_
  refine sC11 hG hC ho 80 rfl dX5_add_79 ?_
  refine sm_nmv (fun w79_9 => ?_)
  refine sm_aload_n hG 81 rfl dX5_add_80 rfl 1 rfl ?_
  refine gC2_10 hG hC ho 84 rfl u5 f43 dX5_add_81 ?_
  refine sm_iload hG 86 rfl dX5_add_84 0 rfl ?_
  refine sm_iconst (x := (0 : Int32)) hG 87 rfl dX5_add_86 rfl ?_
  refine sC12 hG hC ho 88 rfl dX5_add_87 ?_
  refine sm_nmv (fun w87_10 => ?_)
  refine sm_aload_n hG 89 rfl dX5_add_88 rfl 1 rfl ?_
  refine gC2_11 hG hC ho 92 rfl u5 f46 dX5_add_89 ?_
  refine sm_iload hG 94 rfl dX5_add_92 0 rfl ?_
  refine sm_iconst (x := (0 : Int32)) hG 95 rfl dX5_add_94 rfl ?_
  refine sC13 hG hC ho 96 rfl dX5_add_95 ?_
  refine sm_nmv (fun w95_11 => ?_)
  refine sm_aload_n hG 97 rfl dX5_add_96 rfl 1 rfl ?_
  refine sm_dup hG 98 rfl dX5_add_97 rfl ?_
  refine gC2_0 hG hC ho 101 rfl u5 f9 dX5_add_98 ?_
  refine sm_iconst (x := (1 : Int32)) hG 102 rfl dX5_add_101 rfl ?_
  refine sm_iadd hG 103 rfl dX5_add_102 ?_
  refine pC2_0 hG hC ho 106 rfl u5 f9 dX5_add_103 ?_
  refine sm_nmv (fun w103_12 => ?_)
  refine sm_iload hG 108 rfl dX5_add_106 0 rfl ?_
  exact sm_iret hG hT ⟨Nat.zero_le _, Nat.zero_le _⟩ dX5_add_108 rfl
abbrev rmX0_enrol : Room := { frames := 1, cells := 0, slots := 0, locals := 25 }
set_option maxRecDepth 100000 in
set_option maxHeartbeats 4000000 in
theorem c_X0_enrol {Λ : jL kC} (hC : LC Λ) {o : Nat} {x1 : Int32} {x2 : Int32} {x3 : Int32} {x4 : Int32} {x5 : Int32} (ho : o < 7) {l : Launch} {v : mC} {r : (Int32 × mC)} (hr_ : f_X0_enrol o x1 x2 x3 x4 x5 v = some r) : Ct l yX0_enrol wsX0_enrol rmX0_enrol Λ [.ref (Λ.2.2.2.1 (1, o, 0)), .int x1, .int x2, .int x3, .int x4, .int x5] v (some (.int r.1)) r.2 := by
  refine ct_of (cc := cX0_enrol) (maxL := 7) (ret := (some .int)) (fun (q : Int32 × mC) => (some (Value.int q.1), q.2)) hC.1 hr_ (by decide) rfl (Nat.le_of_ble_eq_true rfl) (fun Γ hG hT hN hl => ?_)
  subst hl
  have f18 : Cond.fieldLink RX0 18 "ChoirRegister$Book" "roster" "LChoirRegister$Roster;" ∈ wsX0_enrol := by decide +kernel
  have f86 : Cond.fieldLink RX0 86 "ChoirRegister$Roster" "breakDay" "[I" ∈ wsX0_enrol := by decide +kernel
  have f9 : Cond.fieldLink RX0 9 "ChoirRegister$Book" "day" "I" ∈ wsX0_enrol := by decide +kernel
  have u0 : ∀ w ∈ wsX00, w ∈ wsX0_enrol := by decide +kernel
  have u5 : ∀ w ∈ wsX50, w ∈ wsX0_enrol := by decide +kernel
  show Sm Γ Λ (0, 0) 0 [(0, .ref (Λ.2.2.2.1 (1, o, 0))), (1, .int x1), (2, .int x2), (3, .int x3), (4, .int x4), (5, .int x5)] [] v _
  unfold f_X0_enrol
  refine sm_aload_n hG 1 rfl dX0_enrol_0 rfl 0 rfl ?_
  refine gC1_1 hG hC ho 4 rfl u0 f18 dX0_enrol_1 ?_
  refine sm_aload_n hG 5 rfl dX0_enrol_4 rfl 0 rfl ?_
  refine gC1_0 hG hC ho 8 rfl u0 f9 dX0_enrol_5 ?_
  refine sm_iload_n hG 9 rfl dX0_enrol_8 rfl 1 rfl ?_
  refine sm_sipush (x := (360 : Int32)) hG 12 rfl dX0_enrol_9 rfl ?_
  refine sm_imul hG 13 rfl dX0_enrol_12 ?_
  refine sm_isub hG 14 rfl dX0_enrol_13 ?_
  refine sm_iload_n hG 15 rfl dX0_enrol_14 rfl 2 rfl ?_
  refine sm_iload_n hG 16 rfl dX0_enrol_15 rfl 3 rfl ?_
  refine sm_iload hG 18 rfl dX0_enrol_16 4 rfl ?_
  refine sm_callV hG (fun (q : Int32 × mC) => (some (Value.int q.1), q.2)) (2, o, 0) [.int ((v (1, o, 0) 0) - (x1 * (360 : Int32))), .int x2, .int x3, .int x4] 21 rfl (okb hC (by decide) ho) (ce_2 hC _) (ci := 5) rfl (fun r_ hr_ => c_X5_add hC ho  hr_) gX0_enrol_X5_add rfl (by decide) (by decide) (n := 4) rfl (Nat.le_of_ble_eq_true rfl) (by decide) ⟨Nat.zero_le _, Nat.zero_le _⟩ rfl dX0_enrol_18 (fun r_18 => ?_)
  refine sm_istore hG 23 rfl dX0_enrol_21 (jlt hN rfl) [(6, .int r_18.1), (0, .ref (Λ.2.2.2.1 (1, o, 0))), (1, .int x1), (2, .int x2), (3, .int x3), (4, .int x4), (5, .int x5)] rfl ?_
  refine sm_iload_n hG 24 rfl dX0_enrol_23 rfl 2 rfl ?_
  refine sm_iload hG 26 rfl dX0_enrol_24 6 rfl ?_
  refine sm_icmp_ge hG 52 29 rfl dX0_enrol_26 (by decide) ?_ ?_
  · refine sm_iload hG 54 rfl dX0_enrol_52 0 rfl ?_
    exact sm_iret hG hT ⟨Nat.zero_le _, Nat.zero_le _⟩ dX0_enrol_54 rfl
  · refine sm_aload_n hG 30 rfl dX0_enrol_29 rfl 1 rfl ?_
    refine gC1_1 hG hC ho 33 rfl u0 f18 dX0_enrol_30 ?_
    refine gC2_5 hG hC ho 36 rfl u5 f86 dX0_enrol_33 ?_
    refine sm_iload hG 38 rfl dX0_enrol_36 0 rfl ?_
    refine sm_aload_n hG 39 rfl dX0_enrol_38 rfl 1 rfl ?_
    refine gC1_0 hG hC ho 42 rfl u0 f9 dX0_enrol_39 ?_
    refine sm_iload hG 44 rfl dX0_enrol_42 6 rfl ?_
    refine sm_iload_n hG 45 rfl dX0_enrol_44 rfl 2 rfl ?_
    refine sm_isub hG 46 rfl dX0_enrol_45 ?_
    refine sm_sipush (x := (360 : Int32)) hG 49 rfl dX0_enrol_46 rfl ?_
    refine sm_imul hG 50 rfl dX0_enrol_49 ?_
    refine sm_iadd hG 51 rfl dX0_enrol_50 ?_
    refine sm_nmi (fun y50_1 => ?_)
    refine sC7 hG hC ho 52 rfl dX0_enrol_51 ?_
    refine sm_nmv (fun w51_2 => ?_)
    refine sm_iload hG 54 rfl dX0_enrol_52 0 rfl ?_
    exact sm_iret hG hT ⟨Nat.zero_le _, Nat.zero_le _⟩ dX0_enrol_54 rfl
abbrev rmX5_has : Room := { frames := 0, cells := 0, slots := 0, locals := 0 }
set_option maxRecDepth 100000 in
set_option maxHeartbeats 4000000 in
theorem c_X5_has {Λ : jL kC} (hC : LC Λ) {o : Nat} {x1 : Int32} (ho : o < 7) {l : Launch} {v : mC} {r : Int32} (hr_ : f_X5_has o x1 v = some r) : Ct l yX5_has wsX5_has rmX5_has Λ [.ref (Λ.2.2.2.1 (2, o, 0)), .int x1] v (some (.int r)) v := by
  refine ct_of (cc := cX5_has) (maxL := 2) (ret := (some .boolean)) (fun (q : Int32) => (some (Value.int q), v)) hC.1 hr_ (by decide) rfl (Nat.le_of_ble_eq_true rfl) (fun Γ hG hT hN hl => ?_)
  subst hl
  have f9 : Cond.fieldLink RX5 9 "ChoirRegister$Roster" "count" "I" ∈ wsX5_has := by decide +kernel
  have u5 : ∀ w ∈ wsX50, w ∈ wsX5_has := by decide +kernel
  show Sm Γ Λ (0, 0) 0 [(0, .ref (Λ.2.2.2.1 (2, o, 0))), (1, .int x1)] [] v _
  unfold f_X5_has
  refine sm_iload_n hG 1 rfl dX5_has_0 rfl 1 rfl ?_
  refine sm_if_lt hG 16 4 rfl dX5_has_1 (by decide) ?_ ?_
  · refine sm_iconst (x := (0 : Int32)) hG 17 rfl dX5_has_16 rfl ?_
    exact sm_bret hG hT ⟨Nat.zero_le _, Nat.zero_le _⟩ dX5_has_17 rfl
  · refine sm_iload_n hG 5 rfl dX5_has_4 rfl 1 rfl ?_
    refine sm_aload_n hG 6 rfl dX5_has_5 rfl 0 rfl ?_
    refine gC2_0 hG hC ho 9 rfl u5 f9 dX5_has_6 ?_
    refine sm_icmp_ge hG 16 12 rfl dX5_has_9 (by decide) ?_ ?_
    · refine sm_iconst (x := (0 : Int32)) hG 17 rfl dX5_has_16 rfl ?_
      exact sm_bret hG hT ⟨Nat.zero_le _, Nat.zero_le _⟩ dX5_has_17 rfl
    · refine sm_iconst (x := (1 : Int32)) hG 13 rfl dX5_has_12 rfl ?_
      refine sm_goto hG 17 dX5_has_13 (by decide) ?_
      exact sm_bret hG hT ⟨Nat.zero_le _, Nat.zero_le _⟩ dX5_has_17 rfl
abbrev rmX5_hasLeftBy : Room := { frames := 0, cells := 0, slots := 0, locals := 0 }
set_option maxRecDepth 100000 in
set_option maxHeartbeats 4000000 in
theorem c_X5_hasLeftBy {Λ : jL kC} (hC : LC Λ) {o : Nat} {x1 : Int32} {x2 : Int32} (ho : o < 7) {l : Launch} {v : mC} {r : Int32} (hr_ : f_X5_hasLeftBy o x1 x2 v = some r) : Ct l yX5_hasLeftBy wsX5_hasLeftBy rmX5_hasLeftBy Λ [.ref (Λ.2.2.2.1 (2, o, 0)), .int x1, .int x2] v (some (.int r)) v := by
  refine ct_of (cc := cX5_hasLeftBy) (maxL := 3) (ret := (some .boolean)) (fun (q : Int32) => (some (Value.int q), v)) hC.1 hr_ (by decide) rfl (Nat.le_of_ble_eq_true rfl) (fun Γ hG hT hN hl => ?_)
  subst hl
  have f37 : Cond.fieldLink RX5 37 "ChoirRegister$Roster" "lastDayInChoir" "[I" ∈ wsX5_hasLeftBy := by decide +kernel
  have u5 : ∀ w ∈ wsX50, w ∈ wsX5_hasLeftBy := by decide +kernel
  show Sm Γ Λ (0, 0) 0 [(0, .ref (Λ.2.2.2.1 (2, o, 0))), (1, .int x1), (2, .int x2)] [] v _
  unfold f_X5_hasLeftBy
  refine sm_iload_n hG 1 rfl dX5_hasLeftBy_0 rfl 2 rfl ?_
  refine sm_aload_n hG 2 rfl dX5_hasLeftBy_1 rfl 0 rfl ?_
  refine gC2_8 hG hC ho 5 rfl u5 f37 dX5_hasLeftBy_2 ?_
  refine sm_iload_n hG 6 rfl dX5_hasLeftBy_5 rfl 1 rfl ?_
  refine lC10 hG hC ho 7 rfl dX5_hasLeftBy_6 ?_
  refine sm_icmp_le hG 14 10 rfl dX5_hasLeftBy_7 (by decide) ?_ ?_
  · refine sm_iconst (x := (0 : Int32)) hG 15 rfl dX5_hasLeftBy_14 rfl ?_
    exact sm_bret hG hT ⟨Nat.zero_le _, Nat.zero_le _⟩ dX5_hasLeftBy_15 rfl
  · refine sm_iconst (x := (1 : Int32)) hG 11 rfl dX5_hasLeftBy_10 rfl ?_
    refine sm_goto hG 15 dX5_hasLeftBy_11 (by decide) ?_
    exact sm_bret hG hT ⟨Nat.zero_le _, Nat.zero_le _⟩ dX5_hasLeftBy_15 rfl
abbrev rmX0_refusalToDismiss : Room := { frames := 1, cells := 0, slots := 0, locals := 22 }
set_option maxRecDepth 100000 in
set_option maxHeartbeats 4000000 in
theorem c_X0_refusalToDismiss {Λ : jL kC} (hC : LC Λ) {o : Nat} {x1 : Int32} (ho : o < 7) {l : Launch} {v : mC} {r : Int32} (hr_ : f_X0_refusalToDismiss o x1 v = some r) : Ct l yX0_refusalToDismiss wsX0_refusalToDismiss rmX0_refusalToDismiss Λ [.ref (Λ.2.2.2.1 (1, o, 0)), .int x1] v (some (.int r)) v := by
  refine ct_of (cc := cX0_refusalToDismiss) (maxL := 2) (ret := (some .int)) (fun (q : Int32) => (some (Value.int q), v)) hC.1 hr_ (by decide) rfl (Nat.le_of_ble_eq_true rfl) (fun Γ hG hT hN hl => ?_)
  subst hl
  have f18 : Cond.fieldLink RX0 18 "ChoirRegister$Book" "roster" "LChoirRegister$Roster;" ∈ wsX0_refusalToDismiss := by decide +kernel
  have f9 : Cond.fieldLink RX0 9 "ChoirRegister$Book" "day" "I" ∈ wsX0_refusalToDismiss := by decide +kernel
  have u0 : ∀ w ∈ wsX00, w ∈ wsX0_refusalToDismiss := by decide +kernel
  show Sm Γ Λ (0, 0) 0 [(0, .ref (Λ.2.2.2.1 (1, o, 0))), (1, .int x1)] [] v _
  unfold f_X0_refusalToDismiss
  refine sm_aload_n hG 1 rfl dX0_refusalToDismiss_0 rfl 0 rfl ?_
  refine gC1_1 hG hC ho 4 rfl u0 f18 dX0_refusalToDismiss_1 ?_
  refine sm_iload_n hG 5 rfl dX0_refusalToDismiss_4 rfl 1 rfl ?_
  refine sm_callV hG (fun (q : Int32) => (some (Value.int q), v)) (2, o, 0) [.int x1] 8 rfl (okb hC (by decide) ho) (ce_2 hC _) (ci := 5) rfl (fun r_ hr_ => c_X5_has hC ho  hr_) gX0_refusalToDismiss_X5_has rfl (by decide) (by decide) (n := 1) rfl (Nat.le_of_ble_eq_true rfl) (by decide) ⟨Nat.zero_le _, Nat.zero_le _⟩ rfl dX0_refusalToDismiss_5 (fun r_5 => ?_)
  refine sm_if_ne hG 13 11 rfl dX0_refusalToDismiss_8 (by decide) ?_ ?_
  · refine sm_aload_n hG 14 rfl dX0_refusalToDismiss_13 rfl 0 rfl ?_
    refine gC1_1 hG hC ho 17 rfl u0 f18 dX0_refusalToDismiss_14 ?_
    refine sm_iload_n hG 18 rfl dX0_refusalToDismiss_17 rfl 1 rfl ?_
    refine sm_aload_n hG 19 rfl dX0_refusalToDismiss_18 rfl 0 rfl ?_
    refine gC1_0 hG hC ho 22 rfl u0 f9 dX0_refusalToDismiss_19 ?_
    refine sm_callV hG (fun (q : Int32) => (some (Value.int q), v)) (2, o, 0) [.int x1, .int (v (1, o, 0) 0)] 25 rfl (okb hC (by decide) ho) (ce_2 hC _) (ci := 5) rfl (fun r_ hr_ => c_X5_hasLeftBy hC ho  hr_) gX0_refusalToDismiss_X5_hasLeftBy rfl (by decide) (by decide) (n := 2) rfl (Nat.le_of_ble_eq_true rfl) (by decide) ⟨Nat.zero_le _, Nat.zero_le _⟩ rfl dX0_refusalToDismiss_22 (fun r_22 => ?_)
    refine sm_if_eq hG 32 28 rfl dX0_refusalToDismiss_25 (by decide) ?_ ?_
    · refine sm_iconst (x := (0 : Int32)) hG 33 rfl dX0_refusalToDismiss_32 rfl ?_
      exact sm_iret hG hT ⟨Nat.zero_le _, Nat.zero_le _⟩ dX0_refusalToDismiss_33 rfl
    · refine sm_iconst (x := (3 : Int32)) hG 29 rfl dX0_refusalToDismiss_28 rfl ?_
      refine sm_goto hG 33 dX0_refusalToDismiss_29 (by decide) ?_
      exact sm_iret hG hT ⟨Nat.zero_le _, Nat.zero_le _⟩ dX0_refusalToDismiss_33 rfl
  · refine sm_iconst (x := (1 : Int32)) hG 12 rfl dX0_refusalToDismiss_11 rfl ?_
    exact sm_iret hG hT ⟨Nat.zero_le _, Nat.zero_le _⟩ dX0_refusalToDismiss_12 rfl
abbrev rmX5_countInChoir : Room := { frames := 1, cells := 0, slots := 0, locals := 22 }
set_option maxRecDepth 100000 in
set_option maxHeartbeats 4000000 in
theorem c_X5_countInChoir {Λ : jL kC} (hC : LC Λ) {o : Nat} {x1 : Int32} (ho : o < 7) {l : Launch} {v : mC} {r : Int32} (hr_ : f_X5_countInChoir o x1 v = some r) : Ct l yX5_countInChoir wsX5_countInChoir rmX5_countInChoir Λ [.ref (Λ.2.2.2.1 (2, o, 0)), .int x1] v (some (.int r)) v := by
  refine ct_of (cc := cX5_countInChoir) (maxL := 4) (ret := (some .int)) (fun (q : Int32) => (some (Value.int q), v)) hC.1 hr_ (by decide) rfl (Nat.le_of_ble_eq_true rfl) (fun Γ hG hT hN hl => ?_)
  subst hl
  have f9 : Cond.fieldLink RX5 9 "ChoirRegister$Roster" "count" "I" ∈ wsX5_countInChoir := by decide +kernel
  have u5 : ∀ w ∈ wsX50, w ∈ wsX5_countInChoir := by decide +kernel
  show Sm Γ Λ (0, 0) 0 [(0, .ref (Λ.2.2.2.1 (2, o, 0))), (1, .int x1)] [] v _
  unfold f_X5_countInChoir
  refine sm_iconst (x := (0 : Int32)) hG 1 rfl dX5_countInChoir_0 rfl ?_
  refine sm_istore_n hG 2 rfl dX5_countInChoir_1 rfl (jlt hN rfl) [(2, .int (0 : Int32)), (0, .ref (Λ.2.2.2.1 (2, o, 0))), (1, .int x1)] rfl ?_
  refine sm_iconst (x := (0 : Int32)) hG 3 rfl dX5_countInChoir_2 rfl ?_
  refine sm_istore_n hG 4 rfl dX5_countInChoir_3 rfl (jlt hN rfl) [(3, .int (0 : Int32)), (2, .int (0 : Int32)), (0, .ref (Λ.2.2.2.1 (2, o, 0))), (1, .int x1)] rfl ?_
  refine sm_loc [2, 3, 1, 0] [(0, .ref (Λ.2.2.2.1 (2, o, 0))), (1, .int x1), (2, .int (0 : Int32)), (3, .int (0 : Int32))] rfl ?_
  refine lp_ind (fun (X4 : Int32 → Int32 → Option Int32) => ∀ (x2_4 : Int32) (x3_4 : Int32), Sm Γ Λ (0, 0) 4 [(0, .ref (Λ.2.2.2.1 (2, o, 0))), (1, .int x1), (2, .int x2_4), (3, .int x3_4)] [] v (X4 x2_4 x3_4)) (fun _ _ => sm_none) (fun self4 hs4 x2_4 x3_4 => ?_) 8192 _ _
  refine sm_iload_n hG 5 rfl dX5_countInChoir_4 rfl 3 rfl ?_
  refine sm_aload_n hG 6 rfl dX5_countInChoir_5 rfl 0 rfl ?_
  refine gC2_0 hG hC ho 9 rfl u5 f9 dX5_countInChoir_6 ?_
  refine sm_icmp_ge hG 30 12 rfl dX5_countInChoir_9 (by decide) ?_ ?_
  · refine sm_iload_n hG 31 rfl dX5_countInChoir_30 rfl 2 rfl ?_
    exact sm_iret hG hT ⟨Nat.zero_le _, Nat.zero_le _⟩ dX5_countInChoir_31 rfl
  · refine sm_aload_n hG 13 rfl dX5_countInChoir_12 rfl 0 rfl ?_
    refine sm_iload_n hG 14 rfl dX5_countInChoir_13 rfl 3 rfl ?_
    refine sm_iload_n hG 15 rfl dX5_countInChoir_14 rfl 1 rfl ?_
    refine sm_callV hG (fun (q : Int32) => (some (Value.int q), v)) (2, o, 0) [.int x3_4, .int x1] 18 rfl (okb hC (by decide) ho) (ce_2 hC _) (ci := 5) rfl (fun r_ hr_ => c_X5_hasLeftBy hC ho  hr_) gX5_countInChoir_X5_hasLeftBy rfl (by decide) (by decide) (n := 2) rfl (Nat.le_of_ble_eq_true rfl) (by decide) ⟨Nat.zero_le _, Nat.zero_le _⟩ rfl dX5_countInChoir_15 (fun r_15 => ?_)
    refine sm_if_ne hG 24 21 rfl dX5_countInChoir_18 (by decide) ?_ ?_
    · refine sm_iinc hG 27 rfl dX5_countInChoir_24 (j := 3) rfl rfl (jlt hN rfl) [(3, .int (x3_4 + (1 : Int32))), (0, .ref (Λ.2.2.2.1 (2, o, 0))), (1, .int x1), (2, .int x2_4)] rfl ?_
      refine sm_goto hG 4 dX5_countInChoir_27 (by decide) ?_
      refine sm_loc [1, 2, 3, 0] [(0, .ref (Λ.2.2.2.1 (2, o, 0))), (1, .int x1), (2, .int x2_4), (3, .int (x3_4 + (1 : Int32)))] rfl ?_
      exact hs4 _ _
    · refine sm_iinc hG 24 rfl dX5_countInChoir_21 (j := 2) rfl rfl (jlt hN rfl) [(2, .int (x2_4 + (1 : Int32))), (0, .ref (Λ.2.2.2.1 (2, o, 0))), (1, .int x1), (3, .int x3_4)] rfl ?_
      refine sm_iinc hG 27 rfl dX5_countInChoir_24 (j := 3) rfl rfl (jlt hN rfl) [(3, .int (x3_4 + (1 : Int32))), (2, .int (x2_4 + (1 : Int32))), (0, .ref (Λ.2.2.2.1 (2, o, 0))), (1, .int x1)] rfl ?_
      refine sm_goto hG 4 dX5_countInChoir_27 (by decide) ?_
      refine sm_loc [2, 3, 1, 0] [(0, .ref (Λ.2.2.2.1 (2, o, 0))), (1, .int x1), (2, .int (x2_4 + (1 : Int32))), (3, .int (x3_4 + (1 : Int32)))] rfl ?_
      exact hs4 _ _
abbrev rmX0_dismiss : Room := { frames := 2, cells := 0, slots := 0, locals := 45 }
set_option maxRecDepth 100000 in
set_option maxHeartbeats 4000000 in
theorem c_X0_dismiss {Λ : jL kC} (hC : LC Λ) {o : Nat} {x1 : Int32} (ho : o < 7) {l : Launch} {v : mC} {r : (Int32 × mC)} (hr_ : f_X0_dismiss o x1 v = some r) : Ct l yX0_dismiss wsX0_dismiss rmX0_dismiss Λ [.ref (Λ.2.2.2.1 (1, o, 0)), .int x1] v (some (.int r.1)) r.2 := by
  refine ct_of (cc := cX0_dismiss) (maxL := 2) (ret := (some .int)) (fun (q : Int32 × mC) => (some (Value.int q.1), q.2)) hC.1 hr_ (by decide) rfl (Nat.le_of_ble_eq_true rfl) (fun Γ hG hT hN hl => ?_)
  subst hl
  have f18 : Cond.fieldLink RX0 18 "ChoirRegister$Book" "roster" "LChoirRegister$Roster;" ∈ wsX0_dismiss := by decide +kernel
  have f9 : Cond.fieldLink RX0 9 "ChoirRegister$Book" "day" "I" ∈ wsX0_dismiss := by decide +kernel
  have f97 : Cond.fieldLink RX0 97 "ChoirRegister$Roster" "lastDayInChoir" "[I" ∈ wsX0_dismiss := by decide +kernel
  have u0 : ∀ w ∈ wsX00, w ∈ wsX0_dismiss := by decide +kernel
  have u5 : ∀ w ∈ wsX50, w ∈ wsX0_dismiss := by decide +kernel
  show Sm Γ Λ (0, 0) 0 [(0, .ref (Λ.2.2.2.1 (1, o, 0))), (1, .int x1)] [] v _
  unfold f_X0_dismiss
  refine sm_aload_n hG 1 rfl dX0_dismiss_0 rfl 0 rfl ?_
  refine gC1_1 hG hC ho 4 rfl u0 f18 dX0_dismiss_1 ?_
  refine gC2_8 hG hC ho 7 rfl u5 f97 dX0_dismiss_4 ?_
  refine sm_iload_n hG 8 rfl dX0_dismiss_7 rfl 1 rfl ?_
  refine sm_aload_n hG 9 rfl dX0_dismiss_8 rfl 0 rfl ?_
  refine gC1_0 hG hC ho 12 rfl u0 f9 dX0_dismiss_9 ?_
  refine sm_iconst (x := (1 : Int32)) hG 13 rfl dX0_dismiss_12 rfl ?_
  refine sm_isub hG 14 rfl dX0_dismiss_13 ?_
  refine sC10 hG hC ho 15 rfl dX0_dismiss_14 ?_
  refine sm_nmv (fun w14_1 => ?_)
  refine sm_aload_n hG 16 rfl dX0_dismiss_15 rfl 0 rfl ?_
  refine gC1_1 hG hC ho 19 rfl u0 f18 dX0_dismiss_16 ?_
  refine sm_aload_n hG 20 rfl dX0_dismiss_19 rfl 0 rfl ?_
  refine gC1_0 hG hC ho 23 rfl u0 f9 dX0_dismiss_20 ?_
  refine sm_callV hG (fun (q : Int32) => (some (Value.int q), w14_1)) (2, o, 0) [.int (w14_1 (1, o, 0) 0)] 26 rfl (okb hC (by decide) ho) (ce_2 hC _) (ci := 5) rfl (fun r_ hr_ => c_X5_countInChoir hC ho  hr_) gX0_dismiss_X5_countInChoir rfl (by decide) (by decide) (n := 1) rfl (Nat.le_of_ble_eq_true rfl) (by decide) ⟨Nat.zero_le _, Nat.zero_le _⟩ rfl dX0_dismiss_23 (fun r_23 => ?_)
  exact sm_iret hG hT ⟨Nat.zero_le _, Nat.zero_le _⟩ dX0_dismiss_26 rfl
abbrev rmX0_refusalToHire : Room := { frames := 3, cells := 0, slots := 0, locals := 65 }
set_option maxRecDepth 100000 in
set_option maxHeartbeats 4000000 in
theorem c_X0_refusalToHire {Λ : jL kC} (hC : LC Λ) {o : Nat} {x1 : Int32} {x2 : Int32} {x3 : Int32} {x4 : Int32} {x5 : Int32} {x6 : Int32} (ho : o < 7) {l : Launch} {v : mC} {r : Int32} (hr_ : f_X0_refusalToHire o x1 x2 x3 x4 x5 x6 v = some r) : Ct l yX0_refusalToHire wsX0_refusalToHire rmX0_refusalToHire Λ [.ref (Λ.2.2.2.1 (1, o, 0)), .int x1, .int x2, .int x3, .int x4, .int x5, .int x6] v (some (.int r)) v := by
  refine ct_of (cc := cX0_refusalToHire) (maxL := 8) (ret := (some .int)) (fun (q : Int32) => (some (Value.int q), v)) hC.1 hr_ (by decide) rfl (Nat.le_of_ble_eq_true rfl) (fun Γ hG hT hN hl => ?_)
  subst hl
  have f18 : Cond.fieldLink RX0 18 "ChoirRegister$Book" "roster" "LChoirRegister$Roster;" ∈ wsX0_refusalToHire := by decide +kernel
  have f36 : Cond.fieldLink RX0 36 "ChoirRegister$Book" "favours" "[I" ∈ wsX0_refusalToHire := by decide +kernel
  have fi_X6_isHeightAndRange : Cond.initialized yX6_isHeightAndRange.cls ∈ wsX0_refusalToHire := by decide +kernel
  have fi_X6_isWithin : Cond.initialized yX6_isWithin.cls ∈ wsX0_refusalToHire := by decide +kernel
  have fs_X6_isHeightAndRange : Cond.static yX6_isHeightAndRange ∈ wsX0_refusalToHire := by decide +kernel
  have fs_X6_isWithin : Cond.static yX6_isWithin ∈ wsX0_refusalToHire := by decide +kernel
  have u0 : ∀ w ∈ wsX00, w ∈ wsX0_refusalToHire := by decide +kernel
  show Sm Γ Λ (0, 0) 0 [(0, .ref (Λ.2.2.2.1 (1, o, 0))), (1, .int x1), (2, .int x2), (3, .int x3), (4, .int x4), (5, .int x5), (6, .int x6)] [] v _
  unfold f_X0_refusalToHire
  refine sm_iload_n hG 1 rfl dX0_refusalToHire_0 rfl 1 rfl ?_
  refine sm_iconst (x := (0 : Int32)) hG 2 rfl dX0_refusalToHire_1 rfl ?_
  refine sm_iconst (x := (4 : Int32)) hG 3 rfl dX0_refusalToHire_2 rfl ?_
  refine sm_callN hG (host := "ChoirRegister") (fun (q : Int32) => (some (Value.int q), v)) [.int x1, .int (0 : Int32), .int (4 : Int32)] 6 rfl (fun hX => (hC.2.2.2 _ _ hX).1 _ (by decide +kernel)) (fun r_ hr_ => c_X6_isWithin hC   hr_) gX0_refusalToHire_X6_isWithin_n71 fs_X6_isWithin fi_X6_isWithin rfl (by decide) (by decide) (n := 3) rfl (Nat.le_of_ble_eq_true rfl) (by decide) ⟨Nat.zero_le _, Nat.zero_le _⟩ rfl dX0_refusalToHire_3 (fun r_3 => ?_)
  refine sm_if_ne hG 11 9 rfl dX0_refusalToHire_6 (by decide) ?_ ?_
  · refine sm_jn (fun (X37 : Int32 → Option Int32) => ∀ (s0_37 : Int32), Sm Γ Λ (0, 0) 37 [(0, .ref (Λ.2.2.2.1 (1, o, 0))), (1, .int x1), (3, .int x3), (4, .int x4), (5, .int x5)] [.int s0_37] v (X37 s0_37)) (fun s0_37 => ?_) (fun j37 hj37 => ?_)
    · refine sm_istore hG 39 rfl dX0_refusalToHire_37 (jlt hN rfl) [(7, .int s0_37), (0, .ref (Λ.2.2.2.1 (1, o, 0))), (1, .int x1), (3, .int x3), (4, .int x4), (5, .int x5)] rfl ?_
      refine sm_iload hG 41 rfl dX0_refusalToHire_39 0 rfl ?_
      refine sm_if_eq hG 55 44 rfl dX0_refusalToHire_41 (by decide) ?_ ?_
      · refine sm_iconst (x := (2 : Int32)) hG 56 rfl dX0_refusalToHire_55 rfl ?_
        exact sm_iret hG hT ⟨Nat.zero_le _, Nat.zero_le _⟩ dX0_refusalToHire_56 rfl
      · refine sm_iload_n hG 45 rfl dX0_refusalToHire_44 rfl 3 rfl ?_
        refine sm_iload hG 47 rfl dX0_refusalToHire_45 4 rfl ?_
        refine sm_iload hG 49 rfl dX0_refusalToHire_47 5 rfl ?_
        refine sm_callN hG (host := "ChoirRegister") (fun (q : Int32) => (some (Value.int q), v)) [.int x3, .int x4, .int x5] 52 rfl (fun hX => (hC.2.2.2 _ _ hX).1 _ (by decide +kernel)) (fun r_ hr_ => c_X6_isHeightAndRange hC   hr_) gX0_refusalToHire_X6_isHeightAndRange_n75 fs_X6_isHeightAndRange fi_X6_isHeightAndRange rfl (by decide) (by decide) (n := 3) rfl (Nat.le_of_ble_eq_true rfl) (by decide) ⟨Nat.zero_le _, Nat.zero_le _⟩ rfl dX0_refusalToHire_49 (fun r_49 => ?_)
        refine sm_if_ne hG 57 55 rfl dX0_refusalToHire_52 (by decide) ?_ ?_
        · refine sm_aload_n hG 58 rfl dX0_refusalToHire_57 rfl 1 rfl ?_
          refine gC1_1 hG hC ho 61 rfl u0 f18 dX0_refusalToHire_58 ?_
          refine sm_callV hG (fun (q : Int32) => (some (Value.int q), v)) (2, o, 0) [] 64 rfl (okb hC (by decide) ho) (ce_2 hC _) (ci := 5) rfl (fun r_ hr_ => c_X5_isFull hC ho  hr_) gX0_refusalToHire_X5_isFull rfl (by decide) (by decide) (n := 0) rfl (Nat.le_of_ble_eq_true rfl) (by decide) ⟨Nat.zero_le _, Nat.zero_le _⟩ rfl dX0_refusalToHire_61 (fun r_61 => ?_)
          refine sm_if_ne hG 78 67 rfl dX0_refusalToHire_64 (by decide) ?_ ?_
          · refine sm_iconst (x := (3 : Int32)) hG 79 rfl dX0_refusalToHire_78 rfl ?_
            refine sm_goto hG 83 dX0_refusalToHire_79 (by decide) ?_
            exact sm_iret hG hT ⟨Nat.zero_le _, Nat.zero_le _⟩ dX0_refusalToHire_83 rfl
          · refine sm_aload_n hG 68 rfl dX0_refusalToHire_67 rfl 1 rfl ?_
            refine gC1_4 hG hC ho 71 rfl u0 f36 dX0_refusalToHire_68 ?_
            refine sm_iload_n hG 72 rfl dX0_refusalToHire_71 rfl 2 rfl ?_
            refine lC30 hG hC ho 73 rfl dX0_refusalToHire_72 ?_
            refine sm_bipush (x := (-3 : Int32)) hG 75 rfl dX0_refusalToHire_73 rfl ?_
            refine sm_icmp_gt hG 82 78 rfl dX0_refusalToHire_75 (by decide) ?_ ?_
            · refine sm_iconst (x := (0 : Int32)) hG 83 rfl dX0_refusalToHire_82 rfl ?_
              exact sm_iret hG hT ⟨Nat.zero_le _, Nat.zero_le _⟩ dX0_refusalToHire_83 rfl
            · refine sm_iconst (x := (3 : Int32)) hG 79 rfl dX0_refusalToHire_78 rfl ?_
              refine sm_goto hG 83 dX0_refusalToHire_79 (by decide) ?_
              exact sm_iret hG hT ⟨Nat.zero_le _, Nat.zero_le _⟩ dX0_refusalToHire_83 rfl
        · refine sm_iconst (x := (2 : Int32)) hG 56 rfl dX0_refusalToHire_55 rfl ?_
          exact sm_iret hG hT ⟨Nat.zero_le _, Nat.zero_le _⟩ dX0_refusalToHire_56 rfl
    · refine sm_jn (fun (X36 : Unit → Option Int32) => ∀ (u_ : Unit), Sm Γ Λ (0, 0) 36 [(0, .ref (Λ.2.2.2.1 (1, o, 0))), (1, .int x1), (3, .int x3), (4, .int x4), (5, .int x5)] [] v (X36 u_)) (fun u_ => ?_) (fun j36 hj36 => ?_)
      · refine sm_iconst (x := (0 : Int32)) hG 37 rfl dX0_refusalToHire_36 rfl ?_
        exact hj37 _
      · refine sm_iload_n hG 12 rfl dX0_refusalToHire_11 rfl 2 rfl ?_
        refine sm_iconst (x := (0 : Int32)) hG 13 rfl dX0_refusalToHire_12 rfl ?_
        refine sm_bipush (x := (9 : Int32)) hG 15 rfl dX0_refusalToHire_13 rfl ?_
        refine sm_callN hG (host := "ChoirRegister") (fun (q : Int32) => (some (Value.int q), v)) [.int x2, .int (0 : Int32), .int (9 : Int32)] 18 rfl (fun hX => (hC.2.2.2 _ _ hX).1 _ (by decide +kernel)) (fun r_ hr_ => c_X6_isWithin hC   hr_) gX0_refusalToHire_X6_isWithin_n71 fs_X6_isWithin fi_X6_isWithin rfl (by decide) (by decide) (n := 3) rfl (Nat.le_of_ble_eq_true rfl) (by decide) ⟨Nat.zero_le _, Nat.zero_le _⟩ rfl dX0_refusalToHire_15 (fun r_15 => ?_)
        refine sm_if_eq hG 36 21 rfl dX0_refusalToHire_18 (by decide) ?_ ?_
        · refine sm_loc [0, 1, 3, 4, 5] [(0, .ref (Λ.2.2.2.1 (1, o, 0))), (1, .int x1), (3, .int x3), (4, .int x4), (5, .int x5)] rfl ?_
          exact hj36 ()
        · refine sm_iload hG 23 rfl dX0_refusalToHire_21 6 rfl ?_
          refine sm_iconst (x := (1 : Int32)) hG 24 rfl dX0_refusalToHire_23 rfl ?_
          refine sm_bipush (x := (90 : Int32)) hG 26 rfl dX0_refusalToHire_24 rfl ?_
          refine sm_callN hG (host := "ChoirRegister") (fun (q : Int32) => (some (Value.int q), v)) [.int x6, .int (1 : Int32), .int (90 : Int32)] 29 rfl (fun hX => (hC.2.2.2 _ _ hX).1 _ (by decide +kernel)) (fun r_ hr_ => c_X6_isWithin hC   hr_) gX0_refusalToHire_X6_isWithin_n71 fs_X6_isWithin fi_X6_isWithin rfl (by decide) (by decide) (n := 3) rfl (Nat.le_of_ble_eq_true rfl) (by decide) ⟨Nat.zero_le _, Nat.zero_le _⟩ rfl dX0_refusalToHire_26 (fun r_26 => ?_)
          refine sm_if_eq hG 36 32 rfl dX0_refusalToHire_29 (by decide) ?_ ?_
          · refine sm_loc [0, 1, 3, 4, 5] [(0, .ref (Λ.2.2.2.1 (1, o, 0))), (1, .int x1), (3, .int x3), (4, .int x4), (5, .int x5)] rfl ?_
            exact hj36 ()
          · refine sm_iconst (x := (1 : Int32)) hG 33 rfl dX0_refusalToHire_32 rfl ?_
            refine sm_goto hG 37 dX0_refusalToHire_33 (by decide) ?_
            refine sm_loc [0, 1, 3, 4, 5] [(0, .ref (Λ.2.2.2.1 (1, o, 0))), (1, .int x1), (3, .int x3), (4, .int x4), (5, .int x5)] rfl ?_
            exact hj37 _
  · refine sm_iconst (x := (1 : Int32)) hG 10 rfl dX0_refusalToHire_9 rfl ?_
    exact sm_iret hG hT ⟨Nat.zero_le _, Nat.zero_le _⟩ dX0_refusalToHire_10 rfl
abbrev rmX0_hire : Room := { frames := 1, cells := 0, slots := 0, locals := 25 }
set_option maxRecDepth 100000 in
set_option maxHeartbeats 4000000 in
theorem c_X0_hire {Λ : jL kC} (hC : LC Λ) {o : Nat} {x1 : Int32} {x2 : Int32} {x3 : Int32} {x4 : Int32} {x5 : Int32} {x6 : Int32} (ho : o < 7) {l : Launch} {v : mC} {r : (Int32 × mC)} (hr_ : f_X0_hire o x1 x2 x3 x4 x5 x6 v = some r) : Ct l yX0_hire wsX0_hire rmX0_hire Λ [.ref (Λ.2.2.2.1 (1, o, 0)), .int x1, .int x2, .int x3, .int x4, .int x5, .int x6] v (some (.int r.1)) r.2 := by
  refine ct_of (cc := cX0_hire) (maxL := 8) (ret := (some .int)) (fun (q : Int32 × mC) => (some (Value.int q.1), q.2)) hC.1 hr_ (by decide) rfl (Nat.le_of_ble_eq_true rfl) (fun Γ hG hT hN hl => ?_)
  subst hl
  have f104 : Cond.fieldLink RX0 104 "ChoirRegister$Roster" "choir" "[I" ∈ wsX0_hire := by decide +kernel
  have f107 : Cond.fieldLink RX0 107 "ChoirRegister$Roster" "fee" "[I" ∈ wsX0_hire := by decide +kernel
  have f18 : Cond.fieldLink RX0 18 "ChoirRegister$Book" "roster" "LChoirRegister$Roster;" ∈ wsX0_hire := by decide +kernel
  have f36 : Cond.fieldLink RX0 36 "ChoirRegister$Book" "favours" "[I" ∈ wsX0_hire := by decide +kernel
  have f9 : Cond.fieldLink RX0 9 "ChoirRegister$Book" "day" "I" ∈ wsX0_hire := by decide +kernel
  have f97 : Cond.fieldLink RX0 97 "ChoirRegister$Roster" "lastDayInChoir" "[I" ∈ wsX0_hire := by decide +kernel
  have u0 : ∀ w ∈ wsX00, w ∈ wsX0_hire := by decide +kernel
  have u5 : ∀ w ∈ wsX50, w ∈ wsX0_hire := by decide +kernel
  show Sm Γ Λ (0, 0) 0 [(0, .ref (Λ.2.2.2.1 (1, o, 0))), (1, .int x1), (2, .int x2), (3, .int x3), (4, .int x4), (5, .int x5), (6, .int x6)] [] v _
  unfold f_X0_hire
  refine sm_aload_n hG 1 rfl dX0_hire_0 rfl 0 rfl ?_
  refine gC1_1 hG hC ho 4 rfl u0 f18 dX0_hire_1 ?_
  refine sm_aload_n hG 5 rfl dX0_hire_4 rfl 0 rfl ?_
  refine gC1_0 hG hC ho 8 rfl u0 f9 dX0_hire_5 ?_
  refine sm_sipush (x := (10800 : Int32)) hG 11 rfl dX0_hire_8 rfl ?_
  refine sm_isub hG 12 rfl dX0_hire_11 ?_
  refine sm_iload_n hG 13 rfl dX0_hire_12 rfl 3 rfl ?_
  refine sm_iload hG 15 rfl dX0_hire_13 4 rfl ?_
  refine sm_iload hG 17 rfl dX0_hire_15 5 rfl ?_
  refine sm_callV hG (fun (q : Int32 × mC) => (some (Value.int q.1), q.2)) (2, o, 0) [.int ((v (1, o, 0) 0) - (10800 : Int32)), .int x3, .int x4, .int x5] 20 rfl (okb hC (by decide) ho) (ce_2 hC _) (ci := 5) rfl (fun r_ hr_ => c_X5_add hC ho  hr_) gX0_hire_X5_add rfl (by decide) (by decide) (n := 4) rfl (Nat.le_of_ble_eq_true rfl) (by decide) ⟨Nat.zero_le _, Nat.zero_le _⟩ rfl dX0_hire_17 (fun r_17 => ?_)
  refine sm_istore hG 22 rfl dX0_hire_20 (jlt hN rfl) [(7, .int r_17.1), (0, .ref (Λ.2.2.2.1 (1, o, 0))), (1, .int x1), (2, .int x2), (3, .int x3), (4, .int x4), (5, .int x5), (6, .int x6)] rfl ?_
  refine sm_aload_n hG 23 rfl dX0_hire_22 rfl 1 rfl ?_
  refine gC1_1 hG hC ho 26 rfl u0 f18 dX0_hire_23 ?_
  refine gC2_6 hG hC ho 29 rfl u5 f104 dX0_hire_26 ?_
  refine sm_iload hG 31 rfl dX0_hire_29 0 rfl ?_
  refine sm_iload_n hG 32 rfl dX0_hire_31 rfl 2 rfl ?_
  refine sC8 hG hC ho 33 rfl dX0_hire_32 ?_
  refine sm_nmv (fun w32_1 => ?_)
  refine sm_aload_n hG 34 rfl dX0_hire_33 rfl 1 rfl ?_
  refine gC1_1 hG hC ho 37 rfl u0 f18 dX0_hire_34 ?_
  refine gC2_7 hG hC ho 40 rfl u5 f107 dX0_hire_37 ?_
  refine sm_iload hG 42 rfl dX0_hire_40 0 rfl ?_
  refine sm_iload_n hG 43 rfl dX0_hire_42 rfl 3 rfl ?_
  refine sC9 hG hC ho 44 rfl dX0_hire_43 ?_
  refine sm_nmv (fun w43_2 => ?_)
  refine sm_aload_n hG 45 rfl dX0_hire_44 rfl 1 rfl ?_
  refine gC1_1 hG hC ho 48 rfl u0 f18 dX0_hire_45 ?_
  refine gC2_8 hG hC ho 51 rfl u5 f97 dX0_hire_48 ?_
  refine sm_iload hG 53 rfl dX0_hire_51 0 rfl ?_
  refine sm_aload_n hG 54 rfl dX0_hire_53 rfl 1 rfl ?_
  refine gC1_0 hG hC ho 57 rfl u0 f9 dX0_hire_54 ?_
  refine sm_iload hG 59 rfl dX0_hire_57 7 rfl ?_
  refine sm_iadd hG 60 rfl dX0_hire_59 ?_
  refine sC10 hG hC ho 61 rfl dX0_hire_60 ?_
  refine sm_nmv (fun w60_3 => ?_)
  refine sm_aload_n hG 62 rfl dX0_hire_61 rfl 1 rfl ?_
  refine gC1_4 hG hC ho 65 rfl u0 f36 dX0_hire_62 ?_
  refine sm_iload_n hG 66 rfl dX0_hire_65 rfl 2 rfl ?_
  refine sm_dup2 hG 67 rfl dX0_hire_66 rfl rfl ?_
  refine lC30 hG hC ho 68 rfl dX0_hire_67 ?_
  refine sm_iconst (x := (1 : Int32)) hG 69 rfl dX0_hire_68 rfl ?_
  refine sm_isub hG 70 rfl dX0_hire_69 ?_
  refine sC30 hG hC ho 71 rfl dX0_hire_70 ?_
  refine sm_nmv (fun w70_4 => ?_)
  refine sm_iload hG 73 rfl dX0_hire_71 0 rfl ?_
  exact sm_iret hG hT ⟨Nat.zero_le _, Nat.zero_le _⟩ dX0_hire_73 rfl
abbrev rmX5_isAwayOn : Room := { frames := 0, cells := 0, slots := 0, locals := 0 }
set_option maxRecDepth 100000 in
set_option maxHeartbeats 4000000 in
theorem c_X5_isAwayOn {Λ : jL kC} (hC : LC Λ) {o : Nat} {x1 : Int32} {x2 : Int32} (ho : o < 7) {l : Launch} {v : mC} {r : Int32} (hr_ : f_X5_isAwayOn o x1 x2 v = some r) : Ct l yX5_isAwayOn wsX5_isAwayOn rmX5_isAwayOn Λ [.ref (Λ.2.2.2.1 (2, o, 0)), .int x1, .int x2] v (some (.int r)) v := by
  refine ct_of (cc := cX5_isAwayOn) (maxL := 3) (ret := (some .boolean)) (fun (q : Int32) => (some (Value.int q), v)) hC.1 hr_ (by decide) rfl (Nat.le_of_ble_eq_true rfl) (fun Γ hG hT hN hl => ?_)
  subst hl
  have f40 : Cond.fieldLink RX5 40 "ChoirRegister$Roster" "lastDayAway" "[I" ∈ wsX5_isAwayOn := by decide +kernel
  have u5 : ∀ w ∈ wsX50, w ∈ wsX5_isAwayOn := by decide +kernel
  show Sm Γ Λ (0, 0) 0 [(0, .ref (Λ.2.2.2.1 (2, o, 0))), (1, .int x1), (2, .int x2)] [] v _
  unfold f_X5_isAwayOn
  refine sm_iload_n hG 1 rfl dX5_isAwayOn_0 rfl 2 rfl ?_
  refine sm_aload_n hG 2 rfl dX5_isAwayOn_1 rfl 0 rfl ?_
  refine gC2_9 hG hC ho 5 rfl u5 f40 dX5_isAwayOn_2 ?_
  refine sm_iload_n hG 6 rfl dX5_isAwayOn_5 rfl 1 rfl ?_
  refine lC11 hG hC ho 7 rfl dX5_isAwayOn_6 ?_
  refine sm_icmp_gt hG 14 10 rfl dX5_isAwayOn_7 (by decide) ?_ ?_
  · refine sm_iconst (x := (0 : Int32)) hG 15 rfl dX5_isAwayOn_14 rfl ?_
    exact sm_bret hG hT ⟨Nat.zero_le _, Nat.zero_le _⟩ dX5_isAwayOn_15 rfl
  · refine sm_iconst (x := (1 : Int32)) hG 11 rfl dX5_isAwayOn_10 rfl ?_
    refine sm_goto hG 15 dX5_isAwayOn_11 (by decide) ?_
    exact sm_bret hG hT ⟨Nat.zero_le _, Nat.zero_le _⟩ dX5_isAwayOn_15 rfl
abbrev rmX0_refusalToSendAway : Room := { frames := 1, cells := 0, slots := 0, locals := 22 }
set_option maxRecDepth 100000 in
set_option maxHeartbeats 4000000 in
theorem c_X0_refusalToSendAway {Λ : jL kC} (hC : LC Λ) {o : Nat} {x1 : Int32} {x2 : Int32} {x3 : Int32} (ho : o < 7) {l : Launch} {v : mC} {r : Int32} (hr_ : f_X0_refusalToSendAway o x1 x2 x3 v = some r) : Ct l yX0_refusalToSendAway wsX0_refusalToSendAway rmX0_refusalToSendAway Λ [.ref (Λ.2.2.2.1 (1, o, 0)), .int x1, .int x2, .int x3] v (some (.int r)) v := by
  refine ct_of (cc := cX0_refusalToSendAway) (maxL := 5) (ret := (some .int)) (fun (q : Int32) => (some (Value.int q), v)) hC.1 hr_ (by decide) rfl (Nat.le_of_ble_eq_true rfl) (fun Γ hG hT hN hl => ?_)
  subst hl
  have f104 : Cond.fieldLink RX0 104 "ChoirRegister$Roster" "choir" "[I" ∈ wsX0_refusalToSendAway := by decide +kernel
  have f18 : Cond.fieldLink RX0 18 "ChoirRegister$Book" "roster" "LChoirRegister$Roster;" ∈ wsX0_refusalToSendAway := by decide +kernel
  have f9 : Cond.fieldLink RX0 9 "ChoirRegister$Book" "day" "I" ∈ wsX0_refusalToSendAway := by decide +kernel
  have fi_X6_isWithin : Cond.initialized yX6_isWithin.cls ∈ wsX0_refusalToSendAway := by decide +kernel
  have fs_X6_isWithin : Cond.static yX6_isWithin ∈ wsX0_refusalToSendAway := by decide +kernel
  have u0 : ∀ w ∈ wsX00, w ∈ wsX0_refusalToSendAway := by decide +kernel
  have u5 : ∀ w ∈ wsX50, w ∈ wsX0_refusalToSendAway := by decide +kernel
  show Sm Γ Λ (0, 0) 0 [(0, .ref (Λ.2.2.2.1 (1, o, 0))), (1, .int x1), (2, .int x2), (3, .int x3)] [] v _
  unfold f_X0_refusalToSendAway
  refine sm_aload_n hG 1 rfl dX0_refusalToSendAway_0 rfl 0 rfl ?_
  refine gC1_1 hG hC ho 4 rfl u0 f18 dX0_refusalToSendAway_1 ?_
  refine sm_iload_n hG 5 rfl dX0_refusalToSendAway_4 rfl 1 rfl ?_
  refine sm_callV hG (fun (q : Int32) => (some (Value.int q), v)) (2, o, 0) [.int x1] 8 rfl (okb hC (by decide) ho) (ce_2 hC _) (ci := 5) rfl (fun r_ hr_ => c_X5_has hC ho  hr_) gX0_refusalToSendAway_X5_has rfl (by decide) (by decide) (n := 1) rfl (Nat.le_of_ble_eq_true rfl) (by decide) ⟨Nat.zero_le _, Nat.zero_le _⟩ rfl dX0_refusalToSendAway_5 (fun r_5 => ?_)
  refine sm_if_eq hG 20 11 rfl dX0_refusalToSendAway_8 (by decide) ?_ ?_
  · refine sm_iconst (x := (1 : Int32)) hG 21 rfl dX0_refusalToSendAway_20 rfl ?_
    exact sm_iret hG hT ⟨Nat.zero_le _, Nat.zero_le _⟩ dX0_refusalToSendAway_21 rfl
  · refine sm_iload_n hG 12 rfl dX0_refusalToSendAway_11 rfl 2 rfl ?_
    refine sm_iconst (x := (0 : Int32)) hG 13 rfl dX0_refusalToSendAway_12 rfl ?_
    refine sm_iconst (x := (4 : Int32)) hG 14 rfl dX0_refusalToSendAway_13 rfl ?_
    refine sm_callN hG (host := "ChoirRegister") (fun (q : Int32) => (some (Value.int q), v)) [.int x2, .int (0 : Int32), .int (4 : Int32)] 17 rfl (fun hX => (hC.2.2.2 _ _ hX).1 _ (by decide +kernel)) (fun r_ hr_ => c_X6_isWithin hC   hr_) gX0_refusalToSendAway_X6_isWithin_n71 fs_X6_isWithin fi_X6_isWithin rfl (by decide) (by decide) (n := 3) rfl (Nat.le_of_ble_eq_true rfl) (by decide) ⟨Nat.zero_le _, Nat.zero_le _⟩ rfl dX0_refusalToSendAway_14 (fun r_14 => ?_)
    refine sm_if_ne hG 22 20 rfl dX0_refusalToSendAway_17 (by decide) ?_ ?_
    · refine sm_iload_n hG 23 rfl dX0_refusalToSendAway_22 rfl 3 rfl ?_
      refine sm_iconst (x := (1 : Int32)) hG 24 rfl dX0_refusalToSendAway_23 rfl ?_
      refine sm_bipush (x := (90 : Int32)) hG 26 rfl dX0_refusalToSendAway_24 rfl ?_
      refine sm_callN hG (host := "ChoirRegister") (fun (q : Int32) => (some (Value.int q), v)) [.int x3, .int (1 : Int32), .int (90 : Int32)] 29 rfl (fun hX => (hC.2.2.2 _ _ hX).1 _ (by decide +kernel)) (fun r_ hr_ => c_X6_isWithin hC   hr_) gX0_refusalToSendAway_X6_isWithin_n71 fs_X6_isWithin fi_X6_isWithin rfl (by decide) (by decide) (n := 3) rfl (Nat.le_of_ble_eq_true rfl) (by decide) ⟨Nat.zero_le _, Nat.zero_le _⟩ rfl dX0_refusalToSendAway_26 (fun r_26 => ?_)
      refine sm_if_ne hG 34 32 rfl dX0_refusalToSendAway_29 (by decide) ?_ ?_
      · refine sm_jn (fun (X69 : Int32 → Option Int32) => ∀ (s0_69 : Int32), Sm Γ Λ (0, 0) 69 [(0, .ref (Λ.2.2.2.1 (1, o, 0))), (1, .int x1)] [.int s0_69] v (X69 s0_69)) (fun s0_69 => ?_) (fun j69 hj69 => ?_)
        · refine sm_istore hG 71 rfl dX0_refusalToSendAway_69 (jlt hN rfl) [(4, .int s0_69), (0, .ref (Λ.2.2.2.1 (1, o, 0))), (1, .int x1)] rfl ?_
          refine sm_iload hG 73 rfl dX0_refusalToSendAway_71 0 rfl ?_
          refine sm_if_eq hG 93 76 rfl dX0_refusalToSendAway_73 (by decide) ?_ ?_
          · refine sm_iconst (x := (3 : Int32)) hG 94 rfl dX0_refusalToSendAway_93 rfl ?_
            exact sm_iret hG hT ⟨Nat.zero_le _, Nat.zero_le _⟩ dX0_refusalToSendAway_94 rfl
          · refine sm_aload_n hG 77 rfl dX0_refusalToSendAway_76 rfl 1 rfl ?_
            refine gC1_1 hG hC ho 80 rfl u0 f18 dX0_refusalToSendAway_77 ?_
            refine gC2_6 hG hC ho 83 rfl u5 f104 dX0_refusalToSendAway_80 ?_
            refine sm_iload_n hG 84 rfl dX0_refusalToSendAway_83 rfl 2 rfl ?_
            refine lC8 hG hC ho 85 rfl dX0_refusalToSendAway_84 ?_
            refine sm_iconst (x := (-1 : Int32)) hG 86 rfl dX0_refusalToSendAway_85 rfl ?_
            refine sm_icmp_ne hG 93 89 rfl dX0_refusalToSendAway_86 (by decide) ?_ ?_
            · refine sm_iconst (x := (3 : Int32)) hG 94 rfl dX0_refusalToSendAway_93 rfl ?_
              exact sm_iret hG hT ⟨Nat.zero_le _, Nat.zero_le _⟩ dX0_refusalToSendAway_94 rfl
            · refine sm_iconst (x := (0 : Int32)) hG 90 rfl dX0_refusalToSendAway_89 rfl ?_
              refine sm_goto hG 94 dX0_refusalToSendAway_90 (by decide) ?_
              exact sm_iret hG hT ⟨Nat.zero_le _, Nat.zero_le _⟩ dX0_refusalToSendAway_94 rfl
        · refine sm_jn (fun (X68 : Unit → Option Int32) => ∀ (u_ : Unit), Sm Γ Λ (0, 0) 68 [(0, .ref (Λ.2.2.2.1 (1, o, 0))), (1, .int x1)] [] v (X68 u_)) (fun u_ => ?_) (fun j68 hj68 => ?_)
          · refine sm_iconst (x := (0 : Int32)) hG 69 rfl dX0_refusalToSendAway_68 rfl ?_
            exact hj69 _
          · refine sm_aload_n hG 35 rfl dX0_refusalToSendAway_34 rfl 0 rfl ?_
            refine gC1_1 hG hC ho 38 rfl u0 f18 dX0_refusalToSendAway_35 ?_
            refine sm_iload_n hG 39 rfl dX0_refusalToSendAway_38 rfl 1 rfl ?_
            refine sm_aload_n hG 40 rfl dX0_refusalToSendAway_39 rfl 0 rfl ?_
            refine gC1_0 hG hC ho 43 rfl u0 f9 dX0_refusalToSendAway_40 ?_
            refine sm_callV hG (fun (q : Int32) => (some (Value.int q), v)) (2, o, 0) [.int x1, .int (v (1, o, 0) 0)] 46 rfl (okb hC (by decide) ho) (ce_2 hC _) (ci := 5) rfl (fun r_ hr_ => c_X5_hasLeftBy hC ho  hr_) gX0_refusalToSendAway_X5_hasLeftBy rfl (by decide) (by decide) (n := 2) rfl (Nat.le_of_ble_eq_true rfl) (by decide) ⟨Nat.zero_le _, Nat.zero_le _⟩ rfl dX0_refusalToSendAway_43 (fun r_43 => ?_)
            refine sm_if_ne hG 68 49 rfl dX0_refusalToSendAway_46 (by decide) ?_ ?_
            · refine sm_loc [0, 1] [(0, .ref (Λ.2.2.2.1 (1, o, 0))), (1, .int x1)] rfl ?_
              exact hj68 ()
            · refine sm_aload_n hG 50 rfl dX0_refusalToSendAway_49 rfl 0 rfl ?_
              refine gC1_1 hG hC ho 53 rfl u0 f18 dX0_refusalToSendAway_50 ?_
              refine sm_iload_n hG 54 rfl dX0_refusalToSendAway_53 rfl 1 rfl ?_
              refine sm_aload_n hG 55 rfl dX0_refusalToSendAway_54 rfl 0 rfl ?_
              refine gC1_0 hG hC ho 58 rfl u0 f9 dX0_refusalToSendAway_55 ?_
              refine sm_callV hG (fun (q : Int32) => (some (Value.int q), v)) (2, o, 0) [.int x1, .int (v (1, o, 0) 0)] 61 rfl (okb hC (by decide) ho) (ce_2 hC _) (ci := 5) rfl (fun r_ hr_ => c_X5_isAwayOn hC ho  hr_) gX0_refusalToSendAway_X5_isAwayOn rfl (by decide) (by decide) (n := 2) rfl (Nat.le_of_ble_eq_true rfl) (by decide) ⟨Nat.zero_le _, Nat.zero_le _⟩ rfl dX0_refusalToSendAway_58 (fun r_58 => ?_)
              refine sm_if_ne hG 68 64 rfl dX0_refusalToSendAway_61 (by decide) ?_ ?_
              · refine sm_loc [0, 1] [(0, .ref (Λ.2.2.2.1 (1, o, 0))), (1, .int x1)] rfl ?_
                exact hj68 ()
              · refine sm_iconst (x := (1 : Int32)) hG 65 rfl dX0_refusalToSendAway_64 rfl ?_
                refine sm_goto hG 69 dX0_refusalToSendAway_65 (by decide) ?_
                refine sm_loc [0, 1] [(0, .ref (Λ.2.2.2.1 (1, o, 0))), (1, .int x1)] rfl ?_
                exact hj69 _
      · refine sm_iconst (x := (2 : Int32)) hG 33 rfl dX0_refusalToSendAway_32 rfl ?_
        exact sm_iret hG hT ⟨Nat.zero_le _, Nat.zero_le _⟩ dX0_refusalToSendAway_33 rfl
    · refine sm_iconst (x := (1 : Int32)) hG 21 rfl dX0_refusalToSendAway_20 rfl ?_
      exact sm_iret hG hT ⟨Nat.zero_le _, Nat.zero_le _⟩ dX0_refusalToSendAway_21 rfl
abbrev rmX0_sendAway : Room := { frames := 0, cells := 0, slots := 0, locals := 0 }
set_option maxRecDepth 100000 in
set_option maxHeartbeats 4000000 in
theorem c_X0_sendAway {Λ : jL kC} (hC : LC Λ) {o : Nat} {x1 : Int32} {x2 : Int32} {x3 : Int32} (ho : o < 7) {l : Launch} {v : mC} {r : (Int32 × mC)} (hr_ : f_X0_sendAway o x1 x2 x3 v = some r) : Ct l yX0_sendAway wsX0_sendAway rmX0_sendAway Λ [.ref (Λ.2.2.2.1 (1, o, 0)), .int x1, .int x2, .int x3] v (some (.int r.1)) r.2 := by
  refine ct_of (cc := cX0_sendAway) (maxL := 4) (ret := (some .int)) (fun (q : Int32 × mC) => (some (Value.int q.1), q.2)) hC.1 hr_ (by decide) rfl (Nat.le_of_ble_eq_true rfl) (fun Γ hG hT hN hl => ?_)
  subst hl
  have f113 : Cond.fieldLink RX0 113 "ChoirRegister$Roster" "lastDayAway" "[I" ∈ wsX0_sendAway := by decide +kernel
  have f18 : Cond.fieldLink RX0 18 "ChoirRegister$Book" "roster" "LChoirRegister$Roster;" ∈ wsX0_sendAway := by decide +kernel
  have f36 : Cond.fieldLink RX0 36 "ChoirRegister$Book" "favours" "[I" ∈ wsX0_sendAway := by decide +kernel
  have f40 : Cond.fieldLink RX0 40 "ChoirRegister$Book" "purse" "I" ∈ wsX0_sendAway := by decide +kernel
  have f43 : Cond.fieldLink RX0 43 "ChoirRegister$Book" "paidForLending" "I" ∈ wsX0_sendAway := by decide +kernel
  have f9 : Cond.fieldLink RX0 9 "ChoirRegister$Book" "day" "I" ∈ wsX0_sendAway := by decide +kernel
  have u0 : ∀ w ∈ wsX00, w ∈ wsX0_sendAway := by decide +kernel
  have u5 : ∀ w ∈ wsX50, w ∈ wsX0_sendAway := by decide +kernel
  show Sm Γ Λ (0, 0) 0 [(0, .ref (Λ.2.2.2.1 (1, o, 0))), (1, .int x1), (2, .int x2), (3, .int x3)] [] v _
  unfold f_X0_sendAway
  refine sm_aload_n hG 1 rfl dX0_sendAway_0 rfl 0 rfl ?_
  refine gC1_1 hG hC ho 4 rfl u0 f18 dX0_sendAway_1 ?_
  refine gC2_9 hG hC ho 7 rfl u5 f113 dX0_sendAway_4 ?_
  refine sm_iload_n hG 8 rfl dX0_sendAway_7 rfl 1 rfl ?_
  refine sm_aload_n hG 9 rfl dX0_sendAway_8 rfl 0 rfl ?_
  refine gC1_0 hG hC ho 12 rfl u0 f9 dX0_sendAway_9 ?_
  refine sm_iload_n hG 13 rfl dX0_sendAway_12 rfl 3 rfl ?_
  refine sm_iadd hG 14 rfl dX0_sendAway_13 ?_
  refine sC11 hG hC ho 15 rfl dX0_sendAway_14 ?_
  refine sm_nmv (fun w14_1 => ?_)
  refine sm_aload_n hG 16 rfl dX0_sendAway_15 rfl 0 rfl ?_
  refine gC1_4 hG hC ho 19 rfl u0 f36 dX0_sendAway_16 ?_
  refine sm_iload_n hG 20 rfl dX0_sendAway_19 rfl 2 rfl ?_
  refine sm_dup2 hG 21 rfl dX0_sendAway_20 rfl rfl ?_
  refine lC30 hG hC ho 22 rfl dX0_sendAway_21 ?_
  refine sm_iconst (x := (1 : Int32)) hG 23 rfl dX0_sendAway_22 rfl ?_
  refine sm_iadd hG 24 rfl dX0_sendAway_23 ?_
  refine sC30 hG hC ho 25 rfl dX0_sendAway_24 ?_
  refine sm_nmv (fun w24_2 => ?_)
  refine sm_aload_n hG 26 rfl dX0_sendAway_25 rfl 0 rfl ?_
  refine sm_dup hG 27 rfl dX0_sendAway_26 rfl ?_
  refine gC1_6 hG hC ho 30 rfl u0 f43 dX0_sendAway_27 ?_
  refine sm_iconst (x := (2 : Int32)) hG 31 rfl dX0_sendAway_30 rfl ?_
  refine sm_iload_n hG 32 rfl dX0_sendAway_31 rfl 3 rfl ?_
  refine sm_imul hG 33 rfl dX0_sendAway_32 ?_
  refine sm_iadd hG 34 rfl dX0_sendAway_33 ?_
  refine pC1_6 hG hC ho 37 rfl u0 f43 dX0_sendAway_34 ?_
  refine sm_nmv (fun w34_3 => ?_)
  refine sm_aload_n hG 38 rfl dX0_sendAway_37 rfl 0 rfl ?_
  refine sm_dup hG 39 rfl dX0_sendAway_38 rfl ?_
  refine gC1_5 hG hC ho 42 rfl u0 f40 dX0_sendAway_39 ?_
  refine sm_iconst (x := (2 : Int32)) hG 43 rfl dX0_sendAway_42 rfl ?_
  refine sm_iload_n hG 44 rfl dX0_sendAway_43 rfl 3 rfl ?_
  refine sm_imul hG 45 rfl dX0_sendAway_44 ?_
  refine sm_iadd hG 46 rfl dX0_sendAway_45 ?_
  refine pC1_5 hG hC ho 49 rfl u0 f40 dX0_sendAway_46 ?_
  refine sm_nmv (fun w46_4 => ?_)
  refine sm_aload_n hG 50 rfl dX0_sendAway_49 rfl 0 rfl ?_
  refine gC1_1 hG hC ho 53 rfl u0 f18 dX0_sendAway_50 ?_
  refine gC2_9 hG hC ho 56 rfl u5 f113 dX0_sendAway_53 ?_
  refine sm_iload_n hG 57 rfl dX0_sendAway_56 rfl 1 rfl ?_
  refine lC11 hG hC ho 58 rfl dX0_sendAway_57 ?_
  exact sm_iret hG hT ⟨Nat.zero_le _, Nat.zero_le _⟩ dX0_sendAway_58 rfl
abbrev rmX4_areFull : Room := { frames := 0, cells := 0, slots := 0, locals := 0 }
set_option maxRecDepth 100000 in
set_option maxHeartbeats 4000000 in
theorem c_X4_areFull {Λ : jL kC} (hC : LC Λ) {o : Nat} (ho : o < 7) {l : Launch} {v : mC} {r : Int32} (hr_ : f_X4_areFull o v = some r) : Ct l yX4_areFull wsX4_areFull rmX4_areFull Λ [.ref (Λ.2.2.2.1 (14, o, 0))] v (some (.int r)) v := by
  refine ct_of (cc := cX4_areFull) (maxL := 1) (ret := (some .boolean)) (fun (q : Int32) => (some (Value.int q), v)) hC.1 hr_ (by decide) rfl (Nat.le_of_ble_eq_true rfl) (fun Γ hG hT hN hl => ?_)
  subst hl
  have f9 : Cond.fieldLink RX4 9 "ChoirRegister$Notes" "count" "I" ∈ wsX4_areFull := by decide +kernel
  have u4 : ∀ w ∈ wsX40, w ∈ wsX4_areFull := by decide +kernel
  show Sm Γ Λ (0, 0) 0 [(0, .ref (Λ.2.2.2.1 (14, o, 0)))] [] v _
  unfold f_X4_areFull
  refine sm_aload_n hG 1 rfl dX4_areFull_0 rfl 0 rfl ?_
  refine gC14_0 hG hC ho 4 rfl u4 f9 dX4_areFull_1 ?_
  refine sm_bipush (x := (60 : Int32)) hG 6 rfl dX4_areFull_4 rfl ?_
  refine sm_icmp_lt hG 13 9 rfl dX4_areFull_6 (by decide) ?_ ?_
  · refine sm_iconst (x := (0 : Int32)) hG 14 rfl dX4_areFull_13 rfl ?_
    exact sm_bret hG hT ⟨Nat.zero_le _, Nat.zero_le _⟩ dX4_areFull_14 rfl
  · refine sm_iconst (x := (1 : Int32)) hG 10 rfl dX4_areFull_9 rfl ?_
    refine sm_goto hG 14 dX4_areFull_10 (by decide) ?_
    exact sm_bret hG hT ⟨Nat.zero_le _, Nat.zero_le _⟩ dX4_areFull_14 rfl
abbrev rmX4_coverAnyOf : Room := { frames := 0, cells := 0, slots := 0, locals := 0 }
set_option maxRecDepth 100000 in
set_option maxHeartbeats 4000000 in
theorem c_X4_coverAnyOf {Λ : jL kC} (hC : LC Λ) {o : Nat} {x1 : Int32} {x2 : Int32} {x3 : Int32} (ho : o < 7) {l : Launch} {v : mC} {r : Int32} (hr_ : f_X4_coverAnyOf o x1 x2 x3 v = some r) : Ct l yX4_coverAnyOf wsX4_coverAnyOf rmX4_coverAnyOf Λ [.ref (Λ.2.2.2.1 (14, o, 0)), .int x1, .int x2, .int x3] v (some (.int r)) v := by
  refine ct_of (cc := cX4_coverAnyOf) (maxL := 5) (ret := (some .boolean)) (fun (q : Int32) => (some (Value.int q), v)) hC.1 hr_ (by decide) rfl (Nat.le_of_ble_eq_true rfl) (fun Γ hG hT hN hl => ?_)
  subst hl
  have f15 : Cond.fieldLink RX4 15 "ChoirRegister$Notes" "singers" "[I" ∈ wsX4_coverAnyOf := by decide +kernel
  have f19 : Cond.fieldLink RX4 19 "ChoirRegister$Notes" "first" "[I" ∈ wsX4_coverAnyOf := by decide +kernel
  have f22 : Cond.fieldLink RX4 22 "ChoirRegister$Notes" "last" "[I" ∈ wsX4_coverAnyOf := by decide +kernel
  have f9 : Cond.fieldLink RX4 9 "ChoirRegister$Notes" "count" "I" ∈ wsX4_coverAnyOf := by decide +kernel
  have u4 : ∀ w ∈ wsX40, w ∈ wsX4_coverAnyOf := by decide +kernel
  show Sm Γ Λ (0, 0) 0 [(0, .ref (Λ.2.2.2.1 (14, o, 0))), (1, .int x1), (2, .int x2), (3, .int x3)] [] v _
  unfold f_X4_coverAnyOf
  refine sm_iconst (x := (0 : Int32)) hG 1 rfl dX4_coverAnyOf_0 rfl ?_
  refine sm_istore hG 3 rfl dX4_coverAnyOf_1 (jlt hN rfl) [(4, .int (0 : Int32)), (0, .ref (Λ.2.2.2.1 (14, o, 0))), (1, .int x1), (2, .int x2), (3, .int x3)] rfl ?_
  refine sm_loc [1, 2, 3, 4, 0] [(0, .ref (Λ.2.2.2.1 (14, o, 0))), (1, .int x1), (2, .int x2), (3, .int x3), (4, .int (0 : Int32))] rfl ?_
  refine lp_ind (fun (X3 : Int32 → Option Int32) => ∀ (x4_3 : Int32), Sm Γ Λ (0, 0) 3 [(0, .ref (Λ.2.2.2.1 (14, o, 0))), (1, .int x1), (2, .int x2), (3, .int x3), (4, .int x4_3)] [] v (X3 x4_3)) (fun _ => sm_none) (fun self3 hs3 x4_3 => ?_) 8192 _
  refine sm_iload hG 5 rfl dX4_coverAnyOf_3 4 rfl ?_
  refine sm_aload_n hG 6 rfl dX4_coverAnyOf_5 rfl 0 rfl ?_
  refine gC14_0 hG hC ho 9 rfl u4 f9 dX4_coverAnyOf_6 ?_
  refine sm_icmp_ge hG 53 12 rfl dX4_coverAnyOf_9 (by decide) ?_ ?_
  · refine sm_iconst (x := (0 : Int32)) hG 54 rfl dX4_coverAnyOf_53 rfl ?_
    exact sm_bret hG hT ⟨Nat.zero_le _, Nat.zero_le _⟩ dX4_coverAnyOf_54 rfl
  · refine sm_aload_n hG 13 rfl dX4_coverAnyOf_12 rfl 0 rfl ?_
    refine gC14_1 hG hC ho 16 rfl u4 f15 dX4_coverAnyOf_13 ?_
    refine sm_iload hG 18 rfl dX4_coverAnyOf_16 4 rfl ?_
    refine lC15 hG hC ho 19 rfl dX4_coverAnyOf_18 ?_
    refine sm_iload_n hG 20 rfl dX4_coverAnyOf_19 rfl 1 rfl ?_
    refine sm_icmp_ne hG 47 23 rfl dX4_coverAnyOf_20 (by decide) ?_ ?_
    · refine sm_iinc hG 50 rfl dX4_coverAnyOf_47 (j := 4) rfl rfl (jlt hN rfl) [(4, .int (x4_3 + (1 : Int32))), (0, .ref (Λ.2.2.2.1 (14, o, 0))), (1, .int x1), (2, .int x2), (3, .int x3)] rfl ?_
      refine sm_goto hG 3 dX4_coverAnyOf_50 (by decide) ?_
      refine sm_loc [1, 2, 3, 4, 0] [(0, .ref (Λ.2.2.2.1 (14, o, 0))), (1, .int x1), (2, .int x2), (3, .int x3), (4, .int (x4_3 + (1 : Int32)))] rfl ?_
      exact hs3 _
    · refine sm_aload_n hG 24 rfl dX4_coverAnyOf_23 rfl 0 rfl ?_
      refine gC14_2 hG hC ho 27 rfl u4 f19 dX4_coverAnyOf_24 ?_
      refine sm_iload hG 29 rfl dX4_coverAnyOf_27 4 rfl ?_
      refine lC16 hG hC ho 30 rfl dX4_coverAnyOf_29 ?_
      refine sm_iload_n hG 31 rfl dX4_coverAnyOf_30 rfl 3 rfl ?_
      refine sm_icmp_gt hG 47 34 rfl dX4_coverAnyOf_31 (by decide) ?_ ?_
      · refine sm_iinc hG 50 rfl dX4_coverAnyOf_47 (j := 4) rfl rfl (jlt hN rfl) [(4, .int (x4_3 + (1 : Int32))), (0, .ref (Λ.2.2.2.1 (14, o, 0))), (1, .int x1), (2, .int x2), (3, .int x3)] rfl ?_
        refine sm_goto hG 3 dX4_coverAnyOf_50 (by decide) ?_
        refine sm_loc [1, 2, 3, 4, 0] [(0, .ref (Λ.2.2.2.1 (14, o, 0))), (1, .int x1), (2, .int x2), (3, .int x3), (4, .int (x4_3 + (1 : Int32)))] rfl ?_
        exact hs3 _
      · refine sm_iload_n hG 35 rfl dX4_coverAnyOf_34 rfl 2 rfl ?_
        refine sm_aload_n hG 36 rfl dX4_coverAnyOf_35 rfl 0 rfl ?_
        refine gC14_3 hG hC ho 39 rfl u4 f22 dX4_coverAnyOf_36 ?_
        refine sm_iload hG 41 rfl dX4_coverAnyOf_39 4 rfl ?_
        refine lC17 hG hC ho 42 rfl dX4_coverAnyOf_41 ?_
        refine sm_icmp_gt hG 47 45 rfl dX4_coverAnyOf_42 (by decide) ?_ ?_
        · refine sm_iinc hG 50 rfl dX4_coverAnyOf_47 (j := 4) rfl rfl (jlt hN rfl) [(4, .int (x4_3 + (1 : Int32))), (0, .ref (Λ.2.2.2.1 (14, o, 0))), (1, .int x1), (2, .int x2), (3, .int x3)] rfl ?_
          refine sm_goto hG 3 dX4_coverAnyOf_50 (by decide) ?_
          refine sm_loc [1, 2, 3, 4, 0] [(0, .ref (Λ.2.2.2.1 (14, o, 0))), (1, .int x1), (2, .int x2), (3, .int x3), (4, .int (x4_3 + (1 : Int32)))] rfl ?_
          exact hs3 _
        · refine sm_iconst (x := (1 : Int32)) hG 46 rfl dX4_coverAnyOf_45 rfl ?_
          exact sm_bret hG hT ⟨Nat.zero_le _, Nat.zero_le _⟩ dX4_coverAnyOf_46 rfl
abbrev rmX0_refusalToTakeNote : Room := { frames := 1, cells := 0, slots := 0, locals := 24 }
set_option maxRecDepth 100000 in
set_option maxHeartbeats 4000000 in
theorem c_X0_refusalToTakeNote {Λ : jL kC} (hC : LC Λ) {o : Nat} {x1 : Int32} {x2 : Int32} {x3 : Int32} (ho : o < 7) {l : Launch} {v : mC} {r : Int32} (hr_ : f_X0_refusalToTakeNote o x1 x2 x3 v = some r) : Ct l yX0_refusalToTakeNote wsX0_refusalToTakeNote rmX0_refusalToTakeNote Λ [.ref (Λ.2.2.2.1 (1, o, 0)), .int x1, .int x2, .int x3] v (some (.int r)) v := by
  refine ct_of (cc := cX0_refusalToTakeNote) (maxL := 5) (ret := (some .int)) (fun (q : Int32) => (some (Value.int q), v)) hC.1 hr_ (by decide) rfl (Nat.le_of_ble_eq_true rfl) (fun Γ hG hT hN hl => ?_)
  subst hl
  have f18 : Cond.fieldLink RX0 18 "ChoirRegister$Book" "roster" "LChoirRegister$Roster;" ∈ wsX0_refusalToTakeNote := by decide +kernel
  have f25 : Cond.fieldLink RX0 25 "ChoirRegister$Book" "notes" "LChoirRegister$Notes;" ∈ wsX0_refusalToTakeNote := by decide +kernel
  have f9 : Cond.fieldLink RX0 9 "ChoirRegister$Book" "day" "I" ∈ wsX0_refusalToTakeNote := by decide +kernel
  have fi_X6_isWithin : Cond.initialized yX6_isWithin.cls ∈ wsX0_refusalToTakeNote := by decide +kernel
  have fs_X6_isWithin : Cond.static yX6_isWithin ∈ wsX0_refusalToTakeNote := by decide +kernel
  have u0 : ∀ w ∈ wsX00, w ∈ wsX0_refusalToTakeNote := by decide +kernel
  show Sm Γ Λ (0, 0) 0 [(0, .ref (Λ.2.2.2.1 (1, o, 0))), (1, .int x1), (2, .int x2), (3, .int x3)] [] v _
  unfold f_X0_refusalToTakeNote
  refine sm_aload_n hG 1 rfl dX0_refusalToTakeNote_0 rfl 0 rfl ?_
  refine gC1_1 hG hC ho 4 rfl u0 f18 dX0_refusalToTakeNote_1 ?_
  refine sm_iload_n hG 5 rfl dX0_refusalToTakeNote_4 rfl 1 rfl ?_
  refine sm_callV hG (fun (q : Int32) => (some (Value.int q), v)) (2, o, 0) [.int x1] 8 rfl (okb hC (by decide) ho) (ce_2 hC _) (ci := 5) rfl (fun r_ hr_ => c_X5_has hC ho  hr_) gX0_refusalToTakeNote_X5_has rfl (by decide) (by decide) (n := 1) rfl (Nat.le_of_ble_eq_true rfl) (by decide) ⟨Nat.zero_le _, Nat.zero_le _⟩ rfl dX0_refusalToTakeNote_5 (fun r_5 => ?_)
  refine sm_if_ne hG 13 11 rfl dX0_refusalToTakeNote_8 (by decide) ?_ ?_
  · refine sm_iload_n hG 14 rfl dX0_refusalToTakeNote_13 rfl 2 rfl ?_
    refine sm_aload_n hG 15 rfl dX0_refusalToTakeNote_14 rfl 0 rfl ?_
    refine gC1_0 hG hC ho 18 rfl u0 f9 dX0_refusalToTakeNote_15 ?_
    refine sm_iconst (x := (1 : Int32)) hG 19 rfl dX0_refusalToTakeNote_18 rfl ?_
    refine sm_iadd hG 20 rfl dX0_refusalToTakeNote_19 ?_
    refine sm_sipush (x := (9999 : Int32)) hG 23 rfl dX0_refusalToTakeNote_20 rfl ?_
    refine sm_callN hG (host := "ChoirRegister") (fun (q : Int32) => (some (Value.int q), v)) [.int x2, .int ((v (1, o, 0) 0) + (1 : Int32)), .int (9999 : Int32)] 26 rfl (fun hX => (hC.2.2.2 _ _ hX).1 _ (by decide +kernel)) (fun r_ hr_ => c_X6_isWithin hC   hr_) gX0_refusalToTakeNote_X6_isWithin_n71 fs_X6_isWithin fi_X6_isWithin rfl (by decide) (by decide) (n := 3) rfl (Nat.le_of_ble_eq_true rfl) (by decide) ⟨Nat.zero_le _, Nat.zero_le _⟩ rfl dX0_refusalToTakeNote_23 (fun r_23 => ?_)
    refine sm_if_eq hG 41 29 rfl dX0_refusalToTakeNote_26 (by decide) ?_ ?_
    · refine sm_iconst (x := (2 : Int32)) hG 42 rfl dX0_refusalToTakeNote_41 rfl ?_
      exact sm_iret hG hT ⟨Nat.zero_le _, Nat.zero_le _⟩ dX0_refusalToTakeNote_42 rfl
    · refine sm_iload_n hG 30 rfl dX0_refusalToTakeNote_29 rfl 3 rfl ?_
      refine sm_iload_n hG 31 rfl dX0_refusalToTakeNote_30 rfl 2 rfl ?_
      refine sm_iload_n hG 32 rfl dX0_refusalToTakeNote_31 rfl 2 rfl ?_
      refine sm_bipush (x := (60 : Int32)) hG 34 rfl dX0_refusalToTakeNote_32 rfl ?_
      refine sm_iadd hG 35 rfl dX0_refusalToTakeNote_34 ?_
      refine sm_callN hG (host := "ChoirRegister") (fun (q : Int32) => (some (Value.int q), v)) [.int x3, .int x2, .int (x2 + (60 : Int32))] 38 rfl (fun hX => (hC.2.2.2 _ _ hX).1 _ (by decide +kernel)) (fun r_ hr_ => c_X6_isWithin hC   hr_) gX0_refusalToTakeNote_X6_isWithin_n71 fs_X6_isWithin fi_X6_isWithin rfl (by decide) (by decide) (n := 3) rfl (Nat.le_of_ble_eq_true rfl) (by decide) ⟨Nat.zero_le _, Nat.zero_le _⟩ rfl dX0_refusalToTakeNote_35 (fun r_35 => ?_)
      refine sm_if_ne hG 43 41 rfl dX0_refusalToTakeNote_38 (by decide) ?_ ?_
      · refine sm_jn (fun (X71 : Int32 → Option Int32) => ∀ (s0_71 : Int32), Sm Γ Λ (0, 0) 71 [(0, .ref (Λ.2.2.2.1 (1, o, 0))), (1, .int x1)] [.int s0_71] v (X71 s0_71)) (fun s0_71 => ?_) (fun j71 hj71 => ?_)
        · refine sm_istore hG 73 rfl dX0_refusalToTakeNote_71 (jlt hN rfl) [(4, .int s0_71), (0, .ref (Λ.2.2.2.1 (1, o, 0))), (1, .int x1)] rfl ?_
          refine sm_iload hG 75 rfl dX0_refusalToTakeNote_73 0 rfl ?_
          refine sm_if_eq hG 97 78 rfl dX0_refusalToTakeNote_75 (by decide) ?_ ?_
          · refine sm_iconst (x := (3 : Int32)) hG 98 rfl dX0_refusalToTakeNote_97 rfl ?_
            exact sm_iret hG hT ⟨Nat.zero_le _, Nat.zero_le _⟩ dX0_refusalToTakeNote_98 rfl
          · refine sm_aload_n hG 79 rfl dX0_refusalToTakeNote_78 rfl 1 rfl ?_
            refine gC1_1 hG hC ho 82 rfl u0 f18 dX0_refusalToTakeNote_79 ?_
            refine sm_iload_n hG 83 rfl dX0_refusalToTakeNote_82 rfl 2 rfl ?_
            refine sm_aload_n hG 84 rfl dX0_refusalToTakeNote_83 rfl 1 rfl ?_
            refine gC1_0 hG hC ho 87 rfl u0 f9 dX0_refusalToTakeNote_84 ?_
            refine sm_callV hG (fun (q : Int32) => (some (Value.int q), v)) (2, o, 0) [.int x1, .int (v (1, o, 0) 0)] 90 rfl (okb hC (by decide) ho) (ce_2 hC _) (ci := 5) rfl (fun r_ hr_ => c_X5_hasLeftBy hC ho  hr_) gX0_refusalToTakeNote_X5_hasLeftBy rfl (by decide) (by decide) (n := 2) rfl (Nat.le_of_ble_eq_true rfl) (by decide) ⟨Nat.zero_le _, Nat.zero_le _⟩ rfl dX0_refusalToTakeNote_87 (fun r_87 => ?_)
            refine sm_if_ne hG 97 93 rfl dX0_refusalToTakeNote_90 (by decide) ?_ ?_
            · refine sm_iconst (x := (3 : Int32)) hG 98 rfl dX0_refusalToTakeNote_97 rfl ?_
              exact sm_iret hG hT ⟨Nat.zero_le _, Nat.zero_le _⟩ dX0_refusalToTakeNote_98 rfl
            · refine sm_iconst (x := (0 : Int32)) hG 94 rfl dX0_refusalToTakeNote_93 rfl ?_
              refine sm_goto hG 98 dX0_refusalToTakeNote_94 (by decide) ?_
              exact sm_iret hG hT ⟨Nat.zero_le _, Nat.zero_le _⟩ dX0_refusalToTakeNote_98 rfl
        · refine sm_jn (fun (X70 : Unit → Option Int32) => ∀ (u_ : Unit), Sm Γ Λ (0, 0) 70 [(0, .ref (Λ.2.2.2.1 (1, o, 0))), (1, .int x1)] [] v (X70 u_)) (fun u_ => ?_) (fun j70 hj70 => ?_)
          · refine sm_iconst (x := (0 : Int32)) hG 71 rfl dX0_refusalToTakeNote_70 rfl ?_
            exact hj71 _
          · refine sm_aload_n hG 44 rfl dX0_refusalToTakeNote_43 rfl 0 rfl ?_
            refine gC1_2 hG hC ho 47 rfl u0 f25 dX0_refusalToTakeNote_44 ?_
            refine sm_callV hG (fun (q : Int32) => (some (Value.int q), v)) (14, o, 0) [] 50 rfl (okb hC (by decide) ho) (ce_14 hC _) (ci := 4) rfl (fun r_ hr_ => c_X4_areFull hC ho  hr_) gX0_refusalToTakeNote_X4_areFull rfl (by decide) (by decide) (n := 0) rfl (Nat.le_of_ble_eq_true rfl) (by decide) ⟨Nat.zero_le _, Nat.zero_le _⟩ rfl dX0_refusalToTakeNote_47 (fun r_47 => ?_)
            refine sm_if_ne hG 70 53 rfl dX0_refusalToTakeNote_50 (by decide) ?_ ?_
            · refine sm_loc [0, 1] [(0, .ref (Λ.2.2.2.1 (1, o, 0))), (1, .int x1)] rfl ?_
              exact hj70 ()
            · refine sm_aload_n hG 54 rfl dX0_refusalToTakeNote_53 rfl 0 rfl ?_
              refine gC1_2 hG hC ho 57 rfl u0 f25 dX0_refusalToTakeNote_54 ?_
              refine sm_iload_n hG 58 rfl dX0_refusalToTakeNote_57 rfl 1 rfl ?_
              refine sm_iload_n hG 59 rfl dX0_refusalToTakeNote_58 rfl 2 rfl ?_
              refine sm_iload_n hG 60 rfl dX0_refusalToTakeNote_59 rfl 3 rfl ?_
              refine sm_callV hG (fun (q : Int32) => (some (Value.int q), v)) (14, o, 0) [.int x1, .int x2, .int x3] 63 rfl (okb hC (by decide) ho) (ce_14 hC _) (ci := 4) rfl (fun r_ hr_ => c_X4_coverAnyOf hC ho  hr_) gX0_refusalToTakeNote_X4_coverAnyOf rfl (by decide) (by decide) (n := 3) rfl (Nat.le_of_ble_eq_true rfl) (by decide) ⟨Nat.zero_le _, Nat.zero_le _⟩ rfl dX0_refusalToTakeNote_60 (fun r_60 => ?_)
              refine sm_if_ne hG 70 66 rfl dX0_refusalToTakeNote_63 (by decide) ?_ ?_
              · refine sm_loc [0, 1] [(0, .ref (Λ.2.2.2.1 (1, o, 0))), (1, .int x1)] rfl ?_
                exact hj70 ()
              · refine sm_iconst (x := (1 : Int32)) hG 67 rfl dX0_refusalToTakeNote_66 rfl ?_
                refine sm_goto hG 71 dX0_refusalToTakeNote_67 (by decide) ?_
                refine sm_loc [0, 1] [(0, .ref (Λ.2.2.2.1 (1, o, 0))), (1, .int x1)] rfl ?_
                exact hj71 _
      · refine sm_iconst (x := (2 : Int32)) hG 42 rfl dX0_refusalToTakeNote_41 rfl ?_
        exact sm_iret hG hT ⟨Nat.zero_le _, Nat.zero_le _⟩ dX0_refusalToTakeNote_42 rfl
  · refine sm_iconst (x := (1 : Int32)) hG 12 rfl dX0_refusalToTakeNote_11 rfl ?_
    exact sm_iret hG hT ⟨Nat.zero_le _, Nat.zero_le _⟩ dX0_refusalToTakeNote_12 rfl
abbrev rmX4_add : Room := { frames := 0, cells := 0, slots := 0, locals := 0 }
set_option maxRecDepth 100000 in
set_option maxHeartbeats 4000000 in
theorem c_X4_add {Λ : jL kC} (hC : LC Λ) {o : Nat} {x1 : Int32} {x2 : Int32} {x3 : Int32} (ho : o < 7) {l : Launch} {v : mC} {r : (Int32 × mC)} (hr_ : f_X4_add o x1 x2 x3 v = some r) : Ct l yX4_add wsX4_add rmX4_add Λ [.ref (Λ.2.2.2.1 (14, o, 0)), .int x1, .int x2, .int x3] v (some (.int r.1)) r.2 := by
  refine ct_of (cc := cX4_add) (maxL := 6) (ret := (some .int)) (fun (q : Int32 × mC) => (some (Value.int q.1), q.2)) hC.1 hr_ (by decide) rfl (Nat.le_of_ble_eq_true rfl) (fun Γ hG hT hN hl => ?_)
  subst hl
  have f15 : Cond.fieldLink RX4 15 "ChoirRegister$Notes" "singers" "[I" ∈ wsX4_add := by decide +kernel
  have f19 : Cond.fieldLink RX4 19 "ChoirRegister$Notes" "first" "[I" ∈ wsX4_add := by decide +kernel
  have f22 : Cond.fieldLink RX4 22 "ChoirRegister$Notes" "last" "[I" ∈ wsX4_add := by decide +kernel
  have f9 : Cond.fieldLink RX4 9 "ChoirRegister$Notes" "count" "I" ∈ wsX4_add := by decide +kernel
  have u4 : ∀ w ∈ wsX40, w ∈ wsX4_add := by decide +kernel
  show Sm Γ Λ (0, 0) 0 [(0, .ref (Λ.2.2.2.1 (14, o, 0))), (1, .int x1), (2, .int x2), (3, .int x3)] [] v _
  unfold f_X4_add
  refine sm_aload_n hG 1 rfl dX4_add_0 rfl 0 rfl ?_
  refine gC14_1 hG hC ho 4 rfl u4 f15 dX4_add_1 ?_
  refine sm_aload_n hG 5 rfl dX4_add_4 rfl 0 rfl ?_
  refine gC14_0 hG hC ho 8 rfl u4 f9 dX4_add_5 ?_
  refine sm_iload_n hG 9 rfl dX4_add_8 rfl 1 rfl ?_
  refine sC15 hG hC ho 10 rfl dX4_add_9 ?_
  refine sm_nmv (fun w9_1 => ?_)
  refine sm_aload_n hG 11 rfl dX4_add_10 rfl 0 rfl ?_
  refine gC14_2 hG hC ho 14 rfl u4 f19 dX4_add_11 ?_
  refine sm_aload_n hG 15 rfl dX4_add_14 rfl 0 rfl ?_
  refine gC14_0 hG hC ho 18 rfl u4 f9 dX4_add_15 ?_
  refine sm_iload_n hG 19 rfl dX4_add_18 rfl 2 rfl ?_
  refine sC16 hG hC ho 20 rfl dX4_add_19 ?_
  refine sm_nmv (fun w19_2 => ?_)
  refine sm_aload_n hG 21 rfl dX4_add_20 rfl 0 rfl ?_
  refine gC14_3 hG hC ho 24 rfl u4 f22 dX4_add_21 ?_
  refine sm_aload_n hG 25 rfl dX4_add_24 rfl 0 rfl ?_
  refine gC14_0 hG hC ho 28 rfl u4 f9 dX4_add_25 ?_
  refine sm_iload_n hG 29 rfl dX4_add_28 rfl 3 rfl ?_
  refine sC17 hG hC ho 30 rfl dX4_add_29 ?_
  refine sm_nmv (fun w29_3 => ?_)
  refine sm_aload_n hG 31 rfl dX4_add_30 rfl 0 rfl ?_
  refine sm_dup hG 32 rfl dX4_add_31 rfl ?_
  refine gC14_0 hG hC ho 35 rfl u4 f9 dX4_add_32 ?_
  refine sm_iconst (x := (1 : Int32)) hG 36 rfl dX4_add_35 rfl ?_
  refine sm_iadd hG 37 rfl dX4_add_36 ?_
  refine pC14_0 hG hC ho 40 rfl u4 f9 dX4_add_37 ?_
  refine sm_nmv (fun w37_4 => ?_)
  refine sm_iconst (x := (0 : Int32)) hG 41 rfl dX4_add_40 rfl ?_
  refine sm_istore hG 43 rfl dX4_add_41 (jlt hN rfl) [(4, .int (0 : Int32)), (0, .ref (Λ.2.2.2.1 (14, o, 0))), (1, .int x1), (2, .int x2), (3, .int x3)] rfl ?_
  refine sm_iconst (x := (0 : Int32)) hG 44 rfl dX4_add_43 rfl ?_
  refine sm_istore hG 46 rfl dX4_add_44 (jlt hN rfl) [(5, .int (0 : Int32)), (4, .int (0 : Int32)), (0, .ref (Λ.2.2.2.1 (14, o, 0))), (1, .int x1), (2, .int x2), (3, .int x3)] rfl ?_
  refine sm_loc [2, 3, 1, 0] [(0, .ref (Λ.2.2.2.1 (14, o, 0))), (1, .int x1), (4, .int (0 : Int32)), (5, .int (0 : Int32))] rfl ?_
  refine lp_ind (fun (X46 : Int32 → Int32 → Option (Int32 × mC)) => ∀ (x4_46 : Int32) (x5_46 : Int32), Sm Γ Λ (0, 0) 46 [(0, .ref (Λ.2.2.2.1 (14, o, 0))), (1, .int x1), (4, .int x4_46), (5, .int x5_46)] [] w37_4 (X46 x4_46 x5_46)) (fun _ _ => sm_none) (fun self46 hs46 x4_46 x5_46 => ?_) 8192 _ _
  refine sm_iload hG 48 rfl dX4_add_46 3 rfl ?_
  refine sm_aload_n hG 49 rfl dX4_add_48 rfl 0 rfl ?_
  refine gC14_0 hG hC ho 52 rfl u4 f9 dX4_add_49 ?_
  refine sm_icmp_ge hG 75 55 rfl dX4_add_52 (by decide) ?_ ?_
  · refine sm_iload hG 77 rfl dX4_add_75 2 rfl ?_
    exact sm_iret hG hT ⟨Nat.zero_le _, Nat.zero_le _⟩ dX4_add_77 rfl
  · refine sm_aload_n hG 56 rfl dX4_add_55 rfl 0 rfl ?_
    refine gC14_1 hG hC ho 59 rfl u4 f15 dX4_add_56 ?_
    refine sm_iload hG 61 rfl dX4_add_59 3 rfl ?_
    refine lC15 hG hC ho 62 rfl dX4_add_61 ?_
    refine sm_iload_n hG 63 rfl dX4_add_62 rfl 1 rfl ?_
    refine sm_icmp_ne hG 69 66 rfl dX4_add_63 (by decide) ?_ ?_
    · refine sm_iinc hG 72 rfl dX4_add_69 (j := 3) rfl rfl (jlt hN rfl) [(5, .int (x5_46 + (1 : Int32))), (0, .ref (Λ.2.2.2.1 (14, o, 0))), (1, .int x1), (4, .int x4_46)] rfl ?_
      refine sm_goto hG 46 dX4_add_72 (by decide) ?_
      refine sm_loc [1, 2, 3, 0] [(0, .ref (Λ.2.2.2.1 (14, o, 0))), (1, .int x1), (4, .int x4_46), (5, .int (x5_46 + (1 : Int32)))] rfl ?_
      exact hs46 _ _
    · refine sm_iinc hG 69 rfl dX4_add_66 (j := 2) rfl rfl (jlt hN rfl) [(4, .int (x4_46 + (1 : Int32))), (0, .ref (Λ.2.2.2.1 (14, o, 0))), (1, .int x1), (5, .int x5_46)] rfl ?_
      refine sm_iinc hG 72 rfl dX4_add_69 (j := 3) rfl rfl (jlt hN rfl) [(5, .int (x5_46 + (1 : Int32))), (4, .int (x4_46 + (1 : Int32))), (0, .ref (Λ.2.2.2.1 (14, o, 0))), (1, .int x1)] rfl ?_
      refine sm_goto hG 46 dX4_add_72 (by decide) ?_
      refine sm_loc [2, 3, 1, 0] [(0, .ref (Λ.2.2.2.1 (14, o, 0))), (1, .int x1), (4, .int (x4_46 + (1 : Int32))), (5, .int (x5_46 + (1 : Int32)))] rfl ?_
      exact hs46 _ _
abbrev rmX0_takeNote : Room := { frames := 1, cells := 0, slots := 0, locals := 25 }
set_option maxRecDepth 100000 in
set_option maxHeartbeats 4000000 in
theorem c_X0_takeNote {Λ : jL kC} (hC : LC Λ) {o : Nat} {x1 : Int32} {x2 : Int32} {x3 : Int32} (ho : o < 7) {l : Launch} {v : mC} {r : (Int32 × mC)} (hr_ : f_X0_takeNote o x1 x2 x3 v = some r) : Ct l yX0_takeNote wsX0_takeNote rmX0_takeNote Λ [.ref (Λ.2.2.2.1 (1, o, 0)), .int x1, .int x2, .int x3] v (some (.int r.1)) r.2 := by
  refine ct_of (cc := cX0_takeNote) (maxL := 4) (ret := (some .int)) (fun (q : Int32 × mC) => (some (Value.int q.1), q.2)) hC.1 hr_ (by decide) rfl (Nat.le_of_ble_eq_true rfl) (fun Γ hG hT hN hl => ?_)
  subst hl
  have f25 : Cond.fieldLink RX0 25 "ChoirRegister$Book" "notes" "LChoirRegister$Notes;" ∈ wsX0_takeNote := by decide +kernel
  have u0 : ∀ w ∈ wsX00, w ∈ wsX0_takeNote := by decide +kernel
  show Sm Γ Λ (0, 0) 0 [(0, .ref (Λ.2.2.2.1 (1, o, 0))), (1, .int x1), (2, .int x2), (3, .int x3)] [] v _
  unfold f_X0_takeNote
  refine sm_aload_n hG 1 rfl dX0_takeNote_0 rfl 0 rfl ?_
  refine gC1_2 hG hC ho 4 rfl u0 f25 dX0_takeNote_1 ?_
  refine sm_iload_n hG 5 rfl dX0_takeNote_4 rfl 1 rfl ?_
  refine sm_iload_n hG 6 rfl dX0_takeNote_5 rfl 2 rfl ?_
  refine sm_iload_n hG 7 rfl dX0_takeNote_6 rfl 3 rfl ?_
  refine sm_callV hG (fun (q : Int32 × mC) => (some (Value.int q.1), q.2)) (14, o, 0) [.int x1, .int x2, .int x3] 10 rfl (okb hC (by decide) ho) (ce_14 hC _) (ci := 4) rfl (fun r_ hr_ => c_X4_add hC ho  hr_) gX0_takeNote_X4_add rfl (by decide) (by decide) (n := 3) rfl (Nat.le_of_ble_eq_true rfl) (by decide) ⟨Nat.zero_le _, Nat.zero_le _⟩ rfl dX0_takeNote_7 (fun r_7 => ?_)
  exact sm_iret hG hT ⟨Nat.zero_le _, Nat.zero_le _⟩ dX0_takeNote_10 rfl
abbrev rmX1_isFull : Room := { frames := 0, cells := 0, slots := 0, locals := 0 }
set_option maxRecDepth 100000 in
set_option maxHeartbeats 4000000 in
theorem c_X1_isFull {Λ : jL kC} (hC : LC Λ) {o : Nat} (ho : o < 7) {l : Launch} {v : mC} {r : Int32} (hr_ : f_X1_isFull o v = some r) : Ct l yX1_isFull wsX1_isFull rmX1_isFull Λ [.ref (Λ.2.2.2.1 (18, o, 0))] v (some (.int r)) v := by
  refine ct_of (cc := cX1_isFull) (maxL := 1) (ret := (some .boolean)) (fun (q : Int32) => (some (Value.int q), v)) hC.1 hr_ (by decide) rfl (Nat.le_of_ble_eq_true rfl) (fun Γ hG hT hN hl => ?_)
  subst hl
  have f9 : Cond.fieldLink RX1 9 "ChoirRegister$Calendar" "count" "I" ∈ wsX1_isFull := by decide +kernel
  have u1 : ∀ w ∈ wsX10, w ∈ wsX1_isFull := by decide +kernel
  show Sm Γ Λ (0, 0) 0 [(0, .ref (Λ.2.2.2.1 (18, o, 0)))] [] v _
  unfold f_X1_isFull
  refine sm_aload_n hG 1 rfl dX1_isFull_0 rfl 0 rfl ?_
  refine gC18_0 hG hC ho 4 rfl u1 f9 dX1_isFull_1 ?_
  refine sm_bipush (x := (20 : Int32)) hG 6 rfl dX1_isFull_4 rfl ?_
  refine sm_icmp_lt hG 13 9 rfl dX1_isFull_6 (by decide) ?_ ?_
  · refine sm_iconst (x := (0 : Int32)) hG 14 rfl dX1_isFull_13 rfl ?_
    exact sm_bret hG hT ⟨Nat.zero_le _, Nat.zero_le _⟩ dX1_isFull_14 rfl
  · refine sm_iconst (x := (1 : Int32)) hG 10 rfl dX1_isFull_9 rfl ?_
    refine sm_goto hG 14 dX1_isFull_10 (by decide) ?_
    exact sm_bret hG hT ⟨Nat.zero_le _, Nat.zero_le _⟩ dX1_isFull_14 rfl
abbrev rmX1_hasFeastOn : Room := { frames := 0, cells := 0, slots := 0, locals := 0 }
set_option maxRecDepth 100000 in
set_option maxHeartbeats 4000000 in
theorem c_X1_hasFeastOn {Λ : jL kC} (hC : LC Λ) {o : Nat} {x1 : Int32} (ho : o < 7) {l : Launch} {v : mC} {r : Int32} (hr_ : f_X1_hasFeastOn o x1 v = some r) : Ct l yX1_hasFeastOn wsX1_hasFeastOn rmX1_hasFeastOn Λ [.ref (Λ.2.2.2.1 (18, o, 0)), .int x1] v (some (.int r)) v := by
  refine ct_of (cc := cX1_hasFeastOn) (maxL := 3) (ret := (some .boolean)) (fun (q : Int32) => (some (Value.int q), v)) hC.1 hr_ (by decide) rfl (Nat.le_of_ble_eq_true rfl) (fun Γ hG hT hN hl => ?_)
  subst hl
  have f15 : Cond.fieldLink RX1 15 "ChoirRegister$Calendar" "day" "[I" ∈ wsX1_hasFeastOn := by decide +kernel
  have f9 : Cond.fieldLink RX1 9 "ChoirRegister$Calendar" "count" "I" ∈ wsX1_hasFeastOn := by decide +kernel
  have u1 : ∀ w ∈ wsX10, w ∈ wsX1_hasFeastOn := by decide +kernel
  show Sm Γ Λ (0, 0) 0 [(0, .ref (Λ.2.2.2.1 (18, o, 0))), (1, .int x1)] [] v _
  unfold f_X1_hasFeastOn
  refine sm_iconst (x := (0 : Int32)) hG 1 rfl dX1_hasFeastOn_0 rfl ?_
  refine sm_istore_n hG 2 rfl dX1_hasFeastOn_1 rfl (jlt hN rfl) [(2, .int (0 : Int32)), (0, .ref (Λ.2.2.2.1 (18, o, 0))), (1, .int x1)] rfl ?_
  refine sm_loc [1, 2, 0] [(0, .ref (Λ.2.2.2.1 (18, o, 0))), (1, .int x1), (2, .int (0 : Int32))] rfl ?_
  refine lp_ind (fun (X2 : Int32 → Option Int32) => ∀ (x2_2 : Int32), Sm Γ Λ (0, 0) 2 [(0, .ref (Λ.2.2.2.1 (18, o, 0))), (1, .int x1), (2, .int x2_2)] [] v (X2 x2_2)) (fun _ => sm_none) (fun self2 hs2 x2_2 => ?_) 8192 _
  refine sm_iload_n hG 3 rfl dX1_hasFeastOn_2 rfl 2 rfl ?_
  refine sm_aload_n hG 4 rfl dX1_hasFeastOn_3 rfl 0 rfl ?_
  refine gC18_0 hG hC ho 7 rfl u1 f9 dX1_hasFeastOn_4 ?_
  refine sm_icmp_ge hG 28 10 rfl dX1_hasFeastOn_7 (by decide) ?_ ?_
  · refine sm_iconst (x := (0 : Int32)) hG 29 rfl dX1_hasFeastOn_28 rfl ?_
    exact sm_bret hG hT ⟨Nat.zero_le _, Nat.zero_le _⟩ dX1_hasFeastOn_29 rfl
  · refine sm_aload_n hG 11 rfl dX1_hasFeastOn_10 rfl 0 rfl ?_
    refine gC18_1 hG hC ho 14 rfl u1 f15 dX1_hasFeastOn_11 ?_
    refine sm_iload_n hG 15 rfl dX1_hasFeastOn_14 rfl 2 rfl ?_
    refine lC19 hG hC ho 16 rfl dX1_hasFeastOn_15 ?_
    refine sm_iload_n hG 17 rfl dX1_hasFeastOn_16 rfl 1 rfl ?_
    refine sm_icmp_ne hG 22 20 rfl dX1_hasFeastOn_17 (by decide) ?_ ?_
    · refine sm_iinc hG 25 rfl dX1_hasFeastOn_22 (j := 2) rfl rfl (jlt hN rfl) [(2, .int (x2_2 + (1 : Int32))), (0, .ref (Λ.2.2.2.1 (18, o, 0))), (1, .int x1)] rfl ?_
      refine sm_goto hG 2 dX1_hasFeastOn_25 (by decide) ?_
      refine sm_loc [1, 2, 0] [(0, .ref (Λ.2.2.2.1 (18, o, 0))), (1, .int x1), (2, .int (x2_2 + (1 : Int32)))] rfl ?_
      exact hs2 _
    · refine sm_iconst (x := (1 : Int32)) hG 21 rfl dX1_hasFeastOn_20 rfl ?_
      exact sm_bret hG hT ⟨Nat.zero_le _, Nat.zero_le _⟩ dX1_hasFeastOn_21 rfl
