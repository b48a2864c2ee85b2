/-! printed by wip/whole/jgen.py out of the bytecode: the walks -/
abbrev rmX6_purseByAccounts : Room := { frames := 0, cells := 0, slots := 0, locals := 0 }
set_option maxRecDepth 100000 in
set_option maxHeartbeats 4000000 in
theorem c_X6_purseByAccounts {Λ : jL kC} (hC : LC Λ)   {l : Launch} {v : mC} {r : Int32} (hr_ : f_X6_purseByAccounts v = some r) : Ct l yX6_purseByAccounts wsX6_purseByAccounts rmX6_purseByAccounts Λ [.ref (Λ.2.2.2.1 (0, 0, 0))] v (some (.int r)) v := by
  refine ct_of (cc := cX6_purseByAccounts) (maxL := 1) (ret := (some .int)) (fun (q : Int32) => (some (Value.int q), v)) hC.1 hr_ (by decide) rfl (Nat.le_of_ble_eq_true rfl) (fun Γ hG hT hN hl => ?_)
  subst hl
  have f10 : Cond.fieldLink RX6 10 "ChoirRegister" "book" "LChoirRegister$Book;" ∈ wsX6_purseByAccounts := by decide +kernel
  have f269 : Cond.fieldLink RX6 269 "ChoirRegister$Book" "collected" "I" ∈ wsX6_purseByAccounts := by decide +kernel
  have f272 : Cond.fieldLink RX6 272 "ChoirRegister$Book" "paidForLending" "I" ∈ wsX6_purseByAccounts := by decide +kernel
  have f275 : Cond.fieldLink RX6 275 "ChoirRegister$Book" "feesPaid" "I" ∈ wsX6_purseByAccounts := by decide +kernel
  have f278 : Cond.fieldLink RX6 278 "ChoirRegister$Book" "finesPaid" "I" ∈ wsX6_purseByAccounts := by decide +kernel
  have u0 : ∀ w ∈ wsX00, w ∈ wsX6_purseByAccounts := by decide +kernel
  have u6 : ∀ w ∈ wsX60, w ∈ wsX6_purseByAccounts := by decide +kernel
  show Sm Γ Λ (0, 0) 0 [(0, .ref (Λ.2.2.2.1 (0, 0, 0)))] [] v _
  unfold f_X6_purseByAccounts
  refine sm_bipush (x := (50 : Int32)) hG 2 rfl dX6_purseByAccounts_0 rfl ?_
  refine sm_aload_n hG 3 rfl dX6_purseByAccounts_2 rfl 0 rfl ?_
  refine gC0_0 hG hC  6 rfl u6 f10 dX6_purseByAccounts_3 ?_
  refine gC1_7 hG hC (by decide) 9 rfl u0 f269 dX6_purseByAccounts_6 ?_
  refine sm_iadd hG 10 rfl dX6_purseByAccounts_9 ?_
  refine sm_aload_n hG 11 rfl dX6_purseByAccounts_10 rfl 0 rfl ?_
  refine gC0_0 hG hC  14 rfl u6 f10 dX6_purseByAccounts_11 ?_
  refine gC1_6 hG hC (by decide) 17 rfl u0 f272 dX6_purseByAccounts_14 ?_
  refine sm_iadd hG 18 rfl dX6_purseByAccounts_17 ?_
  refine sm_nmi (fun y17_1 => ?_)
  refine sm_aload_n hG 19 rfl dX6_purseByAccounts_18 rfl 0 rfl ?_
  refine gC0_0 hG hC  22 rfl u6 f10 dX6_purseByAccounts_19 ?_
  refine gC1_8 hG hC (by decide) 25 rfl u0 f275 dX6_purseByAccounts_22 ?_
  refine sm_isub hG 26 rfl dX6_purseByAccounts_25 ?_
  refine sm_aload_n hG 27 rfl dX6_purseByAccounts_26 rfl 0 rfl ?_
  refine gC0_0 hG hC  30 rfl u6 f10 dX6_purseByAccounts_27 ?_
  refine gC1_9 hG hC (by decide) 33 rfl u0 f278 dX6_purseByAccounts_30 ?_
  refine sm_isub hG 34 rfl dX6_purseByAccounts_33 ?_
  refine sm_nmi (fun y33_2 => ?_)
  exact sm_iret hG hT ⟨Nat.zero_le _, Nat.zero_le _⟩ dX6_purseByAccounts_34 rfl
abbrev rmX6_collected : Room := { frames := 0, cells := 0, slots := 0, locals := 0 }
set_option maxRecDepth 100000 in
set_option maxHeartbeats 4000000 in
theorem c_X6_collected {Λ : jL kC} (hC : LC Λ)   {l : Launch} {v : mC} {r : Int32} (hr_ : f_X6_collected v = some r) : Ct l yX6_collected wsX6_collected rmX6_collected Λ [.ref (Λ.2.2.2.1 (0, 0, 0))] v (some (.int r)) v := by
  refine ct_of (cc := cX6_collected) (maxL := 1) (ret := (some .int)) (fun (q : Int32) => (some (Value.int q), v)) hC.1 hr_ (by decide) rfl (Nat.le_of_ble_eq_true rfl) (fun Γ hG hT hN hl => ?_)
  subst hl
  have f10 : Cond.fieldLink RX6 10 "ChoirRegister" "book" "LChoirRegister$Book;" ∈ wsX6_collected := by decide +kernel
  have f269 : Cond.fieldLink RX6 269 "ChoirRegister$Book" "collected" "I" ∈ wsX6_collected := by decide +kernel
  have u0 : ∀ w ∈ wsX00, w ∈ wsX6_collected := by decide +kernel
  have u6 : ∀ w ∈ wsX60, w ∈ wsX6_collected := by decide +kernel
  show Sm Γ Λ (0, 0) 0 [(0, .ref (Λ.2.2.2.1 (0, 0, 0)))] [] v _
  unfold f_X6_collected
  refine sm_aload_n hG 1 rfl dX6_collected_0 rfl 0 rfl ?_
  refine gC0_0 hG hC  4 rfl u6 f10 dX6_collected_1 ?_
  refine gC1_7 hG hC (by decide) 7 rfl u0 f269 dX6_collected_4 ?_
  exact sm_iret hG hT ⟨Nat.zero_le _, Nat.zero_le _⟩ dX6_collected_7 rfl
abbrev rmX6_fees : Room := { frames := 0, cells := 0, slots := 0, locals := 0 }
set_option maxRecDepth 100000 in
set_option maxHeartbeats 4000000 in
theorem c_X6_fees {Λ : jL kC} (hC : LC Λ)   {l : Launch} {v : mC} {r : Int32} (hr_ : f_X6_fees v = some r) : Ct l yX6_fees wsX6_fees rmX6_fees Λ [.ref (Λ.2.2.2.1 (0, 0, 0))] v (some (.int r)) v := by
  refine ct_of (cc := cX6_fees) (maxL := 1) (ret := (some .int)) (fun (q : Int32) => (some (Value.int q), v)) hC.1 hr_ (by decide) rfl (Nat.le_of_ble_eq_true rfl) (fun Γ hG hT hN hl => ?_)
  subst hl
  have f10 : Cond.fieldLink RX6 10 "ChoirRegister" "book" "LChoirRegister$Book;" ∈ wsX6_fees := by decide +kernel
  have f275 : Cond.fieldLink RX6 275 "ChoirRegister$Book" "feesPaid" "I" ∈ wsX6_fees := by decide +kernel
  have u0 : ∀ w ∈ wsX00, w ∈ wsX6_fees := by decide +kernel
  have u6 : ∀ w ∈ wsX60, w ∈ wsX6_fees := by decide +kernel
  show Sm Γ Λ (0, 0) 0 [(0, .ref (Λ.2.2.2.1 (0, 0, 0)))] [] v _
  unfold f_X6_fees
  refine sm_aload_n hG 1 rfl dX6_fees_0 rfl 0 rfl ?_
  refine gC0_0 hG hC  4 rfl u6 f10 dX6_fees_1 ?_
  refine gC1_8 hG hC (by decide) 7 rfl u0 f275 dX6_fees_4 ?_
  exact sm_iret hG hT ⟨Nat.zero_le _, Nat.zero_le _⟩ dX6_fees_7 rfl
abbrev rmX6_fines : Room := { frames := 0, cells := 0, slots := 0, locals := 0 }
set_option maxRecDepth 100000 in
set_option maxHeartbeats 4000000 in
theorem c_X6_fines {Λ : jL kC} (hC : LC Λ)   {l : Launch} {v : mC} {r : Int32} (hr_ : f_X6_fines v = some r) : Ct l yX6_fines wsX6_fines rmX6_fines Λ [.ref (Λ.2.2.2.1 (0, 0, 0))] v (some (.int r)) v := by
  refine ct_of (cc := cX6_fines) (maxL := 1) (ret := (some .int)) (fun (q : Int32) => (some (Value.int q), v)) hC.1 hr_ (by decide) rfl (Nat.le_of_ble_eq_true rfl) (fun Γ hG hT hN hl => ?_)
  subst hl
  have f10 : Cond.fieldLink RX6 10 "ChoirRegister" "book" "LChoirRegister$Book;" ∈ wsX6_fines := by decide +kernel
  have f278 : Cond.fieldLink RX6 278 "ChoirRegister$Book" "finesPaid" "I" ∈ wsX6_fines := by decide +kernel
  have u0 : ∀ w ∈ wsX00, w ∈ wsX6_fines := by decide +kernel
  have u6 : ∀ w ∈ wsX60, w ∈ wsX6_fines := by decide +kernel
  show Sm Γ Λ (0, 0) 0 [(0, .ref (Λ.2.2.2.1 (0, 0, 0)))] [] v _
  unfold f_X6_fines
  refine sm_aload_n hG 1 rfl dX6_fines_0 rfl 0 rfl ?_
  refine gC0_0 hG hC  4 rfl u6 f10 dX6_fines_1 ?_
  refine gC1_9 hG hC (by decide) 7 rfl u0 f278 dX6_fines_4 ?_
  exact sm_iret hG hT ⟨Nat.zero_le _, Nat.zero_le _⟩ dX6_fines_7 rfl
abbrev rmX6_day : Room := { frames := 0, cells := 0, slots := 0, locals := 0 }
set_option maxRecDepth 100000 in
set_option maxHeartbeats 4000000 in
theorem c_X6_day {Λ : jL kC} (hC : LC Λ)   {l : Launch} {v : mC} {r : Int32} (hr_ : f_X6_day v = some r) : Ct l yX6_day wsX6_day rmX6_day Λ [.ref (Λ.2.2.2.1 (0, 0, 0))] v (some (.int r)) v := by
  refine ct_of (cc := cX6_day) (maxL := 1) (ret := (some .int)) (fun (q : Int32) => (some (Value.int q), v)) hC.1 hr_ (by decide) rfl (Nat.le_of_ble_eq_true rfl) (fun Γ hG hT hN hl => ?_)
  subst hl
  have f10 : Cond.fieldLink RX6 10 "ChoirRegister" "book" "LChoirRegister$Book;" ∈ wsX6_day := by decide +kernel
  have f134 : Cond.fieldLink RX6 134 "ChoirRegister$Book" "day" "I" ∈ wsX6_day := by decide +kernel
  have u0 : ∀ w ∈ wsX00, w ∈ wsX6_day := by decide +kernel
  have u6 : ∀ w ∈ wsX60, w ∈ wsX6_day := by decide +kernel
  show Sm Γ Λ (0, 0) 0 [(0, .ref (Λ.2.2.2.1 (0, 0, 0)))] [] v _
  unfold f_X6_day
  refine sm_aload_n hG 1 rfl dX6_day_0 rfl 0 rfl ?_
  refine gC0_0 hG hC  4 rfl u6 f10 dX6_day_1 ?_
  refine gC1_0 hG hC (by decide) 7 rfl u0 f134 dX6_day_4 ?_
  exact sm_iret hG hT ⟨Nat.zero_le _, Nat.zero_le _⟩ dX6_day_7 rfl
abbrev rmX6_recordedStates : Room := { frames := 0, cells := 0, slots := 0, locals := 0 }
set_option maxRecDepth 100000 in
set_option maxHeartbeats 4000000 in
theorem c_X6_recordedStates {Λ : jL kC} (hC : LC Λ)   {l : Launch} {v : mC} {r : Int32} (hr_ : f_X6_recordedStates v = some r) : Ct l yX6_recordedStates wsX6_recordedStates rmX6_recordedStates Λ [.ref (Λ.2.2.2.1 (0, 0, 0))] v (some (.int r)) v := by
  refine ct_of (cc := cX6_recordedStates) (maxL := 1) (ret := (some .int)) (fun (q : Int32) => (some (Value.int q), v)) hC.1 hr_ (by decide) rfl (Nat.le_of_ble_eq_true rfl) (fun Γ hG hT hN hl => ?_)
  subst hl
  have f30 : Cond.fieldLink RX6 30 "ChoirRegister" "recordedCount" "I" ∈ wsX6_recordedStates := by decide +kernel
  have u6 : ∀ w ∈ wsX60, w ∈ wsX6_recordedStates := by decide +kernel
  show Sm Γ Λ (0, 0) 0 [(0, .ref (Λ.2.2.2.1 (0, 0, 0)))] [] v _
  unfold f_X6_recordedStates
  refine sm_aload_n hG 1 rfl dX6_recordedStates_0 rfl 0 rfl ?_
  refine gC0_5 hG hC  4 rfl u6 f30 dX6_recordedStates_1 ?_
  exact sm_iret hG hT ⟨Nat.zero_le _, Nat.zero_le _⟩ dX6_recordedStates_4 rfl
