/-! printed by wip/whole/jgen.py out of the bytecode: the walks -/
abbrev rmX7_impossibleOrder : Room := { frames := 12, cells := 0, slots := 0, locals := 283 }
set_option maxRecDepth 100000 in
set_option maxHeartbeats 4000000 in
theorem c_X7_impossibleOrder {Λ : jL Nat} (hM : LM Λ)   {l : Launch} {v : mM} {r : (Int32 × mM)} (hr_ : f_X7_impossibleOrder v = some r) : Ct l yX7_impossibleOrder wsX7_impossibleOrder rmX7_impossibleOrder Λ [.ref (Λ.2.2.2.1 0)] v (some (.int r.1)) r.2 := by
  refine ct_of (cc := cX7_impossibleOrder) (maxL := 2) (ret := (some .int)) (fun (q : Int32 × mM) => (some (Value.int q.1), q.2)) hM.1 hr_ (by decide) rfl (Nat.le_of_ble_eq_true rfl) (fun Γ hG hT hN hl => ?_)
  subst hl
  have f19 : Cond.fieldLink RX7 19 "ChoirRegisterModel" "aside" "[I" ∈ wsX7_impossibleOrder := by decide +kernel
  have f218 : Cond.fieldLink RX7 218 "ChoirRegisterModel" "toldMany" "I" ∈ wsX7_impossibleOrder := by decide +kernel
  have f40 : Cond.fieldLink RX7 40 "ChoirRegisterModel" "thrown" "I" ∈ wsX7_impossibleOrder := by decide +kernel
  have f7 : Cond.fieldLink RX7 7 "ChoirRegisterModel" "now" "[I" ∈ wsX7_impossibleOrder := by decide +kernel
  have u7 : ∀ w ∈ wsX70, w ∈ wsX7_impossibleOrder := by decide +kernel
  show Sm Γ Λ (0, 0) 0 [(0, .ref (Λ.2.2.2.1 0))] [] v _
  unfold f_X7_impossibleOrder
  refine sm_aload_n hG 1 rfl dX7_impossibleOrder_0 rfl 0 rfl ?_
  refine sm_iconst (x := (0 : Int32)) hG 2 rfl dX7_impossibleOrder_1 rfl ?_
  refine pM0_12 hG hM  5 rfl u7 f40 dX7_impossibleOrder_2 ?_
  refine sm_nmv (fun w2_1 => ?_)
  refine sm_aload_n hG 6 rfl dX7_impossibleOrder_5 rfl 0 rfl ?_
  refine sm_callV hG (fun (q : Int32 × mM) => (some (Value.int q.1), q.2)) 0 [] 9 rfl (okm hM (by decide)) (me_0 hM _) (ci := 7) rfl (fun r_ hr_ => c_X7_isValid hM   hr_) gX7_impossibleOrder_X7_isValid rfl (by decide) (by decide) (n := 0) rfl (Nat.le_of_ble_eq_true rfl) (by decide) ⟨Nat.zero_le _, Nat.zero_le _⟩ rfl dX7_impossibleOrder_6 (fun r_6 => ?_)
  refine sm_if_ne hG 18 12 rfl dX7_impossibleOrder_9 (by decide) ?_ ?_
  · refine sm_aload_n hG 19 rfl dX7_impossibleOrder_18 rfl 0 rfl ?_
    refine gM0_0 hG hM  22 rfl u7 f7 dX7_impossibleOrder_19 ?_
    refine sm_iconst (x := (0 : Int32)) hG 23 rfl dX7_impossibleOrder_22 rfl ?_
    refine sm_aload_n hG 24 rfl dX7_impossibleOrder_23 rfl 0 rfl ?_
    refine gM0_5 hG hM  27 rfl u7 f19 dX7_impossibleOrder_24 ?_
    refine sm_iconst (x := (0 : Int32)) hG 28 rfl dX7_impossibleOrder_27 rfl ?_
    refine sm_callS hG (fun (w : mM) => ((none : Option Value), w)) [.ref (Λ.2.2.2.1 1), .int (0 : Int32), .ref (Λ.2.2.2.1 4), .int (0 : Int32)] 31 rfl (fun r_ hr_ => c_X7_lays hM (ia_1 hM) (ia_4 hM)  hr_) gX7_impossibleOrder_X7_lays rfl (by decide) (by decide) (n := 4) rfl (Nat.le_of_ble_eq_true rfl) (by decide) ⟨Nat.zero_le _, Nat.zero_le _⟩ rfl dX7_impossibleOrder_28 (fun r_28 => ?_)
    refine sm_aload_n hG 32 rfl dX7_impossibleOrder_31 rfl 0 rfl ?_
    refine sm_callV hG (fun (q : Int32 × mM) => (some (Value.int q.1), q.2)) 0 [] 35 rfl (okm hM (by decide)) (me_0 hM _) (ci := 7) rfl (fun r_ hr_ => c_X7_doesAll hM   hr_) gX7_impossibleOrder_X7_doesAll rfl (by decide) (by decide) (n := 0) rfl (Nat.le_of_ble_eq_true rfl) (by decide) ⟨Nat.zero_le _, Nat.zero_le _⟩ rfl dX7_impossibleOrder_32 (fun r_32 => ?_)
    refine sm_istore_n hG 36 rfl dX7_impossibleOrder_35 rfl (jlt hN rfl) [(1, .int r_32.1), (0, .ref (Λ.2.2.2.1 0))] rfl ?_
    refine sm_aload_n hG 37 rfl dX7_impossibleOrder_36 rfl 1 rfl ?_
    refine gM0_5 hG hM  40 rfl u7 f19 dX7_impossibleOrder_37 ?_
    refine sm_iconst (x := (0 : Int32)) hG 41 rfl dX7_impossibleOrder_40 rfl ?_
    refine sm_aload_n hG 42 rfl dX7_impossibleOrder_41 rfl 1 rfl ?_
    refine gM0_0 hG hM  45 rfl u7 f7 dX7_impossibleOrder_42 ?_
    refine sm_iconst (x := (0 : Int32)) hG 46 rfl dX7_impossibleOrder_45 rfl ?_
    refine sm_callS hG (fun (w : mM) => ((none : Option Value), w)) [.ref (Λ.2.2.2.1 4), .int (0 : Int32), .ref (Λ.2.2.2.1 1), .int (0 : Int32)] 49 rfl (fun r_ hr_ => c_X7_lays hM (ia_4 hM) (ia_1 hM)  hr_) gX7_impossibleOrder_X7_lays rfl (by decide) (by decide) (n := 4) rfl (Nat.le_of_ble_eq_true rfl) (by decide) ⟨Nat.zero_le _, Nat.zero_le _⟩ rfl dX7_impossibleOrder_46 (fun r_46 => ?_)
    refine sm_iload_n hG 50 rfl dX7_impossibleOrder_49 rfl 0 rfl ?_
    refine sm_aload_n hG 51 rfl dX7_impossibleOrder_50 rfl 1 rfl ?_
    refine gM0_15 hG hM  54 rfl u7 f218 dX7_impossibleOrder_51 ?_
    refine sm_icmp_ne hG 61 57 rfl dX7_impossibleOrder_54 (by decide) ?_ ?_
    · refine sm_iload_n hG 62 rfl dX7_impossibleOrder_61 rfl 0 rfl ?_
      exact sm_iret hG hT ⟨Nat.zero_le _, Nat.zero_le _⟩ dX7_impossibleOrder_62 rfl
    · refine sm_iconst (x := (-1 : Int32)) hG 58 rfl dX7_impossibleOrder_57 rfl ?_
      refine sm_goto hG 62 dX7_impossibleOrder_58 (by decide) ?_
      exact sm_iret hG hT ⟨Nat.zero_le _, Nat.zero_le _⟩ dX7_impossibleOrder_62 rfl
  · refine sm_aload_n hG 13 rfl dX7_impossibleOrder_12 rfl 0 rfl ?_
    refine sm_iconst (x := (1 : Int32)) hG 14 rfl dX7_impossibleOrder_13 rfl ?_
    refine sm_callV hG (fun (q : Int32 × mM) => (some (Value.int q.1), q.2)) 0 [.int (1 : Int32)] 17 rfl (okm hM (by decide)) (me_0 hM _) (ci := 7) rfl (fun r_ hr_ => c_X7_refuses hM   hr_) gX7_impossibleOrder_X7_refuses rfl (by decide) (by decide) (n := 1) rfl (Nat.le_of_ble_eq_true rfl) (by decide) ⟨Nat.zero_le _, Nat.zero_le _⟩ rfl dX7_impossibleOrder_14 (fun r_14 => ?_)
    exact sm_iret hG hT ⟨Nat.zero_le _, Nat.zero_le _⟩ dX7_impossibleOrder_17 rfl
abbrev rmX7_carryOut : Room := { frames := 12, cells := 0, slots := 0, locals := 283 }
set_option maxRecDepth 100000 in
set_option maxHeartbeats 4000000 in
theorem c_X7_carryOut {Λ : jL Nat} (hM : LM Λ)   {l : Launch} {v : mM} {r : (Int32 × mM)} (hr_ : f_X7_carryOut v = some r) : Ct l yX7_carryOut wsX7_carryOut rmX7_carryOut Λ [.ref (Λ.2.2.2.1 0)] v (some (.int r.1)) r.2 := by
  refine ct_of (cc := cX7_carryOut) (maxL := 1) (ret := (some .int)) (fun (q : Int32 × mM) => (some (Value.int q.1), q.2)) hM.1 hr_ (by decide) rfl (Nat.le_of_ble_eq_true rfl) (fun Γ hG hT hN hl => ?_)
  subst hl
  have f19 : Cond.fieldLink RX7 19 "ChoirRegisterModel" "aside" "[I" ∈ wsX7_carryOut := by decide +kernel
  have f218 : Cond.fieldLink RX7 218 "ChoirRegisterModel" "toldMany" "I" ∈ wsX7_carryOut := by decide +kernel
  have f40 : Cond.fieldLink RX7 40 "ChoirRegisterModel" "thrown" "I" ∈ wsX7_carryOut := by decide +kernel
  have f7 : Cond.fieldLink RX7 7 "ChoirRegisterModel" "now" "[I" ∈ wsX7_carryOut := by decide +kernel
  have u7 : ∀ w ∈ wsX70, w ∈ wsX7_carryOut := by decide +kernel
  show Sm Γ Λ (0, 0) 0 [(0, .ref (Λ.2.2.2.1 0))] [] v _
  unfold f_X7_carryOut
  refine sm_aload_n hG 1 rfl dX7_carryOut_0 rfl 0 rfl ?_
  refine sm_iconst (x := (0 : Int32)) hG 2 rfl dX7_carryOut_1 rfl ?_
  refine pM0_12 hG hM  5 rfl u7 f40 dX7_carryOut_2 ?_
  refine sm_nmv (fun w2_1 => ?_)
  refine sm_aload_n hG 6 rfl dX7_carryOut_5 rfl 0 rfl ?_
  refine sm_callV hG (fun (q : Int32 × mM) => (some (Value.int q.1), q.2)) 0 [] 9 rfl (okm hM (by decide)) (me_0 hM _) (ci := 7) rfl (fun r_ hr_ => c_X7_isValid hM   hr_) gX7_carryOut_X7_isValid rfl (by decide) (by decide) (n := 0) rfl (Nat.le_of_ble_eq_true rfl) (by decide) ⟨Nat.zero_le _, Nat.zero_le _⟩ rfl dX7_carryOut_6 (fun r_6 => ?_)
  refine sm_if_ne hG 18 12 rfl dX7_carryOut_9 (by decide) ?_ ?_
  · refine sm_aload_n hG 19 rfl dX7_carryOut_18 rfl 0 rfl ?_
    refine gM0_0 hG hM  22 rfl u7 f7 dX7_carryOut_19 ?_
    refine sm_iconst (x := (0 : Int32)) hG 23 rfl dX7_carryOut_22 rfl ?_
    refine sm_aload_n hG 24 rfl dX7_carryOut_23 rfl 0 rfl ?_
    refine gM0_5 hG hM  27 rfl u7 f19 dX7_carryOut_24 ?_
    refine sm_iconst (x := (0 : Int32)) hG 28 rfl dX7_carryOut_27 rfl ?_
    refine sm_callS hG (fun (w : mM) => ((none : Option Value), w)) [.ref (Λ.2.2.2.1 1), .int (0 : Int32), .ref (Λ.2.2.2.1 4), .int (0 : Int32)] 31 rfl (fun r_ hr_ => c_X7_lays hM (ia_1 hM) (ia_4 hM)  hr_) gX7_carryOut_X7_lays rfl (by decide) (by decide) (n := 4) rfl (Nat.le_of_ble_eq_true rfl) (by decide) ⟨Nat.zero_le _, Nat.zero_le _⟩ rfl dX7_carryOut_28 (fun r_28 => ?_)
    refine sm_aload_n hG 32 rfl dX7_carryOut_31 rfl 0 rfl ?_
    refine sm_callV hG (fun (q : Int32 × mM) => (some (Value.int q.1), q.2)) 0 [] 35 rfl (okm hM (by decide)) (me_0 hM _) (ci := 7) rfl (fun r_ hr_ => c_X7_doesAll hM   hr_) gX7_carryOut_X7_doesAll rfl (by decide) (by decide) (n := 0) rfl (Nat.le_of_ble_eq_true rfl) (by decide) ⟨Nat.zero_le _, Nat.zero_le _⟩ rfl dX7_carryOut_32 (fun r_32 => ?_)
    refine sm_aload_n hG 36 rfl dX7_carryOut_35 rfl 0 rfl ?_
    refine gM0_15 hG hM  39 rfl u7 f218 dX7_carryOut_36 ?_
    refine sm_icmp_ge hG 61 42 rfl dX7_carryOut_39 (by decide) ?_ ?_
    · refine sm_aload_n hG 62 rfl dX7_carryOut_61 rfl 0 rfl ?_
      refine sm_aload_n hG 63 rfl dX7_carryOut_62 rfl 0 rfl ?_
      refine gM0_5 hG hM  66 rfl u7 f19 dX7_carryOut_63 ?_
      refine sm_callV hG (fun (w : mM) => ((none : Option Value), w)) 0 [.ref (Λ.2.2.2.1 4)] 69 rfl (okm hM (by decide)) (me_0 hM _) (ci := 7) rfl (fun r_ hr_ => c_X7_saves hM (ia_4 hM)  hr_) gX7_carryOut_X7_saves rfl (by decide) (by decide) (n := 1) rfl (Nat.le_of_ble_eq_true rfl) (by decide) ⟨Nat.zero_le _, Nat.zero_le _⟩ rfl dX7_carryOut_66 (fun r_66 => ?_)
      refine sm_aload_n hG 70 rfl dX7_carryOut_69 rfl 0 rfl ?_
      refine gM0_15 hG hM  73 rfl u7 f218 dX7_carryOut_70 ?_
      exact sm_iret hG hT ⟨Nat.zero_le _, Nat.zero_le _⟩ dX7_carryOut_73 rfl
    · refine sm_aload_n hG 43 rfl dX7_carryOut_42 rfl 0 rfl ?_
      refine gM0_5 hG hM  46 rfl u7 f19 dX7_carryOut_43 ?_
      refine sm_iconst (x := (0 : Int32)) hG 47 rfl dX7_carryOut_46 rfl ?_
      refine sm_aload_n hG 48 rfl dX7_carryOut_47 rfl 0 rfl ?_
      refine gM0_0 hG hM  51 rfl u7 f7 dX7_carryOut_48 ?_
      refine sm_iconst (x := (0 : Int32)) hG 52 rfl dX7_carryOut_51 rfl ?_
      refine sm_callS hG (fun (w : mM) => ((none : Option Value), w)) [.ref (Λ.2.2.2.1 4), .int (0 : Int32), .ref (Λ.2.2.2.1 1), .int (0 : Int32)] 55 rfl (fun r_ hr_ => c_X7_lays hM (ia_4 hM) (ia_1 hM)  hr_) gX7_carryOut_X7_lays rfl (by decide) (by decide) (n := 4) rfl (Nat.le_of_ble_eq_true rfl) (by decide) ⟨Nat.zero_le _, Nat.zero_le _⟩ rfl dX7_carryOut_52 (fun r_52 => ?_)
      refine sm_aload_n hG 56 rfl dX7_carryOut_55 rfl 0 rfl ?_
      refine sm_iconst (x := (1 : Int32)) hG 57 rfl dX7_carryOut_56 rfl ?_
      refine sm_callV hG (fun (q : Int32 × mM) => (some (Value.int q.1), q.2)) 0 [.int (1 : Int32)] 60 rfl (okm hM (by decide)) (me_0 hM _) (ci := 7) rfl (fun r_ hr_ => c_X7_refuses hM   hr_) gX7_carryOut_X7_refuses rfl (by decide) (by decide) (n := 1) rfl (Nat.le_of_ble_eq_true rfl) (by decide) ⟨Nat.zero_le _, Nat.zero_le _⟩ rfl dX7_carryOut_57 (fun r_57 => ?_)
      exact sm_iret hG hT ⟨Nat.zero_le _, Nat.zero_le _⟩ dX7_carryOut_60 rfl
  · refine sm_aload_n hG 13 rfl dX7_carryOut_12 rfl 0 rfl ?_
    refine sm_iconst (x := (1 : Int32)) hG 14 rfl dX7_carryOut_13 rfl ?_
    refine sm_callV hG (fun (q : Int32 × mM) => (some (Value.int q.1), q.2)) 0 [.int (1 : Int32)] 17 rfl (okm hM (by decide)) (me_0 hM _) (ci := 7) rfl (fun r_ hr_ => c_X7_refuses hM   hr_) gX7_carryOut_X7_refuses rfl (by decide) (by decide) (n := 1) rfl (Nat.le_of_ble_eq_true rfl) (by decide) ⟨Nat.zero_le _, Nat.zero_le _⟩ rfl dX7_carryOut_14 (fun r_14 => ?_)
    exact sm_iret hG hT ⟨Nat.zero_le _, Nat.zero_le _⟩ dX7_carryOut_17 rfl
abbrev rmX7_undo : Room := { frames := 1, cells := 0, slots := 0, locals := 24 }
set_option maxRecDepth 100000 in
set_option maxHeartbeats 4000000 in
theorem c_X7_undo {Λ : jL Nat} (hM : LM Λ)   {l : Launch} {v : mM} {r : (Int32 × mM)} (hr_ : f_X7_undo v = some r) : Ct l yX7_undo wsX7_undo rmX7_undo Λ [.ref (Λ.2.2.2.1 0)] v (some (.int r.1)) r.2 := by
  refine ct_of (cc := cX7_undo) (maxL := 1) (ret := (some .int)) (fun (q : Int32 × mM) => (some (Value.int q.1), q.2)) hM.1 hr_ (by decide) rfl (Nat.le_of_ble_eq_true rfl) (fun Γ hG hT hN hl => ?_)
  subst hl
  have f13 : Cond.fieldLink RX7 13 "ChoirRegisterModel" "past" "[I" ∈ wsX7_undo := by decide +kernel
  have f40 : Cond.fieldLink RX7 40 "ChoirRegisterModel" "thrown" "I" ∈ wsX7_undo := by decide +kernel
  have f44 : Cond.fieldLink RX7 44 "ChoirRegisterModel" "states" "I" ∈ wsX7_undo := by decide +kernel
  have f7 : Cond.fieldLink RX7 7 "ChoirRegisterModel" "now" "[I" ∈ wsX7_undo := by decide +kernel
  have u7 : ∀ w ∈ wsX70, w ∈ wsX7_undo := by decide +kernel
  show Sm Γ Λ (0, 0) 0 [(0, .ref (Λ.2.2.2.1 0))] [] v _
  unfold f_X7_undo
  refine sm_aload_n hG 1 rfl dX7_undo_0 rfl 0 rfl ?_
  refine sm_iconst (x := (0 : Int32)) hG 2 rfl dX7_undo_1 rfl ?_
  refine pM0_12 hG hM  5 rfl u7 f40 dX7_undo_2 ?_
  refine sm_nmv (fun w2_1 => ?_)
  refine sm_aload_n hG 6 rfl dX7_undo_5 rfl 0 rfl ?_
  refine gM0_2 hG hM  9 rfl u7 f44 dX7_undo_6 ?_
  refine sm_if_ne hG 18 12 rfl dX7_undo_9 (by decide) ?_ ?_
  · refine sm_aload_n hG 19 rfl dX7_undo_18 rfl 0 rfl ?_
    refine sm_dup hG 20 rfl dX7_undo_19 rfl ?_
    refine gM0_2 hG hM  23 rfl u7 f44 dX7_undo_20 ?_
    refine sm_iconst (x := (1 : Int32)) hG 24 rfl dX7_undo_23 rfl ?_
    refine sm_isub hG 25 rfl dX7_undo_24 ?_
    refine pM0_2 hG hM  28 rfl u7 f44 dX7_undo_25 ?_
    refine sm_nmv (fun w25_2 => ?_)
    refine sm_aload_n hG 29 rfl dX7_undo_28 rfl 0 rfl ?_
    refine gM0_1 hG hM  32 rfl u7 f13 dX7_undo_29 ?_
    refine sm_sipush (x := (1483 : Int32)) hG 35 rfl dX7_undo_32 rfl ?_
    refine sm_aload_n hG 36 rfl dX7_undo_35 rfl 0 rfl ?_
    refine gM0_2 hG hM  39 rfl u7 f44 dX7_undo_36 ?_
    refine sm_imul hG 40 rfl dX7_undo_39 ?_
    refine sm_aload_n hG 41 rfl dX7_undo_40 rfl 0 rfl ?_
    refine gM0_0 hG hM  44 rfl u7 f7 dX7_undo_41 ?_
    refine sm_iconst (x := (0 : Int32)) hG 45 rfl dX7_undo_44 rfl ?_
    refine sm_callS hG (fun (w : mM) => ((none : Option Value), w)) [.ref (Λ.2.2.2.1 2), .int ((1483 : Int32) * (w25_2 0 2)), .ref (Λ.2.2.2.1 1), .int (0 : Int32)] 48 rfl (fun r_ hr_ => c_X7_lays hM (ia_2 hM) (ia_1 hM)  hr_) gX7_undo_X7_lays rfl (by decide) (by decide) (n := 4) rfl (Nat.le_of_ble_eq_true rfl) (by decide) ⟨Nat.zero_le _, Nat.zero_le _⟩ rfl dX7_undo_45 (fun r_45 => ?_)
    refine sm_aload_n hG 49 rfl dX7_undo_48 rfl 0 rfl ?_
    refine gM0_2 hG hM  52 rfl u7 f44 dX7_undo_49 ?_
    exact sm_iret hG hT ⟨Nat.zero_le _, Nat.zero_le _⟩ dX7_undo_52 rfl
  · refine sm_aload_n hG 13 rfl dX7_undo_12 rfl 0 rfl ?_
    refine sm_iconst (x := (1 : Int32)) hG 14 rfl dX7_undo_13 rfl ?_
    refine sm_callV hG (fun (q : Int32 × mM) => (some (Value.int q.1), q.2)) 0 [.int (1 : Int32)] 17 rfl (okm hM (by decide)) (me_0 hM _) (ci := 7) rfl (fun r_ hr_ => c_X7_refuses hM   hr_) gX7_undo_X7_refuses rfl (by decide) (by decide) (n := 1) rfl (Nat.le_of_ble_eq_true rfl) (by decide) ⟨Nat.zero_le _, Nat.zero_le _⟩ rfl dX7_undo_14 (fun r_14 => ?_)
    exact sm_iret hG hT ⟨Nat.zero_le _, Nat.zero_le _⟩ dX7_undo_17 rfl
abbrev rmX7_takeSnapshot : Room := { frames := 1, cells := 0, slots := 0, locals := 24 }
set_option maxRecDepth 100000 in
set_option maxHeartbeats 4000000 in
theorem c_X7_takeSnapshot {Λ : jL Nat} (hM : LM Λ)   {l : Launch} {v : mM} {r : (Int32 × mM)} (hr_ : f_X7_takeSnapshot v = some r) : Ct l yX7_takeSnapshot wsX7_takeSnapshot rmX7_takeSnapshot Λ [.ref (Λ.2.2.2.1 0)] v (some (.int r.1)) r.2 := by
  refine ct_of (cc := cX7_takeSnapshot) (maxL := 1) (ret := (some .int)) (fun (q : Int32 × mM) => (some (Value.int q.1), q.2)) hM.1 hr_ (by decide) rfl (Nat.le_of_ble_eq_true rfl) (fun Γ hG hT hN hl => ?_)
  subst hl
  have f16 : Cond.fieldLink RX7 16 "ChoirRegisterModel" "kept" "[I" ∈ wsX7_takeSnapshot := by decide +kernel
  have f254 : Cond.fieldLink RX7 254 "ChoirRegisterModel" "isKept" "I" ∈ wsX7_takeSnapshot := by decide +kernel
  have f40 : Cond.fieldLink RX7 40 "ChoirRegisterModel" "thrown" "I" ∈ wsX7_takeSnapshot := by decide +kernel
  have f7 : Cond.fieldLink RX7 7 "ChoirRegisterModel" "now" "[I" ∈ wsX7_takeSnapshot := by decide +kernel
  have u7 : ∀ w ∈ wsX70, w ∈ wsX7_takeSnapshot := by decide +kernel
  show Sm Γ Λ (0, 0) 0 [(0, .ref (Λ.2.2.2.1 0))] [] v _
  unfold f_X7_takeSnapshot
  refine sm_aload_n hG 1 rfl dX7_takeSnapshot_0 rfl 0 rfl ?_
  refine sm_iconst (x := (0 : Int32)) hG 2 rfl dX7_takeSnapshot_1 rfl ?_
  refine pM0_12 hG hM  5 rfl u7 f40 dX7_takeSnapshot_2 ?_
  refine sm_nmv (fun w2_1 => ?_)
  refine sm_aload_n hG 6 rfl dX7_takeSnapshot_5 rfl 0 rfl ?_
  refine gM0_0 hG hM  9 rfl u7 f7 dX7_takeSnapshot_6 ?_
  refine sm_iconst (x := (0 : Int32)) hG 10 rfl dX7_takeSnapshot_9 rfl ?_
  refine sm_aload_n hG 11 rfl dX7_takeSnapshot_10 rfl 0 rfl ?_
  refine gM0_3 hG hM  14 rfl u7 f16 dX7_takeSnapshot_11 ?_
  refine sm_iconst (x := (0 : Int32)) hG 15 rfl dX7_takeSnapshot_14 rfl ?_
  refine sm_callS hG (fun (w : mM) => ((none : Option Value), w)) [.ref (Λ.2.2.2.1 1), .int (0 : Int32), .ref (Λ.2.2.2.1 3), .int (0 : Int32)] 18 rfl (fun r_ hr_ => c_X7_lays hM (ia_1 hM) (ia_3 hM)  hr_) gX7_takeSnapshot_X7_lays rfl (by decide) (by decide) (n := 4) rfl (Nat.le_of_ble_eq_true rfl) (by decide) ⟨Nat.zero_le _, Nat.zero_le _⟩ rfl dX7_takeSnapshot_15 (fun r_15 => ?_)
  refine sm_aload_n hG 19 rfl dX7_takeSnapshot_18 rfl 0 rfl ?_
  refine sm_iconst (x := (1 : Int32)) hG 20 rfl dX7_takeSnapshot_19 rfl ?_
  refine pM0_4 hG hM  23 rfl u7 f254 dX7_takeSnapshot_20 ?_
  refine sm_nmv (fun w20_2 => ?_)
  refine sm_aload_n hG 24 rfl dX7_takeSnapshot_23 rfl 0 rfl ?_
  refine gM0_0 hG hM  27 rfl u7 f7 dX7_takeSnapshot_24 ?_
  refine sm_iconst (x := (0 : Int32)) hG 28 rfl dX7_takeSnapshot_27 rfl ?_
  refine lA hG (ia_1 hM) 29 rfl dX7_takeSnapshot_28 ?_
  exact sm_iret hG hT ⟨Nat.zero_le _, Nat.zero_le _⟩ dX7_takeSnapshot_29 rfl
abbrev rmX7_restoreSnapshot : Room := { frames := 2, cells := 0, slots := 0, locals := 46 }
set_option maxRecDepth 100000 in
set_option maxHeartbeats 4000000 in
theorem c_X7_restoreSnapshot {Λ : jL Nat} (hM : LM Λ)   {l : Launch} {v : mM} {r : (Int32 × mM)} (hr_ : f_X7_restoreSnapshot v = some r) : Ct l yX7_restoreSnapshot wsX7_restoreSnapshot rmX7_restoreSnapshot Λ [.ref (Λ.2.2.2.1 0)] v (some (.int r.1)) r.2 := by
  refine ct_of (cc := cX7_restoreSnapshot) (maxL := 1) (ret := (some .int)) (fun (q : Int32 × mM) => (some (Value.int q.1), q.2)) hM.1 hr_ (by decide) rfl (Nat.le_of_ble_eq_true rfl) (fun Γ hG hT hN hl => ?_)
  subst hl
  have f16 : Cond.fieldLink RX7 16 "ChoirRegisterModel" "kept" "[I" ∈ wsX7_restoreSnapshot := by decide +kernel
  have f254 : Cond.fieldLink RX7 254 "ChoirRegisterModel" "isKept" "I" ∈ wsX7_restoreSnapshot := by decide +kernel
  have f40 : Cond.fieldLink RX7 40 "ChoirRegisterModel" "thrown" "I" ∈ wsX7_restoreSnapshot := by decide +kernel
  have f7 : Cond.fieldLink RX7 7 "ChoirRegisterModel" "now" "[I" ∈ wsX7_restoreSnapshot := by decide +kernel
  have u7 : ∀ w ∈ wsX70, w ∈ wsX7_restoreSnapshot := by decide +kernel
  show Sm Γ Λ (0, 0) 0 [(0, .ref (Λ.2.2.2.1 0))] [] v _
  unfold f_X7_restoreSnapshot
  refine sm_aload_n hG 1 rfl dX7_restoreSnapshot_0 rfl 0 rfl ?_
  refine sm_iconst (x := (0 : Int32)) hG 2 rfl dX7_restoreSnapshot_1 rfl ?_
  refine pM0_12 hG hM  5 rfl u7 f40 dX7_restoreSnapshot_2 ?_
  refine sm_nmv (fun w2_1 => ?_)
  refine sm_aload_n hG 6 rfl dX7_restoreSnapshot_5 rfl 0 rfl ?_
  refine gM0_4 hG hM  9 rfl u7 f254 dX7_restoreSnapshot_6 ?_
  refine sm_if_ne hG 18 12 rfl dX7_restoreSnapshot_9 (by decide) ?_ ?_
  · refine sm_aload_n hG 19 rfl dX7_restoreSnapshot_18 rfl 0 rfl ?_
    refine sm_aload_n hG 20 rfl dX7_restoreSnapshot_19 rfl 0 rfl ?_
    refine gM0_0 hG hM  23 rfl u7 f7 dX7_restoreSnapshot_20 ?_
    refine sm_callV hG (fun (w : mM) => ((none : Option Value), w)) 0 [.ref (Λ.2.2.2.1 1)] 26 rfl (okm hM (by decide)) (me_0 hM _) (ci := 7) rfl (fun r_ hr_ => c_X7_saves hM (ia_1 hM)  hr_) gX7_restoreSnapshot_X7_saves rfl (by decide) (by decide) (n := 1) rfl (Nat.le_of_ble_eq_true rfl) (by decide) ⟨Nat.zero_le _, Nat.zero_le _⟩ rfl dX7_restoreSnapshot_23 (fun r_23 => ?_)
    refine sm_aload_n hG 27 rfl dX7_restoreSnapshot_26 rfl 0 rfl ?_
    refine gM0_3 hG hM  30 rfl u7 f16 dX7_restoreSnapshot_27 ?_
    refine sm_iconst (x := (0 : Int32)) hG 31 rfl dX7_restoreSnapshot_30 rfl ?_
    refine sm_aload_n hG 32 rfl dX7_restoreSnapshot_31 rfl 0 rfl ?_
    refine gM0_0 hG hM  35 rfl u7 f7 dX7_restoreSnapshot_32 ?_
    refine sm_iconst (x := (0 : Int32)) hG 36 rfl dX7_restoreSnapshot_35 rfl ?_
    refine sm_callS hG (fun (w : mM) => ((none : Option Value), w)) [.ref (Λ.2.2.2.1 3), .int (0 : Int32), .ref (Λ.2.2.2.1 1), .int (0 : Int32)] 39 rfl (fun r_ hr_ => c_X7_lays hM (ia_3 hM) (ia_1 hM)  hr_) gX7_restoreSnapshot_X7_lays rfl (by decide) (by decide) (n := 4) rfl (Nat.le_of_ble_eq_true rfl) (by decide) ⟨Nat.zero_le _, Nat.zero_le _⟩ rfl dX7_restoreSnapshot_36 (fun r_36 => ?_)
    refine sm_aload_n hG 40 rfl dX7_restoreSnapshot_39 rfl 0 rfl ?_
    refine gM0_0 hG hM  43 rfl u7 f7 dX7_restoreSnapshot_40 ?_
    refine sm_iconst (x := (0 : Int32)) hG 44 rfl dX7_restoreSnapshot_43 rfl ?_
    refine lA hG (ia_1 hM) 45 rfl dX7_restoreSnapshot_44 ?_
    exact sm_iret hG hT ⟨Nat.zero_le _, Nat.zero_le _⟩ dX7_restoreSnapshot_45 rfl
  · refine sm_aload_n hG 13 rfl dX7_restoreSnapshot_12 rfl 0 rfl ?_
    refine sm_iconst (x := (1 : Int32)) hG 14 rfl dX7_restoreSnapshot_13 rfl ?_
    refine sm_callV hG (fun (q : Int32 × mM) => (some (Value.int q.1), q.2)) 0 [.int (1 : Int32)] 17 rfl (okm hM (by decide)) (me_0 hM _) (ci := 7) rfl (fun r_ hr_ => c_X7_refuses hM   hr_) gX7_restoreSnapshot_X7_refuses rfl (by decide) (by decide) (n := 1) rfl (Nat.le_of_ble_eq_true rfl) (by decide) ⟨Nat.zero_le _, Nat.zero_le _⟩ rfl dX7_restoreSnapshot_14 (fun r_14 => ?_)
    exact sm_iret hG hT ⟨Nat.zero_le _, Nat.zero_le _⟩ dX7_restoreSnapshot_17 rfl
abbrev rmX7_singers : Room := { frames := 0, cells := 0, slots := 0, locals := 0 }
set_option maxRecDepth 100000 in
set_option maxHeartbeats 4000000 in
theorem c_X7_singers {Λ : jL Nat} (hM : LM Λ)   {l : Launch} {v : mM} {r : (Int32 × mM)} (hr_ : f_X7_singers v = some r) : Ct l yX7_singers wsX7_singers rmX7_singers Λ [.ref (Λ.2.2.2.1 0)] v (some (.int r.1)) r.2 := by
  refine ct_of (cc := cX7_singers) (maxL := 1) (ret := (some .int)) (fun (q : Int32 × mM) => (some (Value.int q.1), q.2)) hM.1 hr_ (by decide) rfl (Nat.le_of_ble_eq_true rfl) (fun Γ hG hT hN hl => ?_)
  subst hl
  have f40 : Cond.fieldLink RX7 40 "ChoirRegisterModel" "thrown" "I" ∈ wsX7_singers := by decide +kernel
  have f7 : Cond.fieldLink RX7 7 "ChoirRegisterModel" "now" "[I" ∈ wsX7_singers := by decide +kernel
  have u7 : ∀ w ∈ wsX70, w ∈ wsX7_singers := by decide +kernel
  show Sm Γ Λ (0, 0) 0 [(0, .ref (Λ.2.2.2.1 0))] [] v _
  unfold f_X7_singers
  refine sm_aload_n hG 1 rfl dX7_singers_0 rfl 0 rfl ?_
  refine sm_iconst (x := (0 : Int32)) hG 2 rfl dX7_singers_1 rfl ?_
  refine pM0_12 hG hM  5 rfl u7 f40 dX7_singers_2 ?_
  refine sm_nmv (fun w2_1 => ?_)
  refine sm_aload_n hG 6 rfl dX7_singers_5 rfl 0 rfl ?_
  refine gM0_0 hG hM  9 rfl u7 f7 dX7_singers_6 ?_
  refine sm_iconst (x := (1 : Int32)) hG 10 rfl dX7_singers_9 rfl ?_
  refine lA hG (ia_1 hM) 11 rfl dX7_singers_10 ?_
  exact sm_iret hG hT ⟨Nat.zero_le _, Nat.zero_le _⟩ dX7_singers_11 rfl
abbrev rmX7_isInChoir : Room := { frames := 2, cells := 0, slots := 0, locals := 43 }
set_option maxRecDepth 100000 in
set_option maxHeartbeats 4000000 in
theorem c_X7_isInChoir {Λ : jL Nat} (hM : LM Λ) {x1 : Int32}  {l : Launch} {v : mM} {r : (Int32 × mM)} (hr_ : f_X7_isInChoir x1 v = some r) : Ct l yX7_isInChoir wsX7_isInChoir rmX7_isInChoir Λ [.ref (Λ.2.2.2.1 0), .int x1] v (some (.int r.1)) r.2 := by
  refine ct_of (cc := cX7_isInChoir) (maxL := 2) (ret := (some .boolean)) (fun (q : Int32 × mM) => (some (Value.int q.1), q.2)) hM.1 hr_ (by decide) rfl (Nat.le_of_ble_eq_true rfl) (fun Γ hG hT hN hl => ?_)
  subst hl
  have f40 : Cond.fieldLink RX7 40 "ChoirRegisterModel" "thrown" "I" ∈ wsX7_isInChoir := by decide +kernel
  have u7 : ∀ w ∈ wsX70, w ∈ wsX7_isInChoir := by decide +kernel
  show Sm Γ Λ (0, 0) 0 [(0, .ref (Λ.2.2.2.1 0)), (1, .int x1)] [] v _
  unfold f_X7_isInChoir
  refine sm_aload_n hG 1 rfl dX7_isInChoir_0 rfl 0 rfl ?_
  refine sm_iconst (x := (0 : Int32)) hG 2 rfl dX7_isInChoir_1 rfl ?_
  refine pM0_12 hG hM  5 rfl u7 f40 dX7_isInChoir_2 ?_
  refine sm_nmv (fun w2_1 => ?_)
  refine sm_aload_n hG 6 rfl dX7_isInChoir_5 rfl 0 rfl ?_
  refine sm_iload_n hG 7 rfl dX7_isInChoir_6 rfl 1 rfl ?_
  refine sm_callV hG (fun (q : Int32) => (some (Value.int q), w2_1)) 0 [.int x1] 10 rfl (okm hM (by decide)) (me_0 hM _) (ci := 7) rfl (fun r_ hr_ => c_X7_isSinger hM   hr_) gX7_isInChoir_X7_isSinger rfl (by decide) (by decide) (n := 1) rfl (Nat.le_of_ble_eq_true rfl) (by decide) ⟨Nat.zero_le _, Nat.zero_le _⟩ rfl dX7_isInChoir_7 (fun r_7 => ?_)
  refine sm_if_eq hG 31 13 rfl dX7_isInChoir_10 (by decide) ?_ ?_
  · refine sm_aload_n hG 32 rfl dX7_isInChoir_31 rfl 0 rfl ?_
    refine sm_iconst (x := (1 : Int32)) hG 33 rfl dX7_isInChoir_32 rfl ?_
    refine sm_callV hG (fun (q : Int32 × mM) => (some (Value.int q.1), q.2)) 0 [.int (1 : Int32)] 36 rfl (okm hM (by decide)) (me_0 hM _) (ci := 7) rfl (fun r_ hr_ => c_X7_refuses hM   hr_) gX7_isInChoir_X7_refuses rfl (by decide) (by decide) (n := 1) rfl (Nat.le_of_ble_eq_true rfl) (by decide) ⟨Nat.zero_le _, Nat.zero_le _⟩ rfl dX7_isInChoir_33 (fun r_33 => ?_)
    refine sm_if_le hG 43 39 rfl dX7_isInChoir_36 (by decide) ?_ ?_
    · refine sm_iconst (x := (0 : Int32)) hG 44 rfl dX7_isInChoir_43 rfl ?_
      exact sm_bret hG hT ⟨Nat.zero_le _, Nat.zero_le _⟩ dX7_isInChoir_44 rfl
    · refine sm_iconst (x := (1 : Int32)) hG 40 rfl dX7_isInChoir_39 rfl ?_
      refine sm_goto hG 44 dX7_isInChoir_40 (by decide) ?_
      exact sm_bret hG hT ⟨Nat.zero_le _, Nat.zero_le _⟩ dX7_isInChoir_44 rfl
  · refine sm_aload_n hG 14 rfl dX7_isInChoir_13 rfl 0 rfl ?_
    refine sm_iload_n hG 15 rfl dX7_isInChoir_14 rfl 1 rfl ?_
    refine sm_bipush (x := (7 : Int32)) hG 17 rfl dX7_isInChoir_15 rfl ?_
    refine sm_callV hG (fun (q : Int32) => (some (Value.int q), w2_1)) 0 [.int x1, .int (7 : Int32)] 20 rfl (okm hM (by decide)) (me_0 hM _) (ci := 7) rfl (fun r_ hr_ => c_X7_its hM   hr_) gX7_isInChoir_X7_its rfl (by decide) (by decide) (n := 2) rfl (Nat.le_of_ble_eq_true rfl) (by decide) ⟨Nat.zero_le _, Nat.zero_le _⟩ rfl dX7_isInChoir_17 (fun r_17 => ?_)
    refine sm_if_ne hG 27 23 rfl dX7_isInChoir_20 (by decide) ?_ ?_
    · refine sm_iconst (x := (0 : Int32)) hG 28 rfl dX7_isInChoir_27 rfl ?_
      refine sm_goto hG 44 dX7_isInChoir_28 (by decide) ?_
      exact sm_bret hG hT ⟨Nat.zero_le _, Nat.zero_le _⟩ dX7_isInChoir_44 rfl
    · refine sm_iconst (x := (1 : Int32)) hG 24 rfl dX7_isInChoir_23 rfl ?_
      refine sm_goto hG 44 dX7_isInChoir_24 (by decide) ?_
      exact sm_bret hG hT ⟨Nat.zero_le _, Nat.zero_le _⟩ dX7_isInChoir_44 rfl
abbrev rmX7_ageOf : Room := { frames := 2, cells := 0, slots := 0, locals := 43 }
set_option maxRecDepth 100000 in
set_option maxHeartbeats 4000000 in
theorem c_X7_ageOf {Λ : jL Nat} (hM : LM Λ) {x1 : Int32}  {l : Launch} {v : mM} {r : (Int32 × mM)} (hr_ : f_X7_ageOf x1 v = some r) : Ct l yX7_ageOf wsX7_ageOf rmX7_ageOf Λ [.ref (Λ.2.2.2.1 0), .int x1] v (some (.int r.1)) r.2 := by
  refine ct_of (cc := cX7_ageOf) (maxL := 2) (ret := (some .int)) (fun (q : Int32 × mM) => (some (Value.int q.1), q.2)) hM.1 hr_ (by decide) rfl (Nat.le_of_ble_eq_true rfl) (fun Γ hG hT hN hl => ?_)
  subst hl
  have f40 : Cond.fieldLink RX7 40 "ChoirRegisterModel" "thrown" "I" ∈ wsX7_ageOf := by decide +kernel
  have f7 : Cond.fieldLink RX7 7 "ChoirRegisterModel" "now" "[I" ∈ wsX7_ageOf := by decide +kernel
  have u7 : ∀ w ∈ wsX70, w ∈ wsX7_ageOf := by decide +kernel
  show Sm Γ Λ (0, 0) 0 [(0, .ref (Λ.2.2.2.1 0)), (1, .int x1)] [] v _
  unfold f_X7_ageOf
  refine sm_aload_n hG 1 rfl dX7_ageOf_0 rfl 0 rfl ?_
  refine sm_iconst (x := (0 : Int32)) hG 2 rfl dX7_ageOf_1 rfl ?_
  refine pM0_12 hG hM  5 rfl u7 f40 dX7_ageOf_2 ?_
  refine sm_nmv (fun w2_1 => ?_)
  refine sm_aload_n hG 6 rfl dX7_ageOf_5 rfl 0 rfl ?_
  refine sm_iload_n hG 7 rfl dX7_ageOf_6 rfl 1 rfl ?_
  refine sm_callV hG (fun (q : Int32) => (some (Value.int q), w2_1)) 0 [.int x1] 10 rfl (okm hM (by decide)) (me_0 hM _) (ci := 7) rfl (fun r_ hr_ => c_X7_isSinger hM   hr_) gX7_ageOf_X7_isSinger rfl (by decide) (by decide) (n := 1) rfl (Nat.le_of_ble_eq_true rfl) (by decide) ⟨Nat.zero_le _, Nat.zero_le _⟩ rfl dX7_ageOf_7 (fun r_7 => ?_)
  refine sm_if_eq hG 40 13 rfl dX7_ageOf_10 (by decide) ?_ ?_
  · refine sm_aload_n hG 41 rfl dX7_ageOf_40 rfl 0 rfl ?_
    refine sm_iconst (x := (1 : Int32)) hG 42 rfl dX7_ageOf_41 rfl ?_
    refine sm_callV hG (fun (q : Int32 × mM) => (some (Value.int q.1), q.2)) 0 [.int (1 : Int32)] 45 rfl (okm hM (by decide)) (me_0 hM _) (ci := 7) rfl (fun r_ hr_ => c_X7_refuses hM   hr_) gX7_ageOf_X7_refuses rfl (by decide) (by decide) (n := 1) rfl (Nat.le_of_ble_eq_true rfl) (by decide) ⟨Nat.zero_le _, Nat.zero_le _⟩ rfl dX7_ageOf_42 (fun r_42 => ?_)
    exact sm_iret hG hT ⟨Nat.zero_le _, Nat.zero_le _⟩ dX7_ageOf_45 rfl
  · refine sm_aload_n hG 14 rfl dX7_ageOf_13 rfl 0 rfl ?_
    refine sm_iload_n hG 15 rfl dX7_ageOf_14 rfl 1 rfl ?_
    refine sm_iconst (x := (1 : Int32)) hG 16 rfl dX7_ageOf_15 rfl ?_
    refine sm_callV hG (fun (q : Int32) => (some (Value.int q), w2_1)) 0 [.int x1, .int (1 : Int32)] 19 rfl (okm hM (by decide)) (me_0 hM _) (ci := 7) rfl (fun r_ hr_ => c_X7_its hM   hr_) gX7_ageOf_X7_its rfl (by decide) (by decide) (n := 2) rfl (Nat.le_of_ble_eq_true rfl) (by decide) ⟨Nat.zero_le _, Nat.zero_le _⟩ rfl dX7_ageOf_16 (fun r_16 => ?_)
    refine sm_aload_n hG 20 rfl dX7_ageOf_19 rfl 0 rfl ?_
    refine gM0_0 hG hM  23 rfl u7 f7 dX7_ageOf_20 ?_
    refine sm_iconst (x := (0 : Int32)) hG 24 rfl dX7_ageOf_23 rfl ?_
    refine lA hG (ia_1 hM) 25 rfl dX7_ageOf_24 ?_
    refine sm_aload_n hG 26 rfl dX7_ageOf_25 rfl 0 rfl ?_
    refine sm_iload_n hG 27 rfl dX7_ageOf_26 rfl 1 rfl ?_
    refine sm_iconst (x := (2 : Int32)) hG 28 rfl dX7_ageOf_27 rfl ?_
    refine sm_callV hG (fun (q : Int32) => (some (Value.int q), w2_1)) 0 [.int x1, .int (2 : Int32)] 31 rfl (okm hM (by decide)) (me_0 hM _) (ci := 7) rfl (fun r_ hr_ => c_X7_its hM   hr_) gX7_ageOf_X7_its rfl (by decide) (by decide) (n := 2) rfl (Nat.le_of_ble_eq_true rfl) (by decide) ⟨Nat.zero_le _, Nat.zero_le _⟩ rfl dX7_ageOf_28 (fun r_28 => ?_)
    refine sm_isub hG 32 rfl dX7_ageOf_31 ?_
    refine sm_sipush (x := (360 : Int32)) hG 35 rfl dX7_ageOf_32 rfl ?_
    refine sm_idiv hG 36 rfl dX7_ageOf_35 (by decide) ?_
    refine sm_nmi (fun y35_2 => ?_)
    refine sm_iadd hG 37 rfl dX7_ageOf_36 ?_
    refine sm_goto hG 45 dX7_ageOf_37 (by decide) ?_
    exact sm_iret hG hT ⟨Nat.zero_le _, Nat.zero_le _⟩ dX7_ageOf_45 rfl
abbrev rmX7_lowestNoteOf : Room := { frames := 3, cells := 0, slots := 0, locals := 69 }
set_option maxRecDepth 100000 in
set_option maxHeartbeats 4000000 in
theorem c_X7_lowestNoteOf {Λ : jL Nat} (hM : LM Λ) {x1 : Int32}  {l : Launch} {v : mM} {r : (Int32 × mM)} (hr_ : f_X7_lowestNoteOf x1 v = some r) : Ct l yX7_lowestNoteOf wsX7_lowestNoteOf rmX7_lowestNoteOf Λ [.ref (Λ.2.2.2.1 0), .int x1] v (some (.int r.1)) r.2 := by
  refine ct_of (cc := cX7_lowestNoteOf) (maxL := 2) (ret := (some .int)) (fun (q : Int32 × mM) => (some (Value.int q.1), q.2)) hM.1 hr_ (by decide) rfl (Nat.le_of_ble_eq_true rfl) (fun Γ hG hT hN hl => ?_)
  subst hl
  have f40 : Cond.fieldLink RX7 40 "ChoirRegisterModel" "thrown" "I" ∈ wsX7_lowestNoteOf := by decide +kernel
  have f7 : Cond.fieldLink RX7 7 "ChoirRegisterModel" "now" "[I" ∈ wsX7_lowestNoteOf := by decide +kernel
  have u7 : ∀ w ∈ wsX70, w ∈ wsX7_lowestNoteOf := by decide +kernel
  show Sm Γ Λ (0, 0) 0 [(0, .ref (Λ.2.2.2.1 0)), (1, .int x1)] [] v _
  unfold f_X7_lowestNoteOf
  refine sm_aload_n hG 1 rfl dX7_lowestNoteOf_0 rfl 0 rfl ?_
  refine sm_iconst (x := (0 : Int32)) hG 2 rfl dX7_lowestNoteOf_1 rfl ?_
  refine pM0_12 hG hM  5 rfl u7 f40 dX7_lowestNoteOf_2 ?_
  refine sm_nmv (fun w2_1 => ?_)
  refine sm_aload_n hG 6 rfl dX7_lowestNoteOf_5 rfl 0 rfl ?_
  refine sm_iload_n hG 7 rfl dX7_lowestNoteOf_6 rfl 1 rfl ?_
  refine sm_callV hG (fun (q : Int32) => (some (Value.int q), w2_1)) 0 [.int x1] 10 rfl (okm hM (by decide)) (me_0 hM _) (ci := 7) rfl (fun r_ hr_ => c_X7_isSinger hM   hr_) gX7_lowestNoteOf_X7_isSinger rfl (by decide) (by decide) (n := 1) rfl (Nat.le_of_ble_eq_true rfl) (by decide) ⟨Nat.zero_le _, Nat.zero_le _⟩ rfl dX7_lowestNoteOf_7 (fun r_7 => ?_)
  refine sm_if_eq hG 28 13 rfl dX7_lowestNoteOf_10 (by decide) ?_ ?_
  · refine sm_aload_n hG 29 rfl dX7_lowestNoteOf_28 rfl 0 rfl ?_
    refine sm_iconst (x := (1 : Int32)) hG 30 rfl dX7_lowestNoteOf_29 rfl ?_
    refine sm_callV hG (fun (q : Int32 × mM) => (some (Value.int q.1), q.2)) 0 [.int (1 : Int32)] 33 rfl (okm hM (by decide)) (me_0 hM _) (ci := 7) rfl (fun r_ hr_ => c_X7_refuses hM   hr_) gX7_lowestNoteOf_X7_refuses rfl (by decide) (by decide) (n := 1) rfl (Nat.le_of_ble_eq_true rfl) (by decide) ⟨Nat.zero_le _, Nat.zero_le _⟩ rfl dX7_lowestNoteOf_30 (fun r_30 => ?_)
    exact sm_iret hG hT ⟨Nat.zero_le _, Nat.zero_le _⟩ dX7_lowestNoteOf_33 rfl
  · refine sm_aload_n hG 14 rfl dX7_lowestNoteOf_13 rfl 0 rfl ?_
    refine sm_iload_n hG 15 rfl dX7_lowestNoteOf_14 rfl 1 rfl ?_
    refine sm_iconst (x := (4 : Int32)) hG 16 rfl dX7_lowestNoteOf_15 rfl ?_
    refine sm_aload_n hG 17 rfl dX7_lowestNoteOf_16 rfl 0 rfl ?_
    refine gM0_0 hG hM  20 rfl u7 f7 dX7_lowestNoteOf_17 ?_
    refine sm_iconst (x := (0 : Int32)) hG 21 rfl dX7_lowestNoteOf_20 rfl ?_
    refine lA hG (ia_1 hM) 22 rfl dX7_lowestNoteOf_21 ?_
    refine sm_callV hG (fun (q : Int32) => (some (Value.int q), w2_1)) 0 [.int x1, .int (4 : Int32), .int (w2_1 1 (ix (0 : Int32)))] 25 rfl (okm hM (by decide)) (me_0 hM _) (ci := 7) rfl (fun r_ hr_ => c_X7_note hM   hr_) gX7_lowestNoteOf_X7_note rfl (by decide) (by decide) (n := 3) rfl (Nat.le_of_ble_eq_true rfl) (by decide) ⟨Nat.zero_le _, Nat.zero_le _⟩ rfl dX7_lowestNoteOf_22 (fun r_22 => ?_)
    refine sm_goto hG 33 dX7_lowestNoteOf_25 (by decide) ?_
    exact sm_iret hG hT ⟨Nat.zero_le _, Nat.zero_le _⟩ dX7_lowestNoteOf_33 rfl
abbrev rmX7_highestNoteOf : Room := { frames := 3, cells := 0, slots := 0, locals := 69 }
set_option maxRecDepth 100000 in
set_option maxHeartbeats 4000000 in
theorem c_X7_highestNoteOf {Λ : jL Nat} (hM : LM Λ) {x1 : Int32}  {l : Launch} {v : mM} {r : (Int32 × mM)} (hr_ : f_X7_highestNoteOf x1 v = some r) : Ct l yX7_highestNoteOf wsX7_highestNoteOf rmX7_highestNoteOf Λ [.ref (Λ.2.2.2.1 0), .int x1] v (some (.int r.1)) r.2 := by
  refine ct_of (cc := cX7_highestNoteOf) (maxL := 2) (ret := (some .int)) (fun (q : Int32 × mM) => (some (Value.int q.1), q.2)) hM.1 hr_ (by decide) rfl (Nat.le_of_ble_eq_true rfl) (fun Γ hG hT hN hl => ?_)
  subst hl
  have f40 : Cond.fieldLink RX7 40 "ChoirRegisterModel" "thrown" "I" ∈ wsX7_highestNoteOf := by decide +kernel
  have f7 : Cond.fieldLink RX7 7 "ChoirRegisterModel" "now" "[I" ∈ wsX7_highestNoteOf := by decide +kernel
  have u7 : ∀ w ∈ wsX70, w ∈ wsX7_highestNoteOf := by decide +kernel
  show Sm Γ Λ (0, 0) 0 [(0, .ref (Λ.2.2.2.1 0)), (1, .int x1)] [] v _
  unfold f_X7_highestNoteOf
  refine sm_aload_n hG 1 rfl dX7_highestNoteOf_0 rfl 0 rfl ?_
  refine sm_iconst (x := (0 : Int32)) hG 2 rfl dX7_highestNoteOf_1 rfl ?_
  refine pM0_12 hG hM  5 rfl u7 f40 dX7_highestNoteOf_2 ?_
  refine sm_nmv (fun w2_1 => ?_)
  refine sm_aload_n hG 6 rfl dX7_highestNoteOf_5 rfl 0 rfl ?_
  refine sm_iload_n hG 7 rfl dX7_highestNoteOf_6 rfl 1 rfl ?_
  refine sm_callV hG (fun (q : Int32) => (some (Value.int q), w2_1)) 0 [.int x1] 10 rfl (okm hM (by decide)) (me_0 hM _) (ci := 7) rfl (fun r_ hr_ => c_X7_isSinger hM   hr_) gX7_highestNoteOf_X7_isSinger rfl (by decide) (by decide) (n := 1) rfl (Nat.le_of_ble_eq_true rfl) (by decide) ⟨Nat.zero_le _, Nat.zero_le _⟩ rfl dX7_highestNoteOf_7 (fun r_7 => ?_)
  refine sm_if_eq hG 28 13 rfl dX7_highestNoteOf_10 (by decide) ?_ ?_
  · refine sm_aload_n hG 29 rfl dX7_highestNoteOf_28 rfl 0 rfl ?_
    refine sm_iconst (x := (1 : Int32)) hG 30 rfl dX7_highestNoteOf_29 rfl ?_
    refine sm_callV hG (fun (q : Int32 × mM) => (some (Value.int q.1), q.2)) 0 [.int (1 : Int32)] 33 rfl (okm hM (by decide)) (me_0 hM _) (ci := 7) rfl (fun r_ hr_ => c_X7_refuses hM   hr_) gX7_highestNoteOf_X7_refuses rfl (by decide) (by decide) (n := 1) rfl (Nat.le_of_ble_eq_true rfl) (by decide) ⟨Nat.zero_le _, Nat.zero_le _⟩ rfl dX7_highestNoteOf_30 (fun r_30 => ?_)
    exact sm_iret hG hT ⟨Nat.zero_le _, Nat.zero_le _⟩ dX7_highestNoteOf_33 rfl
  · refine sm_aload_n hG 14 rfl dX7_highestNoteOf_13 rfl 0 rfl ?_
    refine sm_iload_n hG 15 rfl dX7_highestNoteOf_14 rfl 1 rfl ?_
    refine sm_iconst (x := (5 : Int32)) hG 16 rfl dX7_highestNoteOf_15 rfl ?_
    refine sm_aload_n hG 17 rfl dX7_highestNoteOf_16 rfl 0 rfl ?_
    refine gM0_0 hG hM  20 rfl u7 f7 dX7_highestNoteOf_17 ?_
    refine sm_iconst (x := (0 : Int32)) hG 21 rfl dX7_highestNoteOf_20 rfl ?_
    refine lA hG (ia_1 hM) 22 rfl dX7_highestNoteOf_21 ?_
    refine sm_callV hG (fun (q : Int32) => (some (Value.int q), w2_1)) 0 [.int x1, .int (5 : Int32), .int (w2_1 1 (ix (0 : Int32)))] 25 rfl (okm hM (by decide)) (me_0 hM _) (ci := 7) rfl (fun r_ hr_ => c_X7_note hM   hr_) gX7_highestNoteOf_X7_note rfl (by decide) (by decide) (n := 3) rfl (Nat.le_of_ble_eq_true rfl) (by decide) ⟨Nat.zero_le _, Nat.zero_le _⟩ rfl dX7_highestNoteOf_22 (fun r_22 => ?_)
    refine sm_goto hG 33 dX7_highestNoteOf_25 (by decide) ?_
    exact sm_iret hG hT ⟨Nat.zero_le _, Nat.zero_le _⟩ dX7_highestNoteOf_33 rfl
abbrev rmX7_breakDayOf : Room := { frames := 2, cells := 0, slots := 0, locals := 43 }
set_option maxRecDepth 100000 in
set_option maxHeartbeats 4000000 in
theorem c_X7_breakDayOf {Λ : jL Nat} (hM : LM Λ) {x1 : Int32}  {l : Launch} {v : mM} {r : (Int32 × mM)} (hr_ : f_X7_breakDayOf x1 v = some r) : Ct l yX7_breakDayOf wsX7_breakDayOf rmX7_breakDayOf Λ [.ref (Λ.2.2.2.1 0), .int x1] v (some (.int r.1)) r.2 := by
  refine ct_of (cc := cX7_breakDayOf) (maxL := 2) (ret := (some .int)) (fun (q : Int32 × mM) => (some (Value.int q.1), q.2)) hM.1 hr_ (by decide) rfl (Nat.le_of_ble_eq_true rfl) (fun Γ hG hT hN hl => ?_)
  subst hl
  have f40 : Cond.fieldLink RX7 40 "ChoirRegisterModel" "thrown" "I" ∈ wsX7_breakDayOf := by decide +kernel
  have u7 : ∀ w ∈ wsX70, w ∈ wsX7_breakDayOf := by decide +kernel
  show Sm Γ Λ (0, 0) 0 [(0, .ref (Λ.2.2.2.1 0)), (1, .int x1)] [] v _
  unfold f_X7_breakDayOf
  refine sm_aload_n hG 1 rfl dX7_breakDayOf_0 rfl 0 rfl ?_
  refine sm_iconst (x := (0 : Int32)) hG 2 rfl dX7_breakDayOf_1 rfl ?_
  refine pM0_12 hG hM  5 rfl u7 f40 dX7_breakDayOf_2 ?_
  refine sm_nmv (fun w2_1 => ?_)
  refine sm_aload_n hG 6 rfl dX7_breakDayOf_5 rfl 0 rfl ?_
  refine sm_iload_n hG 7 rfl dX7_breakDayOf_6 rfl 1 rfl ?_
  refine sm_callV hG (fun (q : Int32) => (some (Value.int q), w2_1)) 0 [.int x1] 10 rfl (okm hM (by decide)) (me_0 hM _) (ci := 7) rfl (fun r_ hr_ => c_X7_isSinger hM   hr_) gX7_breakDayOf_X7_isSinger rfl (by decide) (by decide) (n := 1) rfl (Nat.le_of_ble_eq_true rfl) (by decide) ⟨Nat.zero_le _, Nat.zero_le _⟩ rfl dX7_breakDayOf_7 (fun r_7 => ?_)
  refine sm_if_eq hG 23 13 rfl dX7_breakDayOf_10 (by decide) ?_ ?_
  · refine sm_aload_n hG 24 rfl dX7_breakDayOf_23 rfl 0 rfl ?_
    refine sm_iconst (x := (1 : Int32)) hG 25 rfl dX7_breakDayOf_24 rfl ?_
    refine sm_callV hG (fun (q : Int32 × mM) => (some (Value.int q.1), q.2)) 0 [.int (1 : Int32)] 28 rfl (okm hM (by decide)) (me_0 hM _) (ci := 7) rfl (fun r_ hr_ => c_X7_refuses hM   hr_) gX7_breakDayOf_X7_refuses rfl (by decide) (by decide) (n := 1) rfl (Nat.le_of_ble_eq_true rfl) (by decide) ⟨Nat.zero_le _, Nat.zero_le _⟩ rfl dX7_breakDayOf_25 (fun r_25 => ?_)
    exact sm_iret hG hT ⟨Nat.zero_le _, Nat.zero_le _⟩ dX7_breakDayOf_28 rfl
  · refine sm_aload_n hG 14 rfl dX7_breakDayOf_13 rfl 0 rfl ?_
    refine sm_iload_n hG 15 rfl dX7_breakDayOf_14 rfl 1 rfl ?_
    refine sm_bipush (x := (6 : Int32)) hG 17 rfl dX7_breakDayOf_15 rfl ?_
    refine sm_callV hG (fun (q : Int32) => (some (Value.int q), w2_1)) 0 [.int x1, .int (6 : Int32)] 20 rfl (okm hM (by decide)) (me_0 hM _) (ci := 7) rfl (fun r_ hr_ => c_X7_its hM   hr_) gX7_breakDayOf_X7_its rfl (by decide) (by decide) (n := 2) rfl (Nat.le_of_ble_eq_true rfl) (by decide) ⟨Nat.zero_le _, Nat.zero_le _⟩ rfl dX7_breakDayOf_17 (fun r_17 => ?_)
    refine sm_goto hG 28 dX7_breakDayOf_20 (by decide) ?_
    exact sm_iret hG hT ⟨Nat.zero_le _, Nat.zero_le _⟩ dX7_breakDayOf_28 rfl
abbrev rmX7_nextToBreak : Room := { frames := 1, cells := 0, slots := 0, locals := 22 }
set_option maxRecDepth 100000 in
set_option maxHeartbeats 4000000 in
theorem c_X7_nextToBreak {Λ : jL Nat} (hM : LM Λ)   {l : Launch} {v : mM} {r : (Int32 × mM)} (hr_ : f_X7_nextToBreak v = some r) : Ct l yX7_nextToBreak wsX7_nextToBreak rmX7_nextToBreak Λ [.ref (Λ.2.2.2.1 0)] v (some (.int r.1)) r.2 := by
  refine ct_of (cc := cX7_nextToBreak) (maxL := 4) (ret := (some .int)) (fun (q : Int32 × mM) => (some (Value.int q.1), q.2)) hM.1 hr_ (by decide) rfl (Nat.le_of_ble_eq_true rfl) (fun Γ hG hT hN hl => ?_)
  subst hl
  have f40 : Cond.fieldLink RX7 40 "ChoirRegisterModel" "thrown" "I" ∈ wsX7_nextToBreak := by decide +kernel
  have f7 : Cond.fieldLink RX7 7 "ChoirRegisterModel" "now" "[I" ∈ wsX7_nextToBreak := by decide +kernel
  have u7 : ∀ w ∈ wsX70, w ∈ wsX7_nextToBreak := by decide +kernel
  show Sm Γ Λ (0, 0) 0 [(0, .ref (Λ.2.2.2.1 0))] [] v _
  unfold f_X7_nextToBreak
  refine sm_aload_n hG 1 rfl dX7_nextToBreak_0 rfl 0 rfl ?_
  refine sm_iconst (x := (0 : Int32)) hG 2 rfl dX7_nextToBreak_1 rfl ?_
  refine pM0_12 hG hM  5 rfl u7 f40 dX7_nextToBreak_2 ?_
  refine sm_nmv (fun w2_1 => ?_)
  refine sm_iconst (x := (-1 : Int32)) hG 6 rfl dX7_nextToBreak_5 rfl ?_
  refine sm_istore_n hG 7 rfl dX7_nextToBreak_6 rfl (jlt hN rfl) [(1, .int (-1 : Int32)), (0, .ref (Λ.2.2.2.1 0))] rfl ?_
  refine sm_iconst (x := (0 : Int32)) hG 8 rfl dX7_nextToBreak_7 rfl ?_
  refine sm_istore_n hG 9 rfl dX7_nextToBreak_8 rfl (jlt hN rfl) [(2, .int (0 : Int32)), (1, .int (-1 : Int32)), (0, .ref (Λ.2.2.2.1 0))] rfl ?_
  refine sm_loc [2, 1, 0] [(0, .ref (Λ.2.2.2.1 0)), (1, .int (-1 : Int32)), (2, .int (0 : Int32))] rfl ?_
  refine lp_ind (fun (X9 : Int32 → Int32 → Option (Int32 × mM)) => ∀ (x1_9 : Int32) (x2_9 : Int32), Sm Γ Λ (0, 0) 9 [(0, .ref (Λ.2.2.2.1 0)), (1, .int x1_9), (2, .int x2_9)] [] w2_1 (X9 x1_9 x2_9)) (fun _ _ => sm_none) (fun self9 hs9 x1_9 x2_9 => ?_) 8192 _ _
  refine sm_iload_n hG 10 rfl dX7_nextToBreak_9 rfl 2 rfl ?_
  refine sm_aload_n hG 11 rfl dX7_nextToBreak_10 rfl 0 rfl ?_
  refine gM0_0 hG hM  14 rfl u7 f7 dX7_nextToBreak_11 ?_
  refine sm_iconst (x := (1 : Int32)) hG 15 rfl dX7_nextToBreak_14 rfl ?_
  refine lA hG (ia_1 hM) 16 rfl dX7_nextToBreak_15 ?_
  refine sm_icmp_ge hG 89 19 rfl dX7_nextToBreak_16 (by decide) ?_ ?_
  · refine sm_iload_n hG 90 rfl dX7_nextToBreak_89 rfl 1 rfl ?_
    exact sm_iret hG hT ⟨Nat.zero_le _, Nat.zero_le _⟩ dX7_nextToBreak_90 rfl
  · refine sm_jn (fun (X50 : Int32 → Option (Int32 × mM)) => ∀ (s0_50 : Int32), Sm Γ Λ (0, 0) 50 [(0, .ref (Λ.2.2.2.1 0)), (1, .int x1_9), (2, .int x2_9)] [.int s0_50] w2_1 (X50 s0_50)) (fun s0_50 => ?_) (fun j50 hj50 => ?_)
    · refine sm_istore_n hG 51 rfl dX7_nextToBreak_50 rfl (jlt hN rfl) [(3, .int s0_50), (0, .ref (Λ.2.2.2.1 0)), (1, .int x1_9), (2, .int x2_9)] rfl ?_
      refine sm_iload_n hG 52 rfl dX7_nextToBreak_51 rfl 0 rfl ?_
      refine sm_if_eq hG 81 55 rfl dX7_nextToBreak_52 (by decide) ?_ ?_
      · refine sm_iload_n hG 82 rfl dX7_nextToBreak_81 rfl 2 rfl ?_
        refine sm_istore_n hG 83 rfl dX7_nextToBreak_82 rfl (jlt hN rfl) [(1, .int x1_9), (3, .int s0_50), (0, .ref (Λ.2.2.2.1 0)), (2, .int x2_9)] rfl ?_
        refine sm_iinc hG 86 rfl dX7_nextToBreak_83 (j := 3) rfl rfl (jlt hN rfl) [(2, .int (x2_9 + (1 : Int32))), (1, .int x1_9), (3, .int s0_50), (0, .ref (Λ.2.2.2.1 0))] rfl ?_
        refine sm_goto hG 9 dX7_nextToBreak_86 (by decide) ?_
        refine sm_loc [3, 1, 0] [(0, .ref (Λ.2.2.2.1 0)), (1, .int x1_9), (2, .int (x2_9 + (1 : Int32)))] rfl ?_
        exact hs9 _ _
      · refine sm_iload_n hG 56 rfl dX7_nextToBreak_55 rfl 2 rfl ?_
        refine sm_iconst (x := (-1 : Int32)) hG 57 rfl dX7_nextToBreak_56 rfl ?_
        refine sm_icmp_eq hG 77 60 rfl dX7_nextToBreak_57 (by decide) ?_ ?_
        · refine sm_iload_n hG 78 rfl dX7_nextToBreak_77 rfl 3 rfl ?_
          refine sm_goto hG 82 dX7_nextToBreak_78 (by decide) ?_
          refine sm_istore_n hG 83 rfl dX7_nextToBreak_82 rfl (jlt hN rfl) [(1, .int x2_9), (3, .int s0_50), (0, .ref (Λ.2.2.2.1 0)), (2, .int x2_9)] rfl ?_
          refine sm_iinc hG 86 rfl dX7_nextToBreak_83 (j := 3) rfl rfl (jlt hN rfl) [(2, .int (x2_9 + (1 : Int32))), (1, .int x2_9), (3, .int s0_50), (0, .ref (Λ.2.2.2.1 0))] rfl ?_
          refine sm_goto hG 9 dX7_nextToBreak_86 (by decide) ?_
          refine sm_loc [3, 1, 0] [(0, .ref (Λ.2.2.2.1 0)), (1, .int x2_9), (2, .int (x2_9 + (1 : Int32)))] rfl ?_
          exact hs9 _ _
        · refine sm_aload_n hG 61 rfl dX7_nextToBreak_60 rfl 1 rfl ?_
          refine sm_iload_n hG 62 rfl dX7_nextToBreak_61 rfl 3 rfl ?_
          refine sm_bipush (x := (6 : Int32)) hG 64 rfl dX7_nextToBreak_62 rfl ?_
          refine sm_callV hG (fun (q : Int32) => (some (Value.int q), w2_1)) 0 [.int x2_9, .int (6 : Int32)] 67 rfl (okm hM (by decide)) (me_0 hM _) (ci := 7) rfl (fun r_ hr_ => c_X7_its hM   hr_) gX7_nextToBreak_X7_its rfl (by decide) (by decide) (n := 2) rfl (Nat.le_of_ble_eq_true rfl) (by decide) ⟨Nat.zero_le _, Nat.zero_le _⟩ rfl dX7_nextToBreak_64 (fun r_64 => ?_)
          refine sm_aload_n hG 68 rfl dX7_nextToBreak_67 rfl 1 rfl ?_
          refine sm_iload_n hG 69 rfl dX7_nextToBreak_68 rfl 2 rfl ?_
          refine sm_bipush (x := (6 : Int32)) hG 71 rfl dX7_nextToBreak_69 rfl ?_
          refine sm_callV hG (fun (q : Int32) => (some (Value.int q), w2_1)) 0 [.int x1_9, .int (6 : Int32)] 74 rfl (okm hM (by decide)) (me_0 hM _) (ci := 7) rfl (fun r_ hr_ => c_X7_its hM   hr_) gX7_nextToBreak_X7_its rfl (by decide) (by decide) (n := 2) rfl (Nat.le_of_ble_eq_true rfl) (by decide) ⟨Nat.zero_le _, Nat.zero_le _⟩ rfl dX7_nextToBreak_71 (fun r_71 => ?_)
          refine sm_icmp_ge hG 81 77 rfl dX7_nextToBreak_74 (by decide) ?_ ?_
          · refine sm_iload_n hG 82 rfl dX7_nextToBreak_81 rfl 2 rfl ?_
            refine sm_istore_n hG 83 rfl dX7_nextToBreak_82 rfl (jlt hN rfl) [(1, .int x1_9), (3, .int s0_50), (0, .ref (Λ.2.2.2.1 0)), (2, .int x2_9)] rfl ?_
            refine sm_iinc hG 86 rfl dX7_nextToBreak_83 (j := 3) rfl rfl (jlt hN rfl) [(2, .int (x2_9 + (1 : Int32))), (1, .int x1_9), (3, .int s0_50), (0, .ref (Λ.2.2.2.1 0))] rfl ?_
            refine sm_goto hG 9 dX7_nextToBreak_86 (by decide) ?_
            refine sm_loc [3, 1, 0] [(0, .ref (Λ.2.2.2.1 0)), (1, .int x1_9), (2, .int (x2_9 + (1 : Int32)))] rfl ?_
            exact hs9 _ _
          · refine sm_iload_n hG 78 rfl dX7_nextToBreak_77 rfl 3 rfl ?_
            refine sm_goto hG 82 dX7_nextToBreak_78 (by decide) ?_
            refine sm_istore_n hG 83 rfl dX7_nextToBreak_82 rfl (jlt hN rfl) [(1, .int x2_9), (3, .int s0_50), (0, .ref (Λ.2.2.2.1 0)), (2, .int x2_9)] rfl ?_
            refine sm_iinc hG 86 rfl dX7_nextToBreak_83 (j := 3) rfl rfl (jlt hN rfl) [(2, .int (x2_9 + (1 : Int32))), (1, .int x2_9), (3, .int s0_50), (0, .ref (Λ.2.2.2.1 0))] rfl ?_
            refine sm_goto hG 9 dX7_nextToBreak_86 (by decide) ?_
            refine sm_loc [3, 1, 0] [(0, .ref (Λ.2.2.2.1 0)), (1, .int x2_9), (2, .int (x2_9 + (1 : Int32)))] rfl ?_
            exact hs9 _ _
    · refine sm_jn (fun (X49 : Unit → Option (Int32 × mM)) => ∀ (u_ : Unit), Sm Γ Λ (0, 0) 49 [(0, .ref (Λ.2.2.2.1 0)), (1, .int x1_9), (2, .int x2_9)] [] w2_1 (X49 u_)) (fun u_ => ?_) (fun j49 hj49 => ?_)
      · refine sm_iconst (x := (0 : Int32)) hG 50 rfl dX7_nextToBreak_49 rfl ?_
        exact hj50 _
      · refine sm_aload_n hG 20 rfl dX7_nextToBreak_19 rfl 0 rfl ?_
        refine sm_iload_n hG 21 rfl dX7_nextToBreak_20 rfl 2 rfl ?_
        refine sm_bipush (x := (7 : Int32)) hG 23 rfl dX7_nextToBreak_21 rfl ?_
        refine sm_callV hG (fun (q : Int32) => (some (Value.int q), w2_1)) 0 [.int x2_9, .int (7 : Int32)] 26 rfl (okm hM (by decide)) (me_0 hM _) (ci := 7) rfl (fun r_ hr_ => c_X7_its hM   hr_) gX7_nextToBreak_X7_its rfl (by decide) (by decide) (n := 2) rfl (Nat.le_of_ble_eq_true rfl) (by decide) ⟨Nat.zero_le _, Nat.zero_le _⟩ rfl dX7_nextToBreak_23 (fun r_23 => ?_)
        refine sm_if_ne hG 49 29 rfl dX7_nextToBreak_26 (by decide) ?_ ?_
        · exact hj49 ()
        · refine sm_aload_n hG 30 rfl dX7_nextToBreak_29 rfl 0 rfl ?_
          refine sm_iload_n hG 31 rfl dX7_nextToBreak_30 rfl 2 rfl ?_
          refine sm_bipush (x := (6 : Int32)) hG 33 rfl dX7_nextToBreak_31 rfl ?_
          refine sm_callV hG (fun (q : Int32) => (some (Value.int q), w2_1)) 0 [.int x2_9, .int (6 : Int32)] 36 rfl (okm hM (by decide)) (me_0 hM _) (ci := 7) rfl (fun r_ hr_ => c_X7_its hM   hr_) gX7_nextToBreak_X7_its rfl (by decide) (by decide) (n := 2) rfl (Nat.le_of_ble_eq_true rfl) (by decide) ⟨Nat.zero_le _, Nat.zero_le _⟩ rfl dX7_nextToBreak_33 (fun r_33 => ?_)
          refine sm_aload_n hG 37 rfl dX7_nextToBreak_36 rfl 0 rfl ?_
          refine gM0_0 hG hM  40 rfl u7 f7 dX7_nextToBreak_37 ?_
          refine sm_iconst (x := (0 : Int32)) hG 41 rfl dX7_nextToBreak_40 rfl ?_
          refine lA hG (ia_1 hM) 42 rfl dX7_nextToBreak_41 ?_
          refine sm_icmp_le hG 49 45 rfl dX7_nextToBreak_42 (by decide) ?_ ?_
          · exact hj49 ()
          · refine sm_iconst (x := (1 : Int32)) hG 46 rfl dX7_nextToBreak_45 rfl ?_
            refine sm_goto hG 50 dX7_nextToBreak_46 (by decide) ?_
            exact hj50 _
abbrev rmX7_choirOf : Room := { frames := 2, cells := 0, slots := 0, locals := 43 }
set_option maxRecDepth 100000 in
set_option maxHeartbeats 4000000 in
theorem c_X7_choirOf {Λ : jL Nat} (hM : LM Λ) {x1 : Int32}  {l : Launch} {v : mM} {r : (Int32 × mM)} (hr_ : f_X7_choirOf x1 v = some r) : Ct l yX7_choirOf wsX7_choirOf rmX7_choirOf Λ [.ref (Λ.2.2.2.1 0), .int x1] v (some (.int r.1)) r.2 := by
  refine ct_of (cc := cX7_choirOf) (maxL := 2) (ret := (some .int)) (fun (q : Int32 × mM) => (some (Value.int q.1), q.2)) hM.1 hr_ (by decide) rfl (Nat.le_of_ble_eq_true rfl) (fun Γ hG hT hN hl => ?_)
  subst hl
  have f40 : Cond.fieldLink RX7 40 "ChoirRegisterModel" "thrown" "I" ∈ wsX7_choirOf := by decide +kernel
  have u7 : ∀ w ∈ wsX70, w ∈ wsX7_choirOf := by decide +kernel
  show Sm Γ Λ (0, 0) 0 [(0, .ref (Λ.2.2.2.1 0)), (1, .int x1)] [] v _
  unfold f_X7_choirOf
  refine sm_aload_n hG 1 rfl dX7_choirOf_0 rfl 0 rfl ?_
  refine sm_iconst (x := (0 : Int32)) hG 2 rfl dX7_choirOf_1 rfl ?_
  refine pM0_12 hG hM  5 rfl u7 f40 dX7_choirOf_2 ?_
  refine sm_nmv (fun w2_1 => ?_)
  refine sm_aload_n hG 6 rfl dX7_choirOf_5 rfl 0 rfl ?_
  refine sm_iload_n hG 7 rfl dX7_choirOf_6 rfl 1 rfl ?_
  refine sm_callV hG (fun (q : Int32) => (some (Value.int q), w2_1)) 0 [.int x1] 10 rfl (okm hM (by decide)) (me_0 hM _) (ci := 7) rfl (fun r_ hr_ => c_X7_isSinger hM   hr_) gX7_choirOf_X7_isSinger rfl (by decide) (by decide) (n := 1) rfl (Nat.le_of_ble_eq_true rfl) (by decide) ⟨Nat.zero_le _, Nat.zero_le _⟩ rfl dX7_choirOf_7 (fun r_7 => ?_)
  refine sm_if_eq hG 22 13 rfl dX7_choirOf_10 (by decide) ?_ ?_
  · refine sm_aload_n hG 23 rfl dX7_choirOf_22 rfl 0 rfl ?_
    refine sm_iconst (x := (1 : Int32)) hG 24 rfl dX7_choirOf_23 rfl ?_
    refine sm_callV hG (fun (q : Int32 × mM) => (some (Value.int q.1), q.2)) 0 [.int (1 : Int32)] 27 rfl (okm hM (by decide)) (me_0 hM _) (ci := 7) rfl (fun r_ hr_ => c_X7_refuses hM   hr_) gX7_choirOf_X7_refuses rfl (by decide) (by decide) (n := 1) rfl (Nat.le_of_ble_eq_true rfl) (by decide) ⟨Nat.zero_le _, Nat.zero_le _⟩ rfl dX7_choirOf_24 (fun r_24 => ?_)
    exact sm_iret hG hT ⟨Nat.zero_le _, Nat.zero_le _⟩ dX7_choirOf_27 rfl
  · refine sm_aload_n hG 14 rfl dX7_choirOf_13 rfl 0 rfl ?_
    refine sm_iload_n hG 15 rfl dX7_choirOf_14 rfl 1 rfl ?_
    refine sm_iconst (x := (0 : Int32)) hG 16 rfl dX7_choirOf_15 rfl ?_
    refine sm_callV hG (fun (q : Int32) => (some (Value.int q), w2_1)) 0 [.int x1, .int (0 : Int32)] 19 rfl (okm hM (by decide)) (me_0 hM _) (ci := 7) rfl (fun r_ hr_ => c_X7_its hM   hr_) gX7_choirOf_X7_its rfl (by decide) (by decide) (n := 2) rfl (Nat.le_of_ble_eq_true rfl) (by decide) ⟨Nat.zero_le _, Nat.zero_le _⟩ rfl dX7_choirOf_16 (fun r_16 => ?_)
    refine sm_goto hG 27 dX7_choirOf_19 (by decide) ?_
    exact sm_iret hG hT ⟨Nat.zero_le _, Nat.zero_le _⟩ dX7_choirOf_27 rfl
abbrev rmX7_awayUntil : Room := { frames := 2, cells := 0, slots := 0, locals := 43 }
set_option maxRecDepth 100000 in
set_option maxHeartbeats 4000000 in
theorem c_X7_awayUntil {Λ : jL Nat} (hM : LM Λ) {x1 : Int32}  {l : Launch} {v : mM} {r : (Int32 × mM)} (hr_ : f_X7_awayUntil x1 v = some r) : Ct l yX7_awayUntil wsX7_awayUntil rmX7_awayUntil Λ [.ref (Λ.2.2.2.1 0), .int x1] v (some (.int r.1)) r.2 := by
  refine ct_of (cc := cX7_awayUntil) (maxL := 2) (ret := (some .int)) (fun (q : Int32 × mM) => (some (Value.int q.1), q.2)) hM.1 hr_ (by decide) rfl (Nat.le_of_ble_eq_true rfl) (fun Γ hG hT hN hl => ?_)
  subst hl
  have f40 : Cond.fieldLink RX7 40 "ChoirRegisterModel" "thrown" "I" ∈ wsX7_awayUntil := by decide +kernel
  have f7 : Cond.fieldLink RX7 7 "ChoirRegisterModel" "now" "[I" ∈ wsX7_awayUntil := by decide +kernel
  have u7 : ∀ w ∈ wsX70, w ∈ wsX7_awayUntil := by decide +kernel
  show Sm Γ Λ (0, 0) 0 [(0, .ref (Λ.2.2.2.1 0)), (1, .int x1)] [] v _
  unfold f_X7_awayUntil
  refine sm_aload_n hG 1 rfl dX7_awayUntil_0 rfl 0 rfl ?_
  refine sm_iconst (x := (0 : Int32)) hG 2 rfl dX7_awayUntil_1 rfl ?_
  refine pM0_12 hG hM  5 rfl u7 f40 dX7_awayUntil_2 ?_
  refine sm_nmv (fun w2_1 => ?_)
  refine sm_aload_n hG 6 rfl dX7_awayUntil_5 rfl 0 rfl ?_
  refine sm_iload_n hG 7 rfl dX7_awayUntil_6 rfl 1 rfl ?_
  refine sm_callV hG (fun (q : Int32) => (some (Value.int q), w2_1)) 0 [.int x1] 10 rfl (okm hM (by decide)) (me_0 hM _) (ci := 7) rfl (fun r_ hr_ => c_X7_isSinger hM   hr_) gX7_awayUntil_X7_isSinger rfl (by decide) (by decide) (n := 1) rfl (Nat.le_of_ble_eq_true rfl) (by decide) ⟨Nat.zero_le _, Nat.zero_le _⟩ rfl dX7_awayUntil_7 (fun r_7 => ?_)
  refine sm_if_ne hG 19 13 rfl dX7_awayUntil_10 (by decide) ?_ ?_
  · refine sm_aload_n hG 20 rfl dX7_awayUntil_19 rfl 0 rfl ?_
    refine sm_iload_n hG 21 rfl dX7_awayUntil_20 rfl 1 rfl ?_
    refine sm_bipush (x := (10 : Int32)) hG 23 rfl dX7_awayUntil_21 rfl ?_
    refine sm_callV hG (fun (q : Int32) => (some (Value.int q), w2_1)) 0 [.int x1, .int (10 : Int32)] 26 rfl (okm hM (by decide)) (me_0 hM _) (ci := 7) rfl (fun r_ hr_ => c_X7_its hM   hr_) gX7_awayUntil_X7_its rfl (by decide) (by decide) (n := 2) rfl (Nat.le_of_ble_eq_true rfl) (by decide) ⟨Nat.zero_le _, Nat.zero_le _⟩ rfl dX7_awayUntil_23 (fun r_23 => ?_)
    refine sm_aload_n hG 27 rfl dX7_awayUntil_26 rfl 0 rfl ?_
    refine gM0_0 hG hM  30 rfl u7 f7 dX7_awayUntil_27 ?_
    refine sm_iconst (x := (0 : Int32)) hG 31 rfl dX7_awayUntil_30 rfl ?_
    refine lA hG (ia_1 hM) 32 rfl dX7_awayUntil_31 ?_
    refine sm_icmp_ge hG 39 35 rfl dX7_awayUntil_32 (by decide) ?_ ?_
    · refine sm_aload_n hG 40 rfl dX7_awayUntil_39 rfl 0 rfl ?_
      refine sm_iload_n hG 41 rfl dX7_awayUntil_40 rfl 1 rfl ?_
      refine sm_bipush (x := (10 : Int32)) hG 43 rfl dX7_awayUntil_41 rfl ?_
      refine sm_callV hG (fun (q : Int32) => (some (Value.int q), w2_1)) 0 [.int x1, .int (10 : Int32)] 46 rfl (okm hM (by decide)) (me_0 hM _) (ci := 7) rfl (fun r_ hr_ => c_X7_its hM   hr_) gX7_awayUntil_X7_its rfl (by decide) (by decide) (n := 2) rfl (Nat.le_of_ble_eq_true rfl) (by decide) ⟨Nat.zero_le _, Nat.zero_le _⟩ rfl dX7_awayUntil_43 (fun r_43 => ?_)
      exact sm_iret hG hT ⟨Nat.zero_le _, Nat.zero_le _⟩ dX7_awayUntil_46 rfl
    · refine sm_iconst (x := (-1 : Int32)) hG 36 rfl dX7_awayUntil_35 rfl ?_
      refine sm_goto hG 46 dX7_awayUntil_36 (by decide) ?_
      exact sm_iret hG hT ⟨Nat.zero_le _, Nat.zero_le _⟩ dX7_awayUntil_46 rfl
  · refine sm_aload_n hG 14 rfl dX7_awayUntil_13 rfl 0 rfl ?_
    refine sm_iconst (x := (1 : Int32)) hG 15 rfl dX7_awayUntil_14 rfl ?_
    refine sm_callV hG (fun (q : Int32 × mM) => (some (Value.int q.1), q.2)) 0 [.int (1 : Int32)] 18 rfl (okm hM (by decide)) (me_0 hM _) (ci := 7) rfl (fun r_ hr_ => c_X7_refuses hM   hr_) gX7_awayUntil_X7_refuses rfl (by decide) (by decide) (n := 1) rfl (Nat.le_of_ble_eq_true rfl) (by decide) ⟨Nat.zero_le _, Nat.zero_le _⟩ rfl dX7_awayUntil_15 (fun r_15 => ?_)
    exact sm_iret hG hT ⟨Nat.zero_le _, Nat.zero_le _⟩ dX7_awayUntil_18 rfl
abbrev rmX7_isExcused : Room := { frames := 2, cells := 0, slots := 0, locals := 43 }
set_option maxRecDepth 100000 in
set_option maxHeartbeats 4000000 in
theorem c_X7_isExcused {Λ : jL Nat} (hM : LM Λ) {x1 : Int32} {x2 : Int32}  {l : Launch} {v : mM} {r : (Int32 × mM)} (hr_ : f_X7_isExcused x1 x2 v = some r) : Ct l yX7_isExcused wsX7_isExcused rmX7_isExcused Λ [.ref (Λ.2.2.2.1 0), .int x1, .int x2] v (some (.int r.1)) r.2 := by
  refine ct_of (cc := cX7_isExcused) (maxL := 3) (ret := (some .boolean)) (fun (q : Int32 × mM) => (some (Value.int q.1), q.2)) hM.1 hr_ (by decide) rfl (Nat.le_of_ble_eq_true rfl) (fun Γ hG hT hN hl => ?_)
  subst hl
  have f40 : Cond.fieldLink RX7 40 "ChoirRegisterModel" "thrown" "I" ∈ wsX7_isExcused := by decide +kernel
  have u7 : ∀ w ∈ wsX70, w ∈ wsX7_isExcused := by decide +kernel
  show Sm Γ Λ (0, 0) 0 [(0, .ref (Λ.2.2.2.1 0)), (1, .int x1), (2, .int x2)] [] v _
  unfold f_X7_isExcused
  refine sm_aload_n hG 1 rfl dX7_isExcused_0 rfl 0 rfl ?_
  refine sm_iconst (x := (0 : Int32)) hG 2 rfl dX7_isExcused_1 rfl ?_
  refine pM0_12 hG hM  5 rfl u7 f40 dX7_isExcused_2 ?_
  refine sm_nmv (fun w2_1 => ?_)
  refine sm_aload_n hG 6 rfl dX7_isExcused_5 rfl 0 rfl ?_
  refine sm_iload_n hG 7 rfl dX7_isExcused_6 rfl 1 rfl ?_
  refine sm_callV hG (fun (q : Int32) => (some (Value.int q), w2_1)) 0 [.int x1] 10 rfl (okm hM (by decide)) (me_0 hM _) (ci := 7) rfl (fun r_ hr_ => c_X7_isSinger hM   hr_) gX7_isExcused_X7_isSinger rfl (by decide) (by decide) (n := 1) rfl (Nat.le_of_ble_eq_true rfl) (by decide) ⟨Nat.zero_le _, Nat.zero_le _⟩ rfl dX7_isExcused_7 (fun r_7 => ?_)
  refine sm_if_ne hG 27 13 rfl dX7_isExcused_10 (by decide) ?_ ?_
  · refine sm_iload_n hG 28 rfl dX7_isExcused_27 rfl 2 rfl ?_
    refine sm_iconst (x := (0 : Int32)) hG 29 rfl dX7_isExcused_28 rfl ?_
    refine sm_sipush (x := (9999 : Int32)) hG 32 rfl dX7_isExcused_29 rfl ?_
    refine sm_callS hG (fun (q : Int32) => (some (Value.int q), w2_1)) [.int x2, .int (0 : Int32), .int (9999 : Int32)] 35 rfl (fun r_ hr_ => c_X7_in hM   hr_) gX7_isExcused_X7_in rfl (by decide) (by decide) (n := 3) rfl (Nat.le_of_ble_eq_true rfl) (by decide) ⟨Nat.zero_le _, Nat.zero_le _⟩ rfl dX7_isExcused_32 (fun r_32 => ?_)
    refine sm_if_eq hG 56 38 rfl dX7_isExcused_35 (by decide) ?_ ?_
    · refine sm_aload_n hG 57 rfl dX7_isExcused_56 rfl 0 rfl ?_
      refine sm_iconst (x := (2 : Int32)) hG 58 rfl dX7_isExcused_57 rfl ?_
      refine sm_callV hG (fun (q : Int32 × mM) => (some (Value.int q.1), q.2)) 0 [.int (2 : Int32)] 61 rfl (okm hM (by decide)) (me_0 hM _) (ci := 7) rfl (fun r_ hr_ => c_X7_refuses hM   hr_) gX7_isExcused_X7_refuses rfl (by decide) (by decide) (n := 1) rfl (Nat.le_of_ble_eq_true rfl) (by decide) ⟨Nat.zero_le _, Nat.zero_le _⟩ rfl dX7_isExcused_58 (fun r_58 => ?_)
      refine sm_if_le hG 68 64 rfl dX7_isExcused_61 (by decide) ?_ ?_
      · refine sm_iconst (x := (0 : Int32)) hG 69 rfl dX7_isExcused_68 rfl ?_
        exact sm_bret hG hT ⟨Nat.zero_le _, Nat.zero_le _⟩ dX7_isExcused_69 rfl
      · refine sm_iconst (x := (1 : Int32)) hG 65 rfl dX7_isExcused_64 rfl ?_
        refine sm_goto hG 69 dX7_isExcused_65 (by decide) ?_
        exact sm_bret hG hT ⟨Nat.zero_le _, Nat.zero_le _⟩ dX7_isExcused_69 rfl
    · refine sm_aload_n hG 39 rfl dX7_isExcused_38 rfl 0 rfl ?_
      refine sm_iload_n hG 40 rfl dX7_isExcused_39 rfl 1 rfl ?_
      refine sm_iload_n hG 41 rfl dX7_isExcused_40 rfl 2 rfl ?_
      refine sm_iload_n hG 42 rfl dX7_isExcused_41 rfl 2 rfl ?_
      refine sm_callV hG (fun (q : Int32) => (some (Value.int q), w2_1)) 0 [.int x1, .int x2, .int x2] 45 rfl (okm hM (by decide)) (me_0 hM _) (ci := 7) rfl (fun r_ hr_ => c_X7_notes hM   hr_) gX7_isExcused_X7_notes rfl (by decide) (by decide) (n := 3) rfl (Nat.le_of_ble_eq_true rfl) (by decide) ⟨Nat.zero_le _, Nat.zero_le _⟩ rfl dX7_isExcused_42 (fun r_42 => ?_)
      refine sm_if_le hG 52 48 rfl dX7_isExcused_45 (by decide) ?_ ?_
      · refine sm_iconst (x := (0 : Int32)) hG 53 rfl dX7_isExcused_52 rfl ?_
        refine sm_goto hG 69 dX7_isExcused_53 (by decide) ?_
        exact sm_bret hG hT ⟨Nat.zero_le _, Nat.zero_le _⟩ dX7_isExcused_69 rfl
      · refine sm_iconst (x := (1 : Int32)) hG 49 rfl dX7_isExcused_48 rfl ?_
        refine sm_goto hG 69 dX7_isExcused_49 (by decide) ?_
        exact sm_bret hG hT ⟨Nat.zero_le _, Nat.zero_le _⟩ dX7_isExcused_69 rfl
  · refine sm_aload_n hG 14 rfl dX7_isExcused_13 rfl 0 rfl ?_
    refine sm_iconst (x := (1 : Int32)) hG 15 rfl dX7_isExcused_14 rfl ?_
    refine sm_callV hG (fun (q : Int32 × mM) => (some (Value.int q.1), q.2)) 0 [.int (1 : Int32)] 18 rfl (okm hM (by decide)) (me_0 hM _) (ci := 7) rfl (fun r_ hr_ => c_X7_refuses hM   hr_) gX7_isExcused_X7_refuses rfl (by decide) (by decide) (n := 1) rfl (Nat.le_of_ble_eq_true rfl) (by decide) ⟨Nat.zero_le _, Nat.zero_le _⟩ rfl dX7_isExcused_15 (fun r_15 => ?_)
    refine sm_if_le hG 25 21 rfl dX7_isExcused_18 (by decide) ?_ ?_
    · refine sm_iconst (x := (0 : Int32)) hG 26 rfl dX7_isExcused_25 rfl ?_
      exact sm_bret hG hT ⟨Nat.zero_le _, Nat.zero_le _⟩ dX7_isExcused_26 rfl
    · refine sm_iconst (x := (1 : Int32)) hG 22 rfl dX7_isExcused_21 rfl ?_
      refine sm_goto hG 26 dX7_isExcused_22 (by decide) ?_
      exact sm_bret hG hT ⟨Nat.zero_le _, Nat.zero_le _⟩ dX7_isExcused_26 rfl
abbrev rmX7_feastsOf : Room := { frames := 2, cells := 0, slots := 0, locals := 43 }
set_option maxRecDepth 100000 in
set_option maxHeartbeats 4000000 in
theorem c_X7_feastsOf {Λ : jL Nat} (hM : LM Λ) {x1 : Int32}  {l : Launch} {v : mM} {r : (Int32 × mM)} (hr_ : f_X7_feastsOf x1 v = some r) : Ct l yX7_feastsOf wsX7_feastsOf rmX7_feastsOf Λ [.ref (Λ.2.2.2.1 0), .int x1] v (some (.int r.1)) r.2 := by
  refine ct_of (cc := cX7_feastsOf) (maxL := 2) (ret := (some .int)) (fun (q : Int32 × mM) => (some (Value.int q.1), q.2)) hM.1 hr_ (by decide) rfl (Nat.le_of_ble_eq_true rfl) (fun Γ hG hT hN hl => ?_)
  subst hl
  have f40 : Cond.fieldLink RX7 40 "ChoirRegisterModel" "thrown" "I" ∈ wsX7_feastsOf := by decide +kernel
  have u7 : ∀ w ∈ wsX70, w ∈ wsX7_feastsOf := by decide +kernel
  show Sm Γ Λ (0, 0) 0 [(0, .ref (Λ.2.2.2.1 0)), (1, .int x1)] [] v _
  unfold f_X7_feastsOf
  refine sm_aload_n hG 1 rfl dX7_feastsOf_0 rfl 0 rfl ?_
  refine sm_iconst (x := (0 : Int32)) hG 2 rfl dX7_feastsOf_1 rfl ?_
  refine pM0_12 hG hM  5 rfl u7 f40 dX7_feastsOf_2 ?_
  refine sm_nmv (fun w2_1 => ?_)
  refine sm_aload_n hG 6 rfl dX7_feastsOf_5 rfl 0 rfl ?_
  refine sm_iload_n hG 7 rfl dX7_feastsOf_6 rfl 1 rfl ?_
  refine sm_callV hG (fun (q : Int32) => (some (Value.int q), w2_1)) 0 [.int x1] 10 rfl (okm hM (by decide)) (me_0 hM _) (ci := 7) rfl (fun r_ hr_ => c_X7_isSinger hM   hr_) gX7_feastsOf_X7_isSinger rfl (by decide) (by decide) (n := 1) rfl (Nat.le_of_ble_eq_true rfl) (by decide) ⟨Nat.zero_le _, Nat.zero_le _⟩ rfl dX7_feastsOf_7 (fun r_7 => ?_)
  refine sm_if_eq hG 23 13 rfl dX7_feastsOf_10 (by decide) ?_ ?_
  · refine sm_aload_n hG 24 rfl dX7_feastsOf_23 rfl 0 rfl ?_
    refine sm_iconst (x := (1 : Int32)) hG 25 rfl dX7_feastsOf_24 rfl ?_
    refine sm_callV hG (fun (q : Int32 × mM) => (some (Value.int q.1), q.2)) 0 [.int (1 : Int32)] 28 rfl (okm hM (by decide)) (me_0 hM _) (ci := 7) rfl (fun r_ hr_ => c_X7_refuses hM   hr_) gX7_feastsOf_X7_refuses rfl (by decide) (by decide) (n := 1) rfl (Nat.le_of_ble_eq_true rfl) (by decide) ⟨Nat.zero_le _, Nat.zero_le _⟩ rfl dX7_feastsOf_25 (fun r_25 => ?_)
    exact sm_iret hG hT ⟨Nat.zero_le _, Nat.zero_le _⟩ dX7_feastsOf_28 rfl
  · refine sm_aload_n hG 14 rfl dX7_feastsOf_13 rfl 0 rfl ?_
    refine sm_iload_n hG 15 rfl dX7_feastsOf_14 rfl 1 rfl ?_
    refine sm_bipush (x := (11 : Int32)) hG 17 rfl dX7_feastsOf_15 rfl ?_
    refine sm_callV hG (fun (q : Int32) => (some (Value.int q), w2_1)) 0 [.int x1, .int (11 : Int32)] 20 rfl (okm hM (by decide)) (me_0 hM _) (ci := 7) rfl (fun r_ hr_ => c_X7_its hM   hr_) gX7_feastsOf_X7_its rfl (by decide) (by decide) (n := 2) rfl (Nat.le_of_ble_eq_true rfl) (by decide) ⟨Nat.zero_le _, Nat.zero_le _⟩ rfl dX7_feastsOf_17 (fun r_17 => ?_)
    refine sm_goto hG 28 dX7_feastsOf_20 (by decide) ?_
    exact sm_iret hG hT ⟨Nat.zero_le _, Nat.zero_le _⟩ dX7_feastsOf_28 rfl
abbrev rmX7_descantsOf : Room := { frames := 2, cells := 0, slots := 0, locals := 43 }
set_option maxRecDepth 100000 in
set_option maxHeartbeats 4000000 in
theorem c_X7_descantsOf {Λ : jL Nat} (hM : LM Λ) {x1 : Int32}  {l : Launch} {v : mM} {r : (Int32 × mM)} (hr_ : f_X7_descantsOf x1 v = some r) : Ct l yX7_descantsOf wsX7_descantsOf rmX7_descantsOf Λ [.ref (Λ.2.2.2.1 0), .int x1] v (some (.int r.1)) r.2 := by
  refine ct_of (cc := cX7_descantsOf) (maxL := 2) (ret := (some .int)) (fun (q : Int32 × mM) => (some (Value.int q.1), q.2)) hM.1 hr_ (by decide) rfl (Nat.le_of_ble_eq_true rfl) (fun Γ hG hT hN hl => ?_)
  subst hl
  have f40 : Cond.fieldLink RX7 40 "ChoirRegisterModel" "thrown" "I" ∈ wsX7_descantsOf := by decide +kernel
  have u7 : ∀ w ∈ wsX70, w ∈ wsX7_descantsOf := by decide +kernel
  show Sm Γ Λ (0, 0) 0 [(0, .ref (Λ.2.2.2.1 0)), (1, .int x1)] [] v _
  unfold f_X7_descantsOf
  refine sm_aload_n hG 1 rfl dX7_descantsOf_0 rfl 0 rfl ?_
  refine sm_iconst (x := (0 : Int32)) hG 2 rfl dX7_descantsOf_1 rfl ?_
  refine pM0_12 hG hM  5 rfl u7 f40 dX7_descantsOf_2 ?_
  refine sm_nmv (fun w2_1 => ?_)
  refine sm_aload_n hG 6 rfl dX7_descantsOf_5 rfl 0 rfl ?_
  refine sm_iload_n hG 7 rfl dX7_descantsOf_6 rfl 1 rfl ?_
  refine sm_callV hG (fun (q : Int32) => (some (Value.int q), w2_1)) 0 [.int x1] 10 rfl (okm hM (by decide)) (me_0 hM _) (ci := 7) rfl (fun r_ hr_ => c_X7_isSinger hM   hr_) gX7_descantsOf_X7_isSinger rfl (by decide) (by decide) (n := 1) rfl (Nat.le_of_ble_eq_true rfl) (by decide) ⟨Nat.zero_le _, Nat.zero_le _⟩ rfl dX7_descantsOf_7 (fun r_7 => ?_)
  refine sm_if_eq hG 23 13 rfl dX7_descantsOf_10 (by decide) ?_ ?_
  · refine sm_aload_n hG 24 rfl dX7_descantsOf_23 rfl 0 rfl ?_
    refine sm_iconst (x := (1 : Int32)) hG 25 rfl dX7_descantsOf_24 rfl ?_
    refine sm_callV hG (fun (q : Int32 × mM) => (some (Value.int q.1), q.2)) 0 [.int (1 : Int32)] 28 rfl (okm hM (by decide)) (me_0 hM _) (ci := 7) rfl (fun r_ hr_ => c_X7_refuses hM   hr_) gX7_descantsOf_X7_refuses rfl (by decide) (by decide) (n := 1) rfl (Nat.le_of_ble_eq_true rfl) (by decide) ⟨Nat.zero_le _, Nat.zero_le _⟩ rfl dX7_descantsOf_25 (fun r_25 => ?_)
    exact sm_iret hG hT ⟨Nat.zero_le _, Nat.zero_le _⟩ dX7_descantsOf_28 rfl
  · refine sm_aload_n hG 14 rfl dX7_descantsOf_13 rfl 0 rfl ?_
    refine sm_iload_n hG 15 rfl dX7_descantsOf_14 rfl 1 rfl ?_
    refine sm_bipush (x := (12 : Int32)) hG 17 rfl dX7_descantsOf_15 rfl ?_
    refine sm_callV hG (fun (q : Int32) => (some (Value.int q), w2_1)) 0 [.int x1, .int (12 : Int32)] 20 rfl (okm hM (by decide)) (me_0 hM _) (ci := 7) rfl (fun r_ hr_ => c_X7_its hM   hr_) gX7_descantsOf_X7_its rfl (by decide) (by decide) (n := 2) rfl (Nat.le_of_ble_eq_true rfl) (by decide) ⟨Nat.zero_le _, Nat.zero_le _⟩ rfl dX7_descantsOf_17 (fun r_17 => ?_)
    refine sm_goto hG 28 dX7_descantsOf_20 (by decide) ?_
    exact sm_iret hG hT ⟨Nat.zero_le _, Nat.zero_le _⟩ dX7_descantsOf_28 rfl
abbrev rmX7_feasts : Room := { frames := 0, cells := 0, slots := 0, locals := 0 }
set_option maxRecDepth 100000 in
set_option maxHeartbeats 4000000 in
theorem c_X7_feasts {Λ : jL Nat} (hM : LM Λ)   {l : Launch} {v : mM} {r : (Int32 × mM)} (hr_ : f_X7_feasts v = some r) : Ct l yX7_feasts wsX7_feasts rmX7_feasts Λ [.ref (Λ.2.2.2.1 0)] v (some (.int r.1)) r.2 := by
  refine ct_of (cc := cX7_feasts) (maxL := 1) (ret := (some .int)) (fun (q : Int32 × mM) => (some (Value.int q.1), q.2)) hM.1 hr_ (by decide) rfl (Nat.le_of_ble_eq_true rfl) (fun Γ hG hT hN hl => ?_)
  subst hl
  have f40 : Cond.fieldLink RX7 40 "ChoirRegisterModel" "thrown" "I" ∈ wsX7_feasts := by decide +kernel
  have f7 : Cond.fieldLink RX7 7 "ChoirRegisterModel" "now" "[I" ∈ wsX7_feasts := by decide +kernel
  have u7 : ∀ w ∈ wsX70, w ∈ wsX7_feasts := by decide +kernel
  show Sm Γ Λ (0, 0) 0 [(0, .ref (Λ.2.2.2.1 0))] [] v _
  unfold f_X7_feasts
  refine sm_aload_n hG 1 rfl dX7_feasts_0 rfl 0 rfl ?_
  refine sm_iconst (x := (0 : Int32)) hG 2 rfl dX7_feasts_1 rfl ?_
  refine pM0_12 hG hM  5 rfl u7 f40 dX7_feasts_2 ?_
  refine sm_nmv (fun w2_1 => ?_)
  refine sm_aload_n hG 6 rfl dX7_feasts_5 rfl 0 rfl ?_
  refine gM0_0 hG hM  9 rfl u7 f7 dX7_feasts_6 ?_
  refine sm_iconst (x := (3 : Int32)) hG 10 rfl dX7_feasts_9 rfl ?_
  refine lA hG (ia_1 hM) 11 rfl dX7_feasts_10 ?_
  exact sm_iret hG hT ⟨Nat.zero_le _, Nat.zero_le _⟩ dX7_feasts_11 rfl
abbrev rmX7_dayOf : Room := { frames := 2, cells := 0, slots := 0, locals := 43 }
set_option maxRecDepth 100000 in
set_option maxHeartbeats 4000000 in
theorem c_X7_dayOf {Λ : jL Nat} (hM : LM Λ) {x1 : Int32}  {l : Launch} {v : mM} {r : (Int32 × mM)} (hr_ : f_X7_dayOf x1 v = some r) : Ct l yX7_dayOf wsX7_dayOf rmX7_dayOf Λ [.ref (Λ.2.2.2.1 0), .int x1] v (some (.int r.1)) r.2 := by
  refine ct_of (cc := cX7_dayOf) (maxL := 2) (ret := (some .int)) (fun (q : Int32 × mM) => (some (Value.int q.1), q.2)) hM.1 hr_ (by decide) rfl (Nat.le_of_ble_eq_true rfl) (fun Γ hG hT hN hl => ?_)
  subst hl
  have f40 : Cond.fieldLink RX7 40 "ChoirRegisterModel" "thrown" "I" ∈ wsX7_dayOf := by decide +kernel
  have u7 : ∀ w ∈ wsX70, w ∈ wsX7_dayOf := by decide +kernel
  show Sm Γ Λ (0, 0) 0 [(0, .ref (Λ.2.2.2.1 0)), (1, .int x1)] [] v _
  unfold f_X7_dayOf
  refine sm_aload_n hG 1 rfl dX7_dayOf_0 rfl 0 rfl ?_
  refine sm_iconst (x := (0 : Int32)) hG 2 rfl dX7_dayOf_1 rfl ?_
  refine pM0_12 hG hM  5 rfl u7 f40 dX7_dayOf_2 ?_
  refine sm_nmv (fun w2_1 => ?_)
  refine sm_aload_n hG 6 rfl dX7_dayOf_5 rfl 0 rfl ?_
  refine sm_iload_n hG 7 rfl dX7_dayOf_6 rfl 1 rfl ?_
  refine sm_callV hG (fun (q : Int32) => (some (Value.int q), w2_1)) 0 [.int x1] 10 rfl (okm hM (by decide)) (me_0 hM _) (ci := 7) rfl (fun r_ hr_ => c_X7_isFeast hM   hr_) gX7_dayOf_X7_isFeast rfl (by decide) (by decide) (n := 1) rfl (Nat.le_of_ble_eq_true rfl) (by decide) ⟨Nat.zero_le _, Nat.zero_le _⟩ rfl dX7_dayOf_7 (fun r_7 => ?_)
  refine sm_if_eq hG 21 13 rfl dX7_dayOf_10 (by decide) ?_ ?_
  · refine sm_aload_n hG 22 rfl dX7_dayOf_21 rfl 0 rfl ?_
    refine sm_iconst (x := (1 : Int32)) hG 23 rfl dX7_dayOf_22 rfl ?_
    refine sm_callV hG (fun (q : Int32 × mM) => (some (Value.int q.1), q.2)) 0 [.int (1 : Int32)] 26 rfl (okm hM (by decide)) (me_0 hM _) (ci := 7) rfl (fun r_ hr_ => c_X7_refuses hM   hr_) gX7_dayOf_X7_refuses rfl (by decide) (by decide) (n := 1) rfl (Nat.le_of_ble_eq_true rfl) (by decide) ⟨Nat.zero_le _, Nat.zero_le _⟩ rfl dX7_dayOf_23 (fun r_23 => ?_)
    exact sm_iret hG hT ⟨Nat.zero_le _, Nat.zero_le _⟩ dX7_dayOf_26 rfl
  · refine sm_aload_n hG 14 rfl dX7_dayOf_13 rfl 0 rfl ?_
    refine sm_iload_n hG 15 rfl dX7_dayOf_14 rfl 1 rfl ?_
    refine sm_callV hG (fun (q : Int32) => (some (Value.int q), w2_1)) 0 [.int x1] 18 rfl (okm hM (by decide)) (me_0 hM _) (ci := 7) rfl (fun r_ hr_ => c_X7_dayAt hM   hr_) gX7_dayOf_X7_dayAt rfl (by decide) (by decide) (n := 1) rfl (Nat.le_of_ble_eq_true rfl) (by decide) ⟨Nat.zero_le _, Nat.zero_le _⟩ rfl dX7_dayOf_15 (fun r_15 => ?_)
    refine sm_goto hG 26 dX7_dayOf_18 (by decide) ?_
    exact sm_iret hG hT ⟨Nat.zero_le _, Nat.zero_le _⟩ dX7_dayOf_26 rfl
abbrev rmX7_isHeld : Room := { frames := 2, cells := 0, slots := 0, locals := 43 }
set_option maxRecDepth 100000 in
set_option maxHeartbeats 4000000 in
theorem c_X7_isHeld {Λ : jL Nat} (hM : LM Λ) {x1 : Int32}  {l : Launch} {v : mM} {r : (Int32 × mM)} (hr_ : f_X7_isHeld x1 v = some r) : Ct l yX7_isHeld wsX7_isHeld rmX7_isHeld Λ [.ref (Λ.2.2.2.1 0), .int x1] v (some (.int r.1)) r.2 := by
  refine ct_of (cc := cX7_isHeld) (maxL := 2) (ret := (some .boolean)) (fun (q : Int32 × mM) => (some (Value.int q.1), q.2)) hM.1 hr_ (by decide) rfl (Nat.le_of_ble_eq_true rfl) (fun Γ hG hT hN hl => ?_)
  subst hl
  have f40 : Cond.fieldLink RX7 40 "ChoirRegisterModel" "thrown" "I" ∈ wsX7_isHeld := by decide +kernel
  have u7 : ∀ w ∈ wsX70, w ∈ wsX7_isHeld := by decide +kernel
  show Sm Γ Λ (0, 0) 0 [(0, .ref (Λ.2.2.2.1 0)), (1, .int x1)] [] v _
  unfold f_X7_isHeld
  refine sm_aload_n hG 1 rfl dX7_isHeld_0 rfl 0 rfl ?_
  refine sm_iconst (x := (0 : Int32)) hG 2 rfl dX7_isHeld_1 rfl ?_
  refine pM0_12 hG hM  5 rfl u7 f40 dX7_isHeld_2 ?_
  refine sm_nmv (fun w2_1 => ?_)
  refine sm_aload_n hG 6 rfl dX7_isHeld_5 rfl 0 rfl ?_
  refine sm_iload_n hG 7 rfl dX7_isHeld_6 rfl 1 rfl ?_
  refine sm_callV hG (fun (q : Int32) => (some (Value.int q), w2_1)) 0 [.int x1] 10 rfl (okm hM (by decide)) (me_0 hM _) (ci := 7) rfl (fun r_ hr_ => c_X7_isFeast hM   hr_) gX7_isHeld_X7_isFeast rfl (by decide) (by decide) (n := 1) rfl (Nat.le_of_ble_eq_true rfl) (by decide) ⟨Nat.zero_le _, Nat.zero_le _⟩ rfl dX7_isHeld_7 (fun r_7 => ?_)
  refine sm_if_eq hG 21 13 rfl dX7_isHeld_10 (by decide) ?_ ?_
  · refine sm_aload_n hG 22 rfl dX7_isHeld_21 rfl 0 rfl ?_
    refine sm_iconst (x := (1 : Int32)) hG 23 rfl dX7_isHeld_22 rfl ?_
    refine sm_callV hG (fun (q : Int32 × mM) => (some (Value.int q.1), q.2)) 0 [.int (1 : Int32)] 26 rfl (okm hM (by decide)) (me_0 hM _) (ci := 7) rfl (fun r_ hr_ => c_X7_refuses hM   hr_) gX7_isHeld_X7_refuses rfl (by decide) (by decide) (n := 1) rfl (Nat.le_of_ble_eq_true rfl) (by decide) ⟨Nat.zero_le _, Nat.zero_le _⟩ rfl dX7_isHeld_23 (fun r_23 => ?_)
    refine sm_if_le hG 33 29 rfl dX7_isHeld_26 (by decide) ?_ ?_
    · refine sm_iconst (x := (0 : Int32)) hG 34 rfl dX7_isHeld_33 rfl ?_
      exact sm_bret hG hT ⟨Nat.zero_le _, Nat.zero_le _⟩ dX7_isHeld_34 rfl
    · refine sm_iconst (x := (1 : Int32)) hG 30 rfl dX7_isHeld_29 rfl ?_
      refine sm_goto hG 34 dX7_isHeld_30 (by decide) ?_
      exact sm_bret hG hT ⟨Nat.zero_le _, Nat.zero_le _⟩ dX7_isHeld_34 rfl
  · refine sm_aload_n hG 14 rfl dX7_isHeld_13 rfl 0 rfl ?_
    refine sm_iload_n hG 15 rfl dX7_isHeld_14 rfl 1 rfl ?_
    refine sm_callV hG (fun (q : Int32) => (some (Value.int q), w2_1)) 0 [.int x1] 18 rfl (okm hM (by decide)) (me_0 hM _) (ci := 7) rfl (fun r_ hr_ => c_X7_held hM   hr_) gX7_isHeld_X7_held rfl (by decide) (by decide) (n := 1) rfl (Nat.le_of_ble_eq_true rfl) (by decide) ⟨Nat.zero_le _, Nat.zero_le _⟩ rfl dX7_isHeld_15 (fun r_15 => ?_)
    refine sm_goto hG 34 dX7_isHeld_18 (by decide) ?_
    exact sm_bret hG hT ⟨Nat.zero_le _, Nat.zero_le _⟩ dX7_isHeld_34 rfl
abbrev rmX7_placesIn : Room := { frames := 2, cells := 0, slots := 0, locals := 43 }
set_option maxRecDepth 100000 in
set_option maxHeartbeats 4000000 in
theorem c_X7_placesIn {Λ : jL Nat} (hM : LM Λ) {x1 : Int32} {x2 : Int32}  {l : Launch} {v : mM} {r : (Int32 × mM)} (hr_ : f_X7_placesIn x1 x2 v = some r) : Ct l yX7_placesIn wsX7_placesIn rmX7_placesIn Λ [.ref (Λ.2.2.2.1 0), .int x1, .int x2] v (some (.int r.1)) r.2 := by
  refine ct_of (cc := cX7_placesIn) (maxL := 3) (ret := (some .int)) (fun (q : Int32 × mM) => (some (Value.int q.1), q.2)) hM.1 hr_ (by decide) rfl (Nat.le_of_ble_eq_true rfl) (fun Γ hG hT hN hl => ?_)
  subst hl
  have f40 : Cond.fieldLink RX7 40 "ChoirRegisterModel" "thrown" "I" ∈ wsX7_placesIn := by decide +kernel
  have u7 : ∀ w ∈ wsX70, w ∈ wsX7_placesIn := by decide +kernel
  show Sm Γ Λ (0, 0) 0 [(0, .ref (Λ.2.2.2.1 0)), (1, .int x1), (2, .int x2)] [] v _
  unfold f_X7_placesIn
  refine sm_jn (fun (X29 : mM → Option (Int32 × mM)) => ∀ (v_29 : mM), Sm Γ Λ (0, 0) 29 [(0, .ref (Λ.2.2.2.1 0))] [] v_29 (X29 v_29)) (fun v_29 => ?_) (fun j29 hj29 => ?_)
  · refine sm_aload_n hG 30 rfl dX7_placesIn_29 rfl 0 rfl ?_
    refine sm_iconst (x := (1 : Int32)) hG 31 rfl dX7_placesIn_30 rfl ?_
    refine sm_callV hG (fun (q : Int32 × mM) => (some (Value.int q.1), q.2)) 0 [.int (1 : Int32)] 34 rfl (okm hM (by decide)) (me_0 hM _) (ci := 7) rfl (fun r_ hr_ => c_X7_refuses hM   hr_) gX7_placesIn_X7_refuses rfl (by decide) (by decide) (n := 1) rfl (Nat.le_of_ble_eq_true rfl) (by decide) ⟨Nat.zero_le _, Nat.zero_le _⟩ rfl dX7_placesIn_31 (fun r_31 => ?_)
    exact sm_iret hG hT ⟨Nat.zero_le _, Nat.zero_le _⟩ dX7_placesIn_34 rfl
  · refine sm_aload_n hG 1 rfl dX7_placesIn_0 rfl 0 rfl ?_
    refine sm_iconst (x := (0 : Int32)) hG 2 rfl dX7_placesIn_1 rfl ?_
    refine pM0_12 hG hM  5 rfl u7 f40 dX7_placesIn_2 ?_
    refine sm_nmv (fun w2_1 => ?_)
    refine sm_aload_n hG 6 rfl dX7_placesIn_5 rfl 0 rfl ?_
    refine sm_iload_n hG 7 rfl dX7_placesIn_6 rfl 1 rfl ?_
    refine sm_callV hG (fun (q : Int32) => (some (Value.int q), w2_1)) 0 [.int x1] 10 rfl (okm hM (by decide)) (me_0 hM _) (ci := 7) rfl (fun r_ hr_ => c_X7_isFeast hM   hr_) gX7_placesIn_X7_isFeast rfl (by decide) (by decide) (n := 1) rfl (Nat.le_of_ble_eq_true rfl) (by decide) ⟨Nat.zero_le _, Nat.zero_le _⟩ rfl dX7_placesIn_7 (fun r_7 => ?_)
    refine sm_if_eq hG 29 13 rfl dX7_placesIn_10 (by decide) ?_ ?_
    · refine sm_loc [0] [(0, .ref (Λ.2.2.2.1 0))] rfl ?_
      exact hj29 _
    · refine sm_iload_n hG 14 rfl dX7_placesIn_13 rfl 2 rfl ?_
      refine sm_callS hG (fun (q : Int32) => (some (Value.int q), w2_1)) [.int x2] 17 rfl (fun r_ hr_ => c_X7_isLine hM   hr_) gX7_placesIn_X7_isLine rfl (by decide) (by decide) (n := 1) rfl (Nat.le_of_ble_eq_true rfl) (by decide) ⟨Nat.zero_le _, Nat.zero_le _⟩ rfl dX7_placesIn_14 (fun r_14 => ?_)
      refine sm_if_eq hG 29 20 rfl dX7_placesIn_17 (by decide) ?_ ?_
      · refine sm_loc [0] [(0, .ref (Λ.2.2.2.1 0))] rfl ?_
        exact hj29 _
      · refine sm_aload_n hG 21 rfl dX7_placesIn_20 rfl 0 rfl ?_
        refine sm_iload_n hG 22 rfl dX7_placesIn_21 rfl 1 rfl ?_
        refine sm_iload_n hG 23 rfl dX7_placesIn_22 rfl 2 rfl ?_
        refine sm_callV hG (fun (q : Int32) => (some (Value.int q), w2_1)) 0 [.int x1, .int x2] 26 rfl (okm hM (by decide)) (me_0 hM _) (ci := 7) rfl (fun r_ hr_ => c_X7_places hM   hr_) gX7_placesIn_X7_places rfl (by decide) (by decide) (n := 2) rfl (Nat.le_of_ble_eq_true rfl) (by decide) ⟨Nat.zero_le _, Nat.zero_le _⟩ rfl dX7_placesIn_23 (fun r_23 => ?_)
        refine sm_goto hG 34 dX7_placesIn_26 (by decide) ?_
        exact sm_iret hG hT ⟨Nat.zero_le _, Nat.zero_le _⟩ dX7_placesIn_34 rfl
abbrev rmX7_whyNot : Room := { frames := 4, cells := 0, slots := 0, locals := 94 }
set_option maxRecDepth 100000 in
set_option maxHeartbeats 4000000 in
theorem c_X7_whyNot {Λ : jL Nat} (hM : LM Λ) {x1 : Int32} {x2 : Int32} {x3 : Int32}  {l : Launch} {v : mM} {r : (Int32 × mM)} (hr_ : f_X7_whyNot x1 x2 x3 v = some r) : Ct l yX7_whyNot wsX7_whyNot rmX7_whyNot Λ [.ref (Λ.2.2.2.1 0), .int x1, .int x2, .int x3] v (some (.int r.1)) r.2 := by
  refine ct_of (cc := cX7_whyNot) (maxL := 4) (ret := (some .int)) (fun (q : Int32 × mM) => (some (Value.int q.1), q.2)) hM.1 hr_ (by decide) rfl (Nat.le_of_ble_eq_true rfl) (fun Γ hG hT hN hl => ?_)
  subst hl
  have f40 : Cond.fieldLink RX7 40 "ChoirRegisterModel" "thrown" "I" ∈ wsX7_whyNot := by decide +kernel
  have u7 : ∀ w ∈ wsX70, w ∈ wsX7_whyNot := by decide +kernel
  show Sm Γ Λ (0, 0) 0 [(0, .ref (Λ.2.2.2.1 0)), (1, .int x1), (2, .int x2), (3, .int x3)] [] v _
  unfold f_X7_whyNot
  refine sm_jn (fun (X28 : mM → Option (Int32 × mM)) => ∀ (v_28 : mM), Sm Γ Λ (0, 0) 28 [(0, .ref (Λ.2.2.2.1 0))] [] v_28 (X28 v_28)) (fun v_28 => ?_) (fun j28 hj28 => ?_)
  · refine sm_aload_n hG 29 rfl dX7_whyNot_28 rfl 0 rfl ?_
    refine sm_iconst (x := (1 : Int32)) hG 30 rfl dX7_whyNot_29 rfl ?_
    refine sm_callV hG (fun (q : Int32 × mM) => (some (Value.int q.1), q.2)) 0 [.int (1 : Int32)] 33 rfl (okm hM (by decide)) (me_0 hM _) (ci := 7) rfl (fun r_ hr_ => c_X7_refuses hM   hr_) gX7_whyNot_X7_refuses rfl (by decide) (by decide) (n := 1) rfl (Nat.le_of_ble_eq_true rfl) (by decide) ⟨Nat.zero_le _, Nat.zero_le _⟩ rfl dX7_whyNot_30 (fun r_30 => ?_)
    exact sm_iret hG hT ⟨Nat.zero_le _, Nat.zero_le _⟩ dX7_whyNot_33 rfl
  · refine sm_aload_n hG 1 rfl dX7_whyNot_0 rfl 0 rfl ?_
    refine sm_iconst (x := (0 : Int32)) hG 2 rfl dX7_whyNot_1 rfl ?_
    refine pM0_12 hG hM  5 rfl u7 f40 dX7_whyNot_2 ?_
    refine sm_nmv (fun w2_1 => ?_)
    refine sm_aload_n hG 6 rfl dX7_whyNot_5 rfl 0 rfl ?_
    refine sm_iload_n hG 7 rfl dX7_whyNot_6 rfl 1 rfl ?_
    refine sm_callV hG (fun (q : Int32) => (some (Value.int q), w2_1)) 0 [.int x1] 10 rfl (okm hM (by decide)) (me_0 hM _) (ci := 7) rfl (fun r_ hr_ => c_X7_isFeast hM   hr_) gX7_whyNot_X7_isFeast rfl (by decide) (by decide) (n := 1) rfl (Nat.le_of_ble_eq_true rfl) (by decide) ⟨Nat.zero_le _, Nat.zero_le _⟩ rfl dX7_whyNot_7 (fun r_7 => ?_)
    refine sm_if_eq hG 28 13 rfl dX7_whyNot_10 (by decide) ?_ ?_
    · refine sm_loc [0] [(0, .ref (Λ.2.2.2.1 0))] rfl ?_
      exact hj28 _
    · refine sm_aload_n hG 14 rfl dX7_whyNot_13 rfl 0 rfl ?_
      refine sm_iload_n hG 15 rfl dX7_whyNot_14 rfl 2 rfl ?_
      refine sm_callV hG (fun (q : Int32) => (some (Value.int q), w2_1)) 0 [.int x2] 18 rfl (okm hM (by decide)) (me_0 hM _) (ci := 7) rfl (fun r_ hr_ => c_X7_isSinger hM   hr_) gX7_whyNot_X7_isSinger rfl (by decide) (by decide) (n := 1) rfl (Nat.le_of_ble_eq_true rfl) (by decide) ⟨Nat.zero_le _, Nat.zero_le _⟩ rfl dX7_whyNot_15 (fun r_15 => ?_)
      refine sm_if_eq hG 28 21 rfl dX7_whyNot_18 (by decide) ?_ ?_
      · refine sm_loc [0] [(0, .ref (Λ.2.2.2.1 0))] rfl ?_
        exact hj28 _
      · refine sm_iload_n hG 22 rfl dX7_whyNot_21 rfl 3 rfl ?_
        refine sm_callS hG (fun (q : Int32) => (some (Value.int q), w2_1)) [.int x3] 25 rfl (fun r_ hr_ => c_X7_isLine hM   hr_) gX7_whyNot_X7_isLine rfl (by decide) (by decide) (n := 1) rfl (Nat.le_of_ble_eq_true rfl) (by decide) ⟨Nat.zero_le _, Nat.zero_le _⟩ rfl dX7_whyNot_22 (fun r_22 => ?_)
        refine sm_if_ne hG 34 28 rfl dX7_whyNot_25 (by decide) ?_ ?_
        · refine sm_aload_n hG 35 rfl dX7_whyNot_34 rfl 0 rfl ?_
          refine sm_iload_n hG 36 rfl dX7_whyNot_35 rfl 1 rfl ?_
          refine sm_callV hG (fun (q : Int32) => (some (Value.int q), w2_1)) 0 [.int x1] 39 rfl (okm hM (by decide)) (me_0 hM _) (ci := 7) rfl (fun r_ hr_ => c_X7_held hM   hr_) gX7_whyNot_X7_held rfl (by decide) (by decide) (n := 1) rfl (Nat.le_of_ble_eq_true rfl) (by decide) ⟨Nat.zero_le _, Nat.zero_le _⟩ rfl dX7_whyNot_36 (fun r_36 => ?_)
          refine sm_if_eq hG 50 42 rfl dX7_whyNot_39 (by decide) ?_ ?_
          · refine sm_aload_n hG 51 rfl dX7_whyNot_50 rfl 0 rfl ?_
            refine sm_iload_n hG 52 rfl dX7_whyNot_51 rfl 1 rfl ?_
            refine sm_iload_n hG 53 rfl dX7_whyNot_52 rfl 2 rfl ?_
            refine sm_iload_n hG 54 rfl dX7_whyNot_53 rfl 3 rfl ?_
            refine sm_callV hG (fun (q : Int32) => (some (Value.int q), w2_1)) 0 [.int x1, .int x2, .int x3] 57 rfl (okm hM (by decide)) (me_0 hM _) (ci := 7) rfl (fun r_ hr_ => c_X7_why hM   hr_) gX7_whyNot_X7_why rfl (by decide) (by decide) (n := 3) rfl (Nat.le_of_ble_eq_true rfl) (by decide) ⟨Nat.zero_le _, Nat.zero_le _⟩ rfl dX7_whyNot_54 (fun r_54 => ?_)
            exact sm_iret hG hT ⟨Nat.zero_le _, Nat.zero_le _⟩ dX7_whyNot_57 rfl
          · refine sm_aload_n hG 43 rfl dX7_whyNot_42 rfl 0 rfl ?_
            refine sm_iconst (x := (2 : Int32)) hG 44 rfl dX7_whyNot_43 rfl ?_
            refine sm_callV hG (fun (q : Int32 × mM) => (some (Value.int q.1), q.2)) 0 [.int (2 : Int32)] 47 rfl (okm hM (by decide)) (me_0 hM _) (ci := 7) rfl (fun r_ hr_ => c_X7_refuses hM   hr_) gX7_whyNot_X7_refuses rfl (by decide) (by decide) (n := 1) rfl (Nat.le_of_ble_eq_true rfl) (by decide) ⟨Nat.zero_le _, Nat.zero_le _⟩ rfl dX7_whyNot_44 (fun r_44 => ?_)
            refine sm_goto hG 57 dX7_whyNot_47 (by decide) ?_
            exact sm_iret hG hT ⟨Nat.zero_le _, Nat.zero_le _⟩ dX7_whyNot_57 rfl
        · refine sm_loc [0] [(0, .ref (Λ.2.2.2.1 0))] rfl ?_
          exact hj28 _
abbrev rmX7_lineOf : Room := { frames := 8, cells := 0, slots := 0, locals := 190 }
set_option maxRecDepth 100000 in
set_option maxHeartbeats 4000000 in
theorem c_X7_lineOf {Λ : jL Nat} (hM : LM Λ) {x1 : Int32} {x2 : Int32}  {l : Launch} {v : mM} {r : (Int32 × mM)} (hr_ : f_X7_lineOf x1 x2 v = some r) : Ct l yX7_lineOf wsX7_lineOf rmX7_lineOf Λ [.ref (Λ.2.2.2.1 0), .int x1, .int x2] v (some (.int r.1)) r.2 := by
  refine ct_of (cc := cX7_lineOf) (maxL := 3) (ret := (some .int)) (fun (q : Int32 × mM) => (some (Value.int q.1), q.2)) hM.1 hr_ (by decide) rfl (Nat.le_of_ble_eq_true rfl) (fun Γ hG hT hN hl => ?_)
  subst hl
  have f22 : Cond.fieldLink RX7 22 "ChoirRegisterModel" "lineup" "[I" ∈ wsX7_lineOf := by decide +kernel
  have f40 : Cond.fieldLink RX7 40 "ChoirRegisterModel" "thrown" "I" ∈ wsX7_lineOf := by decide +kernel
  have u7 : ∀ w ∈ wsX70, w ∈ wsX7_lineOf := by decide +kernel
  show Sm Γ Λ (0, 0) 0 [(0, .ref (Λ.2.2.2.1 0)), (1, .int x1), (2, .int x2)] [] v _
  unfold f_X7_lineOf
  refine sm_jn (fun (X21 : mM → Option (Int32 × mM)) => ∀ (v_21 : mM), Sm Γ Λ (0, 0) 21 [(0, .ref (Λ.2.2.2.1 0))] [] v_21 (X21 v_21)) (fun v_21 => ?_) (fun j21 hj21 => ?_)
  · refine sm_aload_n hG 22 rfl dX7_lineOf_21 rfl 0 rfl ?_
    refine sm_iconst (x := (1 : Int32)) hG 23 rfl dX7_lineOf_22 rfl ?_
    refine sm_callV hG (fun (q : Int32 × mM) => (some (Value.int q.1), q.2)) 0 [.int (1 : Int32)] 26 rfl (okm hM (by decide)) (me_0 hM _) (ci := 7) rfl (fun r_ hr_ => c_X7_refuses hM   hr_) gX7_lineOf_X7_refuses rfl (by decide) (by decide) (n := 1) rfl (Nat.le_of_ble_eq_true rfl) (by decide) ⟨Nat.zero_le _, Nat.zero_le _⟩ rfl dX7_lineOf_23 (fun r_23 => ?_)
    exact sm_iret hG hT ⟨Nat.zero_le _, Nat.zero_le _⟩ dX7_lineOf_26 rfl
  · refine sm_aload_n hG 1 rfl dX7_lineOf_0 rfl 0 rfl ?_
    refine sm_iconst (x := (0 : Int32)) hG 2 rfl dX7_lineOf_1 rfl ?_
    refine pM0_12 hG hM  5 rfl u7 f40 dX7_lineOf_2 ?_
    refine sm_nmv (fun w2_1 => ?_)
    refine sm_aload_n hG 6 rfl dX7_lineOf_5 rfl 0 rfl ?_
    refine sm_iload_n hG 7 rfl dX7_lineOf_6 rfl 1 rfl ?_
    refine sm_callV hG (fun (q : Int32) => (some (Value.int q), w2_1)) 0 [.int x1] 10 rfl (okm hM (by decide)) (me_0 hM _) (ci := 7) rfl (fun r_ hr_ => c_X7_isFeast hM   hr_) gX7_lineOf_X7_isFeast rfl (by decide) (by decide) (n := 1) rfl (Nat.le_of_ble_eq_true rfl) (by decide) ⟨Nat.zero_le _, Nat.zero_le _⟩ rfl dX7_lineOf_7 (fun r_7 => ?_)
    refine sm_if_eq hG 21 13 rfl dX7_lineOf_10 (by decide) ?_ ?_
    · refine sm_loc [0] [(0, .ref (Λ.2.2.2.1 0))] rfl ?_
      exact hj21 _
    · refine sm_aload_n hG 14 rfl dX7_lineOf_13 rfl 0 rfl ?_
      refine sm_iload_n hG 15 rfl dX7_lineOf_14 rfl 2 rfl ?_
      refine sm_callV hG (fun (q : Int32) => (some (Value.int q), w2_1)) 0 [.int x2] 18 rfl (okm hM (by decide)) (me_0 hM _) (ci := 7) rfl (fun r_ hr_ => c_X7_isSinger hM   hr_) gX7_lineOf_X7_isSinger rfl (by decide) (by decide) (n := 1) rfl (Nat.le_of_ble_eq_true rfl) (by decide) ⟨Nat.zero_le _, Nat.zero_le _⟩ rfl dX7_lineOf_15 (fun r_15 => ?_)
      refine sm_if_ne hG 27 21 rfl dX7_lineOf_18 (by decide) ?_ ?_
      · refine sm_aload_n hG 28 rfl dX7_lineOf_27 rfl 0 rfl ?_
        refine sm_iload_n hG 29 rfl dX7_lineOf_28 rfl 1 rfl ?_
        refine sm_callV hG (fun (q : Int32 × mM) => (some (Value.int q.1), q.2)) 0 [.int x1] 32 rfl (okm hM (by decide)) (me_0 hM _) (ci := 7) rfl (fun r_ hr_ => c_X7_tells hM   hr_) gX7_lineOf_X7_tells rfl (by decide) (by decide) (n := 1) rfl (Nat.le_of_ble_eq_true rfl) (by decide) ⟨Nat.zero_le _, Nat.zero_le _⟩ rfl dX7_lineOf_29 (fun r_29 => ?_)
        refine sm_if_ge hG 39 35 rfl dX7_lineOf_32 (by decide) ?_ ?_
        · refine sm_aload_n hG 40 rfl dX7_lineOf_39 rfl 0 rfl ?_
          refine gM0_6 hG hM  43 rfl u7 f22 dX7_lineOf_40 ?_
          refine sm_iload_n hG 44 rfl dX7_lineOf_43 rfl 2 rfl ?_
          refine lA hG (ia_5 hM) 45 rfl dX7_lineOf_44 ?_
          exact sm_iret hG hT ⟨Nat.zero_le _, Nat.zero_le _⟩ dX7_lineOf_45 rfl
        · refine sm_iconst (x := (-1 : Int32)) hG 36 rfl dX7_lineOf_35 rfl ?_
          refine sm_goto hG 45 dX7_lineOf_36 (by decide) ?_
          exact sm_iret hG hT ⟨Nat.zero_le _, Nat.zero_le _⟩ dX7_lineOf_45 rfl
      · refine sm_loc [0] [(0, .ref (Λ.2.2.2.1 0))] rfl ?_
        exact hj21 _
abbrev rmX7_inLine : Room := { frames := 8, cells := 0, slots := 0, locals := 190 }
set_option maxRecDepth 100000 in
set_option maxHeartbeats 4000000 in
theorem c_X7_inLine {Λ : jL Nat} (hM : LM Λ) {x1 : Int32} {x2 : Int32}  {l : Launch} {v : mM} {r : (Int32 × mM)} (hr_ : f_X7_inLine x1 x2 v = some r) : Ct l yX7_inLine wsX7_inLine rmX7_inLine Λ [.ref (Λ.2.2.2.1 0), .int x1, .int x2] v (some (.int r.1)) r.2 := by
  refine ct_of (cc := cX7_inLine) (maxL := 5) (ret := (some .int)) (fun (q : Int32 × mM) => (some (Value.int q.1), q.2)) hM.1 hr_ (by decide) rfl (Nat.le_of_ble_eq_true rfl) (fun Γ hG hT hN hl => ?_)
  subst hl
  have f22 : Cond.fieldLink RX7 22 "ChoirRegisterModel" "lineup" "[I" ∈ wsX7_inLine := by decide +kernel
  have u7 : ∀ w ∈ wsX70, w ∈ wsX7_inLine := by decide +kernel
  show Sm Γ Λ (0, 0) 0 [(0, .ref (Λ.2.2.2.1 0)), (1, .int x1), (2, .int x2)] [] v _
  unfold f_X7_inLine
  refine sm_jn (fun (X13 : Int32 → mM → Option (Int32 × mM)) => ∀ (s0_13 : Int32) (v_13 : mM), Sm Γ Λ (0, 0) 13 [(0, .ref (Λ.2.2.2.1 0)), (2, .int x2)] [.int s0_13] v_13 (X13 s0_13 v_13)) (fun s0_13 v_13 => ?_) (fun j13 hj13 => ?_)
  · refine sm_istore_n hG 14 rfl dX7_inLine_13 rfl (jlt hN rfl) [(3, .int s0_13), (0, .ref (Λ.2.2.2.1 0)), (2, .int x2)] rfl ?_
    refine sm_iconst (x := (0 : Int32)) hG 15 rfl dX7_inLine_14 rfl ?_
    refine sm_istore hG 17 rfl dX7_inLine_15 (jlt hN rfl) [(4, .int (0 : Int32)), (3, .int s0_13), (0, .ref (Λ.2.2.2.1 0)), (2, .int x2)] rfl ?_
    refine sm_loc [2, 3, 1, 0] [(0, .ref (Λ.2.2.2.1 0)), (2, .int x2), (3, .int s0_13), (4, .int (0 : Int32))] rfl ?_
    refine lp_ind (fun (X17 : Int32 → Int32 → Option (Int32 × mM)) => ∀ (x3_17 : Int32) (x4_17 : Int32), Sm Γ Λ (0, 0) 17 [(0, .ref (Λ.2.2.2.1 0)), (2, .int x2), (3, .int x3_17), (4, .int x4_17)] [] v_13 (X17 x3_17 x4_17)) (fun _ _ => sm_none) (fun self17 hs17 x3_17 x4_17 => ?_) 8192 _ _
    refine sm_iload hG 19 rfl dX7_inLine_17 3 rfl ?_
    refine sm_bipush (x := (30 : Int32)) hG 21 rfl dX7_inLine_19 rfl ?_
    refine sm_icmp_ge hG 49 24 rfl dX7_inLine_21 (by decide) ?_ ?_
    · refine sm_iload_n hG 50 rfl dX7_inLine_49 rfl 2 rfl ?_
      exact sm_iret hG hT ⟨Nat.zero_le _, Nat.zero_le _⟩ dX7_inLine_50 rfl
    · refine sm_iload_n hG 25 rfl dX7_inLine_24 rfl 2 rfl ?_
      refine sm_aload_n hG 26 rfl dX7_inLine_25 rfl 0 rfl ?_
      refine gM0_6 hG hM  29 rfl u7 f22 dX7_inLine_26 ?_
      refine sm_iload hG 31 rfl dX7_inLine_29 3 rfl ?_
      refine lA hG (ia_5 hM) 32 rfl dX7_inLine_31 ?_
      refine sm_iload_n hG 33 rfl dX7_inLine_32 rfl 1 rfl ?_
      refine sm_icmp_ne hG 40 36 rfl dX7_inLine_33 (by decide) ?_ ?_
      · refine sm_iconst (x := (0 : Int32)) hG 41 rfl dX7_inLine_40 rfl ?_
        refine sm_iadd hG 42 rfl dX7_inLine_41 ?_
        refine sm_istore_n hG 43 rfl dX7_inLine_42 rfl (jlt hN rfl) [(3, .int (x3_17 + (0 : Int32))), (0, .ref (Λ.2.2.2.1 0)), (2, .int x2), (4, .int x4_17)] rfl ?_
        refine sm_iinc hG 46 rfl dX7_inLine_43 (j := 3) rfl rfl (jlt hN rfl) [(4, .int (x4_17 + (1 : Int32))), (3, .int (x3_17 + (0 : Int32))), (0, .ref (Λ.2.2.2.1 0)), (2, .int x2)] rfl ?_
        refine sm_goto hG 17 dX7_inLine_46 (by decide) ?_
        refine sm_loc [2, 3, 1, 0] [(0, .ref (Λ.2.2.2.1 0)), (2, .int x2), (3, .int (x3_17 + (0 : Int32))), (4, .int (x4_17 + (1 : Int32)))] rfl ?_
        exact hs17 _ _
      · refine sm_iconst (x := (1 : Int32)) hG 37 rfl dX7_inLine_36 rfl ?_
        refine sm_goto hG 41 dX7_inLine_37 (by decide) ?_
        refine sm_iadd hG 42 rfl dX7_inLine_41 ?_
        refine sm_istore_n hG 43 rfl dX7_inLine_42 rfl (jlt hN rfl) [(3, .int (x3_17 + (1 : Int32))), (0, .ref (Λ.2.2.2.1 0)), (2, .int x2), (4, .int x4_17)] rfl ?_
        refine sm_iinc hG 46 rfl dX7_inLine_43 (j := 3) rfl rfl (jlt hN rfl) [(4, .int (x4_17 + (1 : Int32))), (3, .int (x3_17 + (1 : Int32))), (0, .ref (Λ.2.2.2.1 0)), (2, .int x2)] rfl ?_
        refine sm_goto hG 17 dX7_inLine_46 (by decide) ?_
        refine sm_loc [2, 3, 1, 0] [(0, .ref (Λ.2.2.2.1 0)), (2, .int x2), (3, .int (x3_17 + (1 : Int32))), (4, .int (x4_17 + (1 : Int32)))] rfl ?_
        exact hs17 _ _
  · refine sm_aload_n hG 1 rfl dX7_inLine_0 rfl 0 rfl ?_
    refine sm_iload_n hG 2 rfl dX7_inLine_1 rfl 1 rfl ?_
    refine sm_callV hG (fun (q : Int32 × mM) => (some (Value.int q.1), q.2)) 0 [.int x1] 5 rfl (okm hM (by decide)) (me_0 hM _) (ci := 7) rfl (fun r_ hr_ => c_X7_tells hM   hr_) gX7_inLine_X7_tells rfl (by decide) (by decide) (n := 1) rfl (Nat.le_of_ble_eq_true rfl) (by decide) ⟨Nat.zero_le _, Nat.zero_le _⟩ rfl dX7_inLine_2 (fun r_2 => ?_)
    refine sm_if_ge hG 12 8 rfl dX7_inLine_5 (by decide) ?_ ?_
    · refine sm_iconst (x := (0 : Int32)) hG 13 rfl dX7_inLine_12 rfl ?_
      refine sm_loc [0, 2] [(0, .ref (Λ.2.2.2.1 0)), (2, .int x2)] rfl ?_
      exact hj13 _ _
    · refine sm_iconst (x := (-1 : Int32)) hG 9 rfl dX7_inLine_8 rfl ?_
      refine sm_goto hG 13 dX7_inLine_9 (by decide) ?_
      refine sm_loc [0, 2] [(0, .ref (Λ.2.2.2.1 0)), (2, .int x2)] rfl ?_
      exact hj13 _ _
abbrev rmX7_singersIn : Room := { frames := 9, cells := 0, slots := 0, locals := 214 }
set_option maxRecDepth 100000 in
set_option maxHeartbeats 4000000 in
theorem c_X7_singersIn {Λ : jL Nat} (hM : LM Λ) {x1 : Int32} {x2 : Int32}  {l : Launch} {v : mM} {r : (Int32 × mM)} (hr_ : f_X7_singersIn x1 x2 v = some r) : Ct l yX7_singersIn wsX7_singersIn rmX7_singersIn Λ [.ref (Λ.2.2.2.1 0), .int x1, .int x2] v (some (.int r.1)) r.2 := by
  refine ct_of (cc := cX7_singersIn) (maxL := 3) (ret := (some .int)) (fun (q : Int32 × mM) => (some (Value.int q.1), q.2)) hM.1 hr_ (by decide) rfl (Nat.le_of_ble_eq_true rfl) (fun Γ hG hT hN hl => ?_)
  subst hl
  have f40 : Cond.fieldLink RX7 40 "ChoirRegisterModel" "thrown" "I" ∈ wsX7_singersIn := by decide +kernel
  have u7 : ∀ w ∈ wsX70, w ∈ wsX7_singersIn := by decide +kernel
  show Sm Γ Λ (0, 0) 0 [(0, .ref (Λ.2.2.2.1 0)), (1, .int x1), (2, .int x2)] [] v _
  unfold f_X7_singersIn
  refine sm_jn (fun (X29 : mM → Option (Int32 × mM)) => ∀ (v_29 : mM), Sm Γ Λ (0, 0) 29 [(0, .ref (Λ.2.2.2.1 0))] [] v_29 (X29 v_29)) (fun v_29 => ?_) (fun j29 hj29 => ?_)
  · refine sm_aload_n hG 30 rfl dX7_singersIn_29 rfl 0 rfl ?_
    refine sm_iconst (x := (1 : Int32)) hG 31 rfl dX7_singersIn_30 rfl ?_
    refine sm_callV hG (fun (q : Int32 × mM) => (some (Value.int q.1), q.2)) 0 [.int (1 : Int32)] 34 rfl (okm hM (by decide)) (me_0 hM _) (ci := 7) rfl (fun r_ hr_ => c_X7_refuses hM   hr_) gX7_singersIn_X7_refuses rfl (by decide) (by decide) (n := 1) rfl (Nat.le_of_ble_eq_true rfl) (by decide) ⟨Nat.zero_le _, Nat.zero_le _⟩ rfl dX7_singersIn_31 (fun r_31 => ?_)
    exact sm_iret hG hT ⟨Nat.zero_le _, Nat.zero_le _⟩ dX7_singersIn_34 rfl
  · refine sm_aload_n hG 1 rfl dX7_singersIn_0 rfl 0 rfl ?_
    refine sm_iconst (x := (0 : Int32)) hG 2 rfl dX7_singersIn_1 rfl ?_
    refine pM0_12 hG hM  5 rfl u7 f40 dX7_singersIn_2 ?_
    refine sm_nmv (fun w2_1 => ?_)
    refine sm_aload_n hG 6 rfl dX7_singersIn_5 rfl 0 rfl ?_
    refine sm_iload_n hG 7 rfl dX7_singersIn_6 rfl 1 rfl ?_
    refine sm_callV hG (fun (q : Int32) => (some (Value.int q), w2_1)) 0 [.int x1] 10 rfl (okm hM (by decide)) (me_0 hM _) (ci := 7) rfl (fun r_ hr_ => c_X7_isFeast hM   hr_) gX7_singersIn_X7_isFeast rfl (by decide) (by decide) (n := 1) rfl (Nat.le_of_ble_eq_true rfl) (by decide) ⟨Nat.zero_le _, Nat.zero_le _⟩ rfl dX7_singersIn_7 (fun r_7 => ?_)
    refine sm_if_eq hG 29 13 rfl dX7_singersIn_10 (by decide) ?_ ?_
    · refine sm_loc [0] [(0, .ref (Λ.2.2.2.1 0))] rfl ?_
      exact hj29 _
    · refine sm_iload_n hG 14 rfl dX7_singersIn_13 rfl 2 rfl ?_
      refine sm_callS hG (fun (q : Int32) => (some (Value.int q), w2_1)) [.int x2] 17 rfl (fun r_ hr_ => c_X7_isLine hM   hr_) gX7_singersIn_X7_isLine rfl (by decide) (by decide) (n := 1) rfl (Nat.le_of_ble_eq_true rfl) (by decide) ⟨Nat.zero_le _, Nat.zero_le _⟩ rfl dX7_singersIn_14 (fun r_14 => ?_)
      refine sm_if_eq hG 29 20 rfl dX7_singersIn_17 (by decide) ?_ ?_
      · refine sm_loc [0] [(0, .ref (Λ.2.2.2.1 0))] rfl ?_
        exact hj29 _
      · refine sm_aload_n hG 21 rfl dX7_singersIn_20 rfl 0 rfl ?_
        refine sm_iload_n hG 22 rfl dX7_singersIn_21 rfl 1 rfl ?_
        refine sm_iload_n hG 23 rfl dX7_singersIn_22 rfl 2 rfl ?_
        refine sm_callV hG (fun (q : Int32 × mM) => (some (Value.int q.1), q.2)) 0 [.int x1, .int x2] 26 rfl (okm hM (by decide)) (me_0 hM _) (ci := 7) rfl (fun r_ hr_ => c_X7_inLine hM   hr_) gX7_singersIn_X7_inLine rfl (by decide) (by decide) (n := 2) rfl (Nat.le_of_ble_eq_true rfl) (by decide) ⟨Nat.zero_le _, Nat.zero_le _⟩ rfl dX7_singersIn_23 (fun r_23 => ?_)
        refine sm_goto hG 34 dX7_singersIn_26 (by decide) ?_
        exact sm_iret hG hT ⟨Nat.zero_le _, Nat.zero_le _⟩ dX7_singersIn_34 rfl
abbrev rmX7_shortfall : Room := { frames := 8, cells := 0, slots := 0, locals := 190 }
set_option maxRecDepth 100000 in
set_option maxHeartbeats 4000000 in
theorem c_X7_shortfall {Λ : jL Nat} (hM : LM Λ) {x1 : Int32}  {l : Launch} {v : mM} {r : (Int32 × mM)} (hr_ : f_X7_shortfall x1 v = some r) : Ct l yX7_shortfall wsX7_shortfall rmX7_shortfall Λ [.ref (Λ.2.2.2.1 0), .int x1] v (some (.int r.1)) r.2 := by
  refine ct_of (cc := cX7_shortfall) (maxL := 2) (ret := (some .int)) (fun (q : Int32 × mM) => (some (Value.int q.1), q.2)) hM.1 hr_ (by decide) rfl (Nat.le_of_ble_eq_true rfl) (fun Γ hG hT hN hl => ?_)
  subst hl
  have f40 : Cond.fieldLink RX7 40 "ChoirRegisterModel" "thrown" "I" ∈ wsX7_shortfall := by decide +kernel
  have u7 : ∀ w ∈ wsX70, w ∈ wsX7_shortfall := by decide +kernel
  show Sm Γ Λ (0, 0) 0 [(0, .ref (Λ.2.2.2.1 0)), (1, .int x1)] [] v _
  unfold f_X7_shortfall
  refine sm_aload_n hG 1 rfl dX7_shortfall_0 rfl 0 rfl ?_
  refine sm_iconst (x := (0 : Int32)) hG 2 rfl dX7_shortfall_1 rfl ?_
  refine pM0_12 hG hM  5 rfl u7 f40 dX7_shortfall_2 ?_
  refine sm_nmv (fun w2_1 => ?_)
  refine sm_aload_n hG 6 rfl dX7_shortfall_5 rfl 0 rfl ?_
  refine sm_iload_n hG 7 rfl dX7_shortfall_6 rfl 1 rfl ?_
  refine sm_callV hG (fun (q : Int32) => (some (Value.int q), w2_1)) 0 [.int x1] 10 rfl (okm hM (by decide)) (me_0 hM _) (ci := 7) rfl (fun r_ hr_ => c_X7_isFeast hM   hr_) gX7_shortfall_X7_isFeast rfl (by decide) (by decide) (n := 1) rfl (Nat.le_of_ble_eq_true rfl) (by decide) ⟨Nat.zero_le _, Nat.zero_le _⟩ rfl dX7_shortfall_7 (fun r_7 => ?_)
  refine sm_if_eq hG 27 13 rfl dX7_shortfall_10 (by decide) ?_ ?_
  · refine sm_aload_n hG 28 rfl dX7_shortfall_27 rfl 0 rfl ?_
    refine sm_iconst (x := (1 : Int32)) hG 29 rfl dX7_shortfall_28 rfl ?_
    refine sm_callV hG (fun (q : Int32 × mM) => (some (Value.int q.1), q.2)) 0 [.int (1 : Int32)] 32 rfl (okm hM (by decide)) (me_0 hM _) (ci := 7) rfl (fun r_ hr_ => c_X7_refuses hM   hr_) gX7_shortfall_X7_refuses rfl (by decide) (by decide) (n := 1) rfl (Nat.le_of_ble_eq_true rfl) (by decide) ⟨Nat.zero_le _, Nat.zero_le _⟩ rfl dX7_shortfall_29 (fun r_29 => ?_)
    exact sm_iret hG hT ⟨Nat.zero_le _, Nat.zero_le _⟩ dX7_shortfall_32 rfl
  · refine sm_aload_n hG 14 rfl dX7_shortfall_13 rfl 0 rfl ?_
    refine sm_iload_n hG 15 rfl dX7_shortfall_14 rfl 1 rfl ?_
    refine sm_callV hG (fun (q : Int32) => (some (Value.int q), w2_1)) 0 [.int x1] 18 rfl (okm hM (by decide)) (me_0 hM _) (ci := 7) rfl (fun r_ hr_ => c_X7_allPlaces hM   hr_) gX7_shortfall_X7_allPlaces rfl (by decide) (by decide) (n := 1) rfl (Nat.le_of_ble_eq_true rfl) (by decide) ⟨Nat.zero_le _, Nat.zero_le _⟩ rfl dX7_shortfall_15 (fun r_15 => ?_)
    refine sm_aload_n hG 19 rfl dX7_shortfall_18 rfl 0 rfl ?_
    refine sm_iload_n hG 20 rfl dX7_shortfall_19 rfl 1 rfl ?_
    refine sm_callV hG (fun (q : Int32 × mM) => (some (Value.int q.1), q.2)) 0 [.int x1] 23 rfl (okm hM (by decide)) (me_0 hM _) (ci := 7) rfl (fun r_ hr_ => c_X7_tells hM   hr_) gX7_shortfall_X7_tells rfl (by decide) (by decide) (n := 1) rfl (Nat.le_of_ble_eq_true rfl) (by decide) ⟨Nat.zero_le _, Nat.zero_le _⟩ rfl dX7_shortfall_20 (fun r_20 => ?_)
    refine sm_isub hG 24 rfl dX7_shortfall_23 ?_
    refine sm_goto hG 32 dX7_shortfall_24 (by decide) ?_
    exact sm_iret hG hT ⟨Nat.zero_le _, Nat.zero_le _⟩ dX7_shortfall_32 rfl
abbrev rmX7_toCome : Room := { frames := 2, cells := 0, slots := 0, locals := 43 }
set_option maxRecDepth 100000 in
set_option maxHeartbeats 4000000 in
theorem c_X7_toCome {Λ : jL Nat} (hM : LM Λ) {x1 : Int32}  {l : Launch} {v : mM} {r : Int32} (hr_ : f_X7_toCome x1 v = some r) : Ct l yX7_toCome wsX7_toCome rmX7_toCome Λ [.ref (Λ.2.2.2.1 0), .int x1] v (some (.int r)) v := by
  refine ct_of (cc := cX7_toCome) (maxL := 2) (ret := (some .int)) (fun (q : Int32) => (some (Value.int q), v)) hM.1 hr_ (by decide) rfl (Nat.le_of_ble_eq_true rfl) (fun Γ hG hT hN hl => ?_)
  subst hl
  show Sm Γ Λ (0, 0) 0 [(0, .ref (Λ.2.2.2.1 0)), (1, .int x1)] [] v _
  unfold f_X7_toCome
  refine sm_aload_n hG 1 rfl dX7_toCome_0 rfl 0 rfl ?_
  refine sm_iload_n hG 2 rfl dX7_toCome_1 rfl 1 rfl ?_
  refine sm_callV hG (fun (q : Int32) => (some (Value.int q), v)) 0 [.int x1] 5 rfl (okm hM (by decide)) (me_0 hM _) (ci := 7) rfl (fun r_ hr_ => c_X7_isFeast hM   hr_) gX7_toCome_X7_isFeast rfl (by decide) (by decide) (n := 1) rfl (Nat.le_of_ble_eq_true rfl) (by decide) ⟨Nat.zero_le _, Nat.zero_le _⟩ rfl dX7_toCome_2 (fun r_2 => ?_)
  refine sm_if_ne hG 12 8 rfl dX7_toCome_5 (by decide) ?_ ?_
  · refine sm_aload_n hG 13 rfl dX7_toCome_12 rfl 0 rfl ?_
    refine sm_iload_n hG 14 rfl dX7_toCome_13 rfl 1 rfl ?_
    refine sm_callV hG (fun (q : Int32) => (some (Value.int q), v)) 0 [.int x1] 17 rfl (okm hM (by decide)) (me_0 hM _) (ci := 7) rfl (fun r_ hr_ => c_X7_held hM   hr_) gX7_toCome_X7_held rfl (by decide) (by decide) (n := 1) rfl (Nat.le_of_ble_eq_true rfl) (by decide) ⟨Nat.zero_le _, Nat.zero_le _⟩ rfl dX7_toCome_14 (fun r_14 => ?_)
    refine sm_if_eq hG 24 20 rfl dX7_toCome_17 (by decide) ?_ ?_
    · refine sm_iconst (x := (0 : Int32)) hG 25 rfl dX7_toCome_24 rfl ?_
      exact sm_iret hG hT ⟨Nat.zero_le _, Nat.zero_le _⟩ dX7_toCome_25 rfl
    · refine sm_iconst (x := (2 : Int32)) hG 21 rfl dX7_toCome_20 rfl ?_
      refine sm_goto hG 25 dX7_toCome_21 (by decide) ?_
      exact sm_iret hG hT ⟨Nat.zero_le _, Nat.zero_le _⟩ dX7_toCome_25 rfl
  · refine sm_iconst (x := (1 : Int32)) hG 9 rfl dX7_toCome_8 rfl ?_
    refine sm_goto hG 25 dX7_toCome_9 (by decide) ?_
    exact sm_iret hG hT ⟨Nat.zero_le _, Nat.zero_le _⟩ dX7_toCome_25 rfl
abbrev rmX7_missing : Room := { frames := 6, cells := 0, slots := 0, locals := 140 }
set_option maxRecDepth 100000 in
set_option maxHeartbeats 4000000 in
theorem c_X7_missing {Λ : jL Nat} (hM : LM Λ) {x1 : Int32}  {l : Launch} {v : mM} {r : (Int32 × mM)} (hr_ : f_X7_missing x1 v = some r) : Ct l yX7_missing wsX7_missing rmX7_missing Λ [.ref (Λ.2.2.2.1 0), .int x1] v (some (.int r.1)) r.2 := by
  refine ct_of (cc := cX7_missing) (maxL := 2) (ret := (some .int)) (fun (q : Int32 × mM) => (some (Value.int q.1), q.2)) hM.1 hr_ (by decide) rfl (Nat.le_of_ble_eq_true rfl) (fun Γ hG hT hN hl => ?_)
  subst hl
  show Sm Γ Λ (0, 0) 0 [(0, .ref (Λ.2.2.2.1 0)), (1, .int x1)] [] v _
  unfold f_X7_missing
  refine sm_aload_n hG 1 rfl dX7_missing_0 rfl 0 rfl ?_
  refine sm_iload_n hG 2 rfl dX7_missing_1 rfl 1 rfl ?_
  refine sm_callV hG (fun (w : mM) => ((none : Option Value), w)) 0 [.int x1] 5 rfl (okm hM (by decide)) (me_0 hM _) (ci := 7) rfl (fun r_ hr_ => c_X7_counts hM   hr_) gX7_missing_X7_counts rfl (by decide) (by decide) (n := 1) rfl (Nat.le_of_ble_eq_true rfl) (by decide) ⟨Nat.zero_le _, Nat.zero_le _⟩ rfl dX7_missing_2 (fun r_2 => ?_)
  refine sm_aload_n hG 6 rfl dX7_missing_5 rfl 0 rfl ?_
  refine sm_iload_n hG 7 rfl dX7_missing_6 rfl 1 rfl ?_
  refine sm_callV hG (fun (q : Int32) => (some (Value.int q), r_2)) 0 [.int x1] 10 rfl (okm hM (by decide)) (me_0 hM _) (ci := 7) rfl (fun r_ hr_ => c_X7_allPlaces hM   hr_) gX7_missing_X7_allPlaces rfl (by decide) (by decide) (n := 1) rfl (Nat.le_of_ble_eq_true rfl) (by decide) ⟨Nat.zero_le _, Nat.zero_le _⟩ rfl dX7_missing_7 (fun r_7 => ?_)
  refine sm_aload_n hG 11 rfl dX7_missing_10 rfl 0 rfl ?_
  refine sm_callV hG (fun (q : Int32) => (some (Value.int q), r_2)) 0 [] 14 rfl (okm hM (by decide)) (me_0 hM _) (ci := 7) rfl (fun r_ hr_ => c_X7_fillable hM   hr_) gX7_missing_X7_fillable rfl (by decide) (by decide) (n := 0) rfl (Nat.le_of_ble_eq_true rfl) (by decide) ⟨Nat.zero_le _, Nat.zero_le _⟩ rfl dX7_missing_11 (fun r_11 => ?_)
  refine sm_isub hG 15 rfl dX7_missing_14 ?_
  exact sm_iret hG hT ⟨Nat.zero_le _, Nat.zero_le _⟩ dX7_missing_15 rfl
abbrev rmX7_shortfallBySets : Room := { frames := 7, cells := 0, slots := 0, locals := 161 }
set_option maxRecDepth 100000 in
set_option maxHeartbeats 4000000 in
theorem c_X7_shortfallBySets {Λ : jL Nat} (hM : LM Λ) {x1 : Int32}  {l : Launch} {v : mM} {r : (Int32 × mM)} (hr_ : f_X7_shortfallBySets x1 v = some r) : Ct l yX7_shortfallBySets wsX7_shortfallBySets rmX7_shortfallBySets Λ [.ref (Λ.2.2.2.1 0), .int x1] v (some (.int r.1)) r.2 := by
  refine ct_of (cc := cX7_shortfallBySets) (maxL := 2) (ret := (some .int)) (fun (q : Int32 × mM) => (some (Value.int q.1), q.2)) hM.1 hr_ (by decide) rfl (Nat.le_of_ble_eq_true rfl) (fun Γ hG hT hN hl => ?_)
  subst hl
  have f40 : Cond.fieldLink RX7 40 "ChoirRegisterModel" "thrown" "I" ∈ wsX7_shortfallBySets := by decide +kernel
  have u7 : ∀ w ∈ wsX70, w ∈ wsX7_shortfallBySets := by decide +kernel
  show Sm Γ Λ (0, 0) 0 [(0, .ref (Λ.2.2.2.1 0)), (1, .int x1)] [] v _
  unfold f_X7_shortfallBySets
  refine sm_aload_n hG 1 rfl dX7_shortfallBySets_0 rfl 0 rfl ?_
  refine sm_iconst (x := (0 : Int32)) hG 2 rfl dX7_shortfallBySets_1 rfl ?_
  refine pM0_12 hG hM  5 rfl u7 f40 dX7_shortfallBySets_2 ?_
  refine sm_nmv (fun w2_1 => ?_)
  refine sm_aload_n hG 6 rfl dX7_shortfallBySets_5 rfl 0 rfl ?_
  refine sm_iload_n hG 7 rfl dX7_shortfallBySets_6 rfl 1 rfl ?_
  refine sm_callV hG (fun (q : Int32) => (some (Value.int q), w2_1)) 0 [.int x1] 10 rfl (okm hM (by decide)) (me_0 hM _) (ci := 7) rfl (fun r_ hr_ => c_X7_toCome hM   hr_) gX7_shortfallBySets_X7_toCome rfl (by decide) (by decide) (n := 1) rfl (Nat.le_of_ble_eq_true rfl) (by decide) ⟨Nat.zero_le _, Nat.zero_le _⟩ rfl dX7_shortfallBySets_7 (fun r_7 => ?_)
  refine sm_if_ne hG 21 13 rfl dX7_shortfallBySets_10 (by decide) ?_ ?_
  · refine sm_aload_n hG 22 rfl dX7_shortfallBySets_21 rfl 0 rfl ?_
    refine sm_aload_n hG 23 rfl dX7_shortfallBySets_22 rfl 0 rfl ?_
    refine sm_iload_n hG 24 rfl dX7_shortfallBySets_23 rfl 1 rfl ?_
    refine sm_callV hG (fun (q : Int32) => (some (Value.int q), w2_1)) 0 [.int x1] 27 rfl (okm hM (by decide)) (me_0 hM _) (ci := 7) rfl (fun r_ hr_ => c_X7_toCome hM   hr_) gX7_shortfallBySets_X7_toCome rfl (by decide) (by decide) (n := 1) rfl (Nat.le_of_ble_eq_true rfl) (by decide) ⟨Nat.zero_le _, Nat.zero_le _⟩ rfl dX7_shortfallBySets_24 (fun r_24 => ?_)
    refine sm_callV hG (fun (q : Int32 × mM) => (some (Value.int q.1), q.2)) 0 [.int r_24] 30 rfl (okm hM (by decide)) (me_0 hM _) (ci := 7) rfl (fun r_ hr_ => c_X7_refuses hM   hr_) gX7_shortfallBySets_X7_refuses rfl (by decide) (by decide) (n := 1) rfl (Nat.le_of_ble_eq_true rfl) (by decide) ⟨Nat.zero_le _, Nat.zero_le _⟩ rfl dX7_shortfallBySets_27 (fun r_27 => ?_)
    exact sm_iret hG hT ⟨Nat.zero_le _, Nat.zero_le _⟩ dX7_shortfallBySets_30 rfl
  · refine sm_aload_n hG 14 rfl dX7_shortfallBySets_13 rfl 0 rfl ?_
    refine sm_iload_n hG 15 rfl dX7_shortfallBySets_14 rfl 1 rfl ?_
    refine sm_callV hG (fun (q : Int32 × mM) => (some (Value.int q.1), q.2)) 0 [.int x1] 18 rfl (okm hM (by decide)) (me_0 hM _) (ci := 7) rfl (fun r_ hr_ => c_X7_missing hM   hr_) gX7_shortfallBySets_X7_missing rfl (by decide) (by decide) (n := 1) rfl (Nat.le_of_ble_eq_true rfl) (by decide) ⟨Nat.zero_le _, Nat.zero_le _⟩ rfl dX7_shortfallBySets_15 (fun r_15 => ?_)
    refine sm_goto hG 30 dX7_shortfallBySets_18 (by decide) ?_
    exact sm_iret hG hT ⟨Nat.zero_le _, Nat.zero_le _⟩ dX7_shortfallBySets_30 rfl
abbrev rmX7_needed : Room := { frames := 7, cells := 0, slots := 0, locals := 161 }
set_option maxRecDepth 100000 in
set_option maxHeartbeats 4000000 in
theorem c_X7_needed {Λ : jL Nat} (hM : LM Λ) {x1 : Int32}  {l : Launch} {v : mM} {r : (Int32 × mM)} (hr_ : f_X7_needed x1 v = some r) : Ct l yX7_needed wsX7_needed rmX7_needed Λ [.ref (Λ.2.2.2.1 0), .int x1] v (some (.int r.1)) r.2 := by
  refine ct_of (cc := cX7_needed) (maxL := 5) (ret := (some .int)) (fun (q : Int32 × mM) => (some (Value.int q.1), q.2)) hM.1 hr_ (by decide) rfl (Nat.le_of_ble_eq_true rfl) (fun Γ hG hT hN hl => ?_)
  subst hl
  have f25 : Cond.fieldLink RX7 25 "ChoirRegisterModel" "open" "[I" ∈ wsX7_needed := by decide +kernel
  have u7 : ∀ w ∈ wsX70, w ∈ wsX7_needed := by decide +kernel
  show Sm Γ Λ (0, 0) 0 [(0, .ref (Λ.2.2.2.1 0)), (1, .int x1)] [] v _
  unfold f_X7_needed
  refine sm_aload_n hG 1 rfl dX7_needed_0 rfl 0 rfl ?_
  refine sm_iload_n hG 2 rfl dX7_needed_1 rfl 1 rfl ?_
  refine sm_callV hG (fun (q : Int32 × mM) => (some (Value.int q.1), q.2)) 0 [.int x1] 5 rfl (okm hM (by decide)) (me_0 hM _) (ci := 7) rfl (fun r_ hr_ => c_X7_missing hM   hr_) gX7_needed_X7_missing rfl (by decide) (by decide) (n := 1) rfl (Nat.le_of_ble_eq_true rfl) (by decide) ⟨Nat.zero_le _, Nat.zero_le _⟩ rfl dX7_needed_2 (fun r_2 => ?_)
  refine sm_istore_n hG 6 rfl dX7_needed_5 rfl (jlt hN rfl) [(2, .int r_2.1), (0, .ref (Λ.2.2.2.1 0)), (1, .int x1)] rfl ?_
  refine sm_iconst (x := (-1 : Int32)) hG 7 rfl dX7_needed_6 rfl ?_
  refine sm_istore_n hG 8 rfl dX7_needed_7 rfl (jlt hN rfl) [(3, .int (-1 : Int32)), (2, .int r_2.1), (0, .ref (Λ.2.2.2.1 0)), (1, .int x1)] rfl ?_
  refine sm_iconst (x := (3 : Int32)) hG 9 rfl dX7_needed_8 rfl ?_
  refine sm_istore hG 11 rfl dX7_needed_9 (jlt hN rfl) [(4, .int (3 : Int32)), (3, .int (-1 : Int32)), (2, .int r_2.1), (0, .ref (Λ.2.2.2.1 0)), (1, .int x1)] rfl ?_
  refine sm_loc [3, 4, 2, 1, 0] [(0, .ref (Λ.2.2.2.1 0)), (1, .int x1), (2, .int r_2.1), (3, .int (-1 : Int32)), (4, .int (3 : Int32))] rfl ?_
  refine lp_ind (fun (X11 : Int32 → Int32 → mM → Option (Int32 × mM)) => ∀ (x3_11 : Int32) (x4_11 : Int32) (v_11 : mM), Sm Γ Λ (0, 0) 11 [(0, .ref (Λ.2.2.2.1 0)), (1, .int x1), (2, .int r_2.1), (3, .int x3_11), (4, .int x4_11)] [] v_11 (X11 x3_11 x4_11 v_11)) (fun _ _ _ => sm_none) (fun self11 hs11 x3_11 x4_11 v_11 => ?_) 8192 _ _ _
  refine sm_iload hG 13 rfl dX7_needed_11 4 rfl ?_
  refine sm_if_lt hG 77 16 rfl dX7_needed_13 (by decide) ?_ ?_
  · refine sm_iload_n hG 78 rfl dX7_needed_77 rfl 3 rfl ?_
    exact sm_iret hG hT ⟨Nat.zero_le _, Nat.zero_le _⟩ dX7_needed_78 rfl
  · refine sm_aload_n hG 17 rfl dX7_needed_16 rfl 0 rfl ?_
    refine sm_iload_n hG 18 rfl dX7_needed_17 rfl 1 rfl ?_
    refine sm_iload hG 20 rfl dX7_needed_18 4 rfl ?_
    refine sm_callV hG (fun (q : Int32) => (some (Value.int q), v_11)) 0 [.int x1, .int x4_11] 23 rfl (okm hM (by decide)) (me_0 hM _) (ci := 7) rfl (fun r_ hr_ => c_X7_places hM   hr_) gX7_needed_X7_places rfl (by decide) (by decide) (n := 2) rfl (Nat.le_of_ble_eq_true rfl) (by decide) ⟨Nat.zero_le _, Nat.zero_le _⟩ rfl dX7_needed_20 (fun r_20 => ?_)
    refine sm_if_le hG 71 26 rfl dX7_needed_23 (by decide) ?_ ?_
    · refine sm_iinc hG 74 rfl dX7_needed_71 (j := 4) rfl rfl (jlt hN rfl) [(4, .int (x4_11 + (-1 : Int32))), (0, .ref (Λ.2.2.2.1 0)), (1, .int x1), (2, .int r_2.1), (3, .int x3_11)] rfl ?_
      refine sm_goto hG 11 dX7_needed_74 (by decide) ?_
      refine sm_loc [1, 2, 3, 4, 0] [(0, .ref (Λ.2.2.2.1 0)), (1, .int x1), (2, .int r_2.1), (3, .int x3_11), (4, .int (x4_11 + (-1 : Int32)))] rfl ?_
      exact hs11 _ _ _
    · refine sm_jn (fun (X59 : Int32 → mM → Option (Int32 × mM)) => ∀ (s0_59 : Int32) (v_59 : mM), Sm Γ Λ (0, 0) 59 [(0, .ref (Λ.2.2.2.1 0)), (1, .int x1), (2, .int r_2.1), (4, .int x4_11)] [.int s0_59] v_59 (X59 s0_59 v_59)) (fun s0_59 v_59 => ?_) (fun j59 hj59 => ?_)
      · refine sm_istore_n hG 60 rfl dX7_needed_59 rfl (jlt hN rfl) [(3, .int s0_59), (0, .ref (Λ.2.2.2.1 0)), (1, .int x1), (2, .int r_2.1), (4, .int x4_11)] rfl ?_
        refine sm_aload_n hG 61 rfl dX7_needed_60 rfl 1 rfl ?_
        refine gM0_7 hG hM  64 rfl u7 f25 dX7_needed_61 ?_
        refine sm_iload hG 66 rfl dX7_needed_64 4 rfl ?_
        refine sm_dup2 hG 67 rfl dX7_needed_66 rfl rfl ?_
        refine lA hG (ia_6 hM) 68 rfl dX7_needed_67 ?_
        refine sm_iconst (x := (1 : Int32)) hG 69 rfl dX7_needed_68 rfl ?_
        refine sm_iadd hG 70 rfl dX7_needed_69 ?_
        refine sA hG (ia_6 hM) 71 rfl dX7_needed_70 ?_
        refine sm_nmv (fun w70_2 => ?_)
        refine sm_iinc hG 74 rfl dX7_needed_71 (j := 4) rfl rfl (jlt hN rfl) [(4, .int (x4_11 + (-1 : Int32))), (3, .int s0_59), (0, .ref (Λ.2.2.2.1 0)), (1, .int x1), (2, .int r_2.1)] rfl ?_
        refine sm_goto hG 11 dX7_needed_74 (by decide) ?_
        refine sm_loc [2, 3, 4, 1, 0] [(0, .ref (Λ.2.2.2.1 0)), (1, .int x1), (2, .int r_2.1), (3, .int s0_59), (4, .int (x4_11 + (-1 : Int32)))] rfl ?_
        exact hs11 _ _ _
      · refine sm_aload_n hG 27 rfl dX7_needed_26 rfl 0 rfl ?_
        refine gM0_7 hG hM  30 rfl u7 f25 dX7_needed_27 ?_
        refine sm_iload hG 32 rfl dX7_needed_30 4 rfl ?_
        refine sm_dup2 hG 33 rfl dX7_needed_32 rfl rfl ?_
        refine lA hG (ia_6 hM) 34 rfl dX7_needed_33 ?_
        refine sm_iconst (x := (1 : Int32)) hG 35 rfl dX7_needed_34 rfl ?_
        refine sm_isub hG 36 rfl dX7_needed_35 ?_
        refine sA hG (ia_6 hM) 37 rfl dX7_needed_36 ?_
        refine sm_nmv (fun w36_1 => ?_)
        refine sm_aload_n hG 38 rfl dX7_needed_37 rfl 0 rfl ?_
        refine sm_iload_n hG 39 rfl dX7_needed_38 rfl 1 rfl ?_
        refine sm_callV hG (fun (q : Int32) => (some (Value.int q), w36_1)) 0 [.int x1] 42 rfl (okm hM (by decide)) (me_0 hM _) (ci := 7) rfl (fun r_ hr_ => c_X7_allPlaces hM   hr_) gX7_needed_X7_allPlaces rfl (by decide) (by decide) (n := 1) rfl (Nat.le_of_ble_eq_true rfl) (by decide) ⟨Nat.zero_le _, Nat.zero_le _⟩ rfl dX7_needed_39 (fun r_39 => ?_)
        refine sm_iconst (x := (1 : Int32)) hG 43 rfl dX7_needed_42 rfl ?_
        refine sm_isub hG 44 rfl dX7_needed_43 ?_
        refine sm_aload_n hG 45 rfl dX7_needed_44 rfl 0 rfl ?_
        refine sm_callV hG (fun (q : Int32) => (some (Value.int q), w36_1)) 0 [] 48 rfl (okm hM (by decide)) (me_0 hM _) (ci := 7) rfl (fun r_ hr_ => c_X7_fillable hM   hr_) gX7_needed_X7_fillable rfl (by decide) (by decide) (n := 0) rfl (Nat.le_of_ble_eq_true rfl) (by decide) ⟨Nat.zero_le _, Nat.zero_le _⟩ rfl dX7_needed_45 (fun r_45 => ?_)
        refine sm_isub hG 49 rfl dX7_needed_48 ?_
        refine sm_iload_n hG 50 rfl dX7_needed_49 rfl 2 rfl ?_
        refine sm_icmp_ge hG 58 53 rfl dX7_needed_50 (by decide) ?_ ?_
        · refine sm_iload_n hG 59 rfl dX7_needed_58 rfl 3 rfl ?_
          refine sm_loc [0, 1, 2, 4] [(0, .ref (Λ.2.2.2.1 0)), (1, .int x1), (2, .int r_2.1), (4, .int x4_11)] rfl ?_
          exact hj59 _ _
        · refine sm_iload hG 55 rfl dX7_needed_53 4 rfl ?_
          refine sm_goto hG 59 dX7_needed_55 (by decide) ?_
          refine sm_loc [0, 1, 2, 4] [(0, .ref (Λ.2.2.2.1 0)), (1, .int x1), (2, .int r_2.1), (4, .int x4_11)] rfl ?_
          exact hj59 _ _
abbrev rmX7_neededLine : Room := { frames := 8, cells := 0, slots := 0, locals := 185 }
set_option maxRecDepth 100000 in
set_option maxHeartbeats 4000000 in
theorem c_X7_neededLine {Λ : jL Nat} (hM : LM Λ) {x1 : Int32}  {l : Launch} {v : mM} {r : (Int32 × mM)} (hr_ : f_X7_neededLine x1 v = some r) : Ct l yX7_neededLine wsX7_neededLine rmX7_neededLine Λ [.ref (Λ.2.2.2.1 0), .int x1] v (some (.int r.1)) r.2 := by
  refine ct_of (cc := cX7_neededLine) (maxL := 2) (ret := (some .int)) (fun (q : Int32 × mM) => (some (Value.int q.1), q.2)) hM.1 hr_ (by decide) rfl (Nat.le_of_ble_eq_true rfl) (fun Γ hG hT hN hl => ?_)
  subst hl
  have f40 : Cond.fieldLink RX7 40 "ChoirRegisterModel" "thrown" "I" ∈ wsX7_neededLine := by decide +kernel
  have u7 : ∀ w ∈ wsX70, w ∈ wsX7_neededLine := by decide +kernel
  show Sm Γ Λ (0, 0) 0 [(0, .ref (Λ.2.2.2.1 0)), (1, .int x1)] [] v _
  unfold f_X7_neededLine
  refine sm_aload_n hG 1 rfl dX7_neededLine_0 rfl 0 rfl ?_
  refine sm_iconst (x := (0 : Int32)) hG 2 rfl dX7_neededLine_1 rfl ?_
  refine pM0_12 hG hM  5 rfl u7 f40 dX7_neededLine_2 ?_
  refine sm_nmv (fun w2_1 => ?_)
  refine sm_aload_n hG 6 rfl dX7_neededLine_5 rfl 0 rfl ?_
  refine sm_iload_n hG 7 rfl dX7_neededLine_6 rfl 1 rfl ?_
  refine sm_callV hG (fun (q : Int32) => (some (Value.int q), w2_1)) 0 [.int x1] 10 rfl (okm hM (by decide)) (me_0 hM _) (ci := 7) rfl (fun r_ hr_ => c_X7_toCome hM   hr_) gX7_neededLine_X7_toCome rfl (by decide) (by decide) (n := 1) rfl (Nat.le_of_ble_eq_true rfl) (by decide) ⟨Nat.zero_le _, Nat.zero_le _⟩ rfl dX7_neededLine_7 (fun r_7 => ?_)
  refine sm_if_ne hG 21 13 rfl dX7_neededLine_10 (by decide) ?_ ?_
  · refine sm_aload_n hG 22 rfl dX7_neededLine_21 rfl 0 rfl ?_
    refine sm_aload_n hG 23 rfl dX7_neededLine_22 rfl 0 rfl ?_
    refine sm_iload_n hG 24 rfl dX7_neededLine_23 rfl 1 rfl ?_
    refine sm_callV hG (fun (q : Int32) => (some (Value.int q), w2_1)) 0 [.int x1] 27 rfl (okm hM (by decide)) (me_0 hM _) (ci := 7) rfl (fun r_ hr_ => c_X7_toCome hM   hr_) gX7_neededLine_X7_toCome rfl (by decide) (by decide) (n := 1) rfl (Nat.le_of_ble_eq_true rfl) (by decide) ⟨Nat.zero_le _, Nat.zero_le _⟩ rfl dX7_neededLine_24 (fun r_24 => ?_)
    refine sm_callV hG (fun (q : Int32 × mM) => (some (Value.int q.1), q.2)) 0 [.int r_24] 30 rfl (okm hM (by decide)) (me_0 hM _) (ci := 7) rfl (fun r_ hr_ => c_X7_refuses hM   hr_) gX7_neededLine_X7_refuses rfl (by decide) (by decide) (n := 1) rfl (Nat.le_of_ble_eq_true rfl) (by decide) ⟨Nat.zero_le _, Nat.zero_le _⟩ rfl dX7_neededLine_27 (fun r_27 => ?_)
    exact sm_iret hG hT ⟨Nat.zero_le _, Nat.zero_le _⟩ dX7_neededLine_30 rfl
  · refine sm_aload_n hG 14 rfl dX7_neededLine_13 rfl 0 rfl ?_
    refine sm_iload_n hG 15 rfl dX7_neededLine_14 rfl 1 rfl ?_
    refine sm_callV hG (fun (q : Int32 × mM) => (some (Value.int q.1), q.2)) 0 [.int x1] 18 rfl (okm hM (by decide)) (me_0 hM _) (ci := 7) rfl (fun r_ hr_ => c_X7_needed hM   hr_) gX7_neededLine_X7_needed rfl (by decide) (by decide) (n := 1) rfl (Nat.le_of_ble_eq_true rfl) (by decide) ⟨Nat.zero_le _, Nat.zero_le _⟩ rfl dX7_neededLine_15 (fun r_15 => ?_)
    refine sm_goto hG 30 dX7_neededLine_18 (by decide) ?_
    exact sm_iret hG hT ⟨Nat.zero_le _, Nat.zero_le _⟩ dX7_neededLine_30 rfl
abbrev rmX7_descantIn : Room := { frames := 8, cells := 0, slots := 0, locals := 191 }
set_option maxRecDepth 100000 in
set_option maxHeartbeats 4000000 in
theorem c_X7_descantIn {Λ : jL Nat} (hM : LM Λ) {x1 : Int32}  {l : Launch} {v : mM} {r : (Int32 × mM)} (hr_ : f_X7_descantIn x1 v = some r) : Ct l yX7_descantIn wsX7_descantIn rmX7_descantIn Λ [.ref (Λ.2.2.2.1 0), .int x1] v (some (.int r.1)) r.2 := by
  refine ct_of (cc := cX7_descantIn) (maxL := 2) (ret := (some .int)) (fun (q : Int32 × mM) => (some (Value.int q.1), q.2)) hM.1 hr_ (by decide) rfl (Nat.le_of_ble_eq_true rfl) (fun Γ hG hT hN hl => ?_)
  subst hl
  have f40 : Cond.fieldLink RX7 40 "ChoirRegisterModel" "thrown" "I" ∈ wsX7_descantIn := by decide +kernel
  have f7 : Cond.fieldLink RX7 7 "ChoirRegisterModel" "now" "[I" ∈ wsX7_descantIn := by decide +kernel
  have u7 : ∀ w ∈ wsX70, w ∈ wsX7_descantIn := by decide +kernel
  show Sm Γ Λ (0, 0) 0 [(0, .ref (Λ.2.2.2.1 0)), (1, .int x1)] [] v _
  unfold f_X7_descantIn
  refine sm_aload_n hG 1 rfl dX7_descantIn_0 rfl 0 rfl ?_
  refine sm_iconst (x := (0 : Int32)) hG 2 rfl dX7_descantIn_1 rfl ?_
  refine pM0_12 hG hM  5 rfl u7 f40 dX7_descantIn_2 ?_
  refine sm_nmv (fun w2_1 => ?_)
  refine sm_aload_n hG 6 rfl dX7_descantIn_5 rfl 0 rfl ?_
  refine sm_iload_n hG 7 rfl dX7_descantIn_6 rfl 1 rfl ?_
  refine sm_callV hG (fun (q : Int32) => (some (Value.int q), w2_1)) 0 [.int x1] 10 rfl (okm hM (by decide)) (me_0 hM _) (ci := 7) rfl (fun r_ hr_ => c_X7_isFeast hM   hr_) gX7_descantIn_X7_isFeast rfl (by decide) (by decide) (n := 1) rfl (Nat.le_of_ble_eq_true rfl) (by decide) ⟨Nat.zero_le _, Nat.zero_le _⟩ rfl dX7_descantIn_7 (fun r_7 => ?_)
  refine sm_if_ne hG 19 13 rfl dX7_descantIn_10 (by decide) ?_ ?_
  · refine sm_aload_n hG 20 rfl dX7_descantIn_19 rfl 0 rfl ?_
    refine sm_iload_n hG 21 rfl dX7_descantIn_20 rfl 1 rfl ?_
    refine sm_callV hG (fun (q : Int32) => (some (Value.int q), w2_1)) 0 [.int x1] 24 rfl (okm hM (by decide)) (me_0 hM _) (ci := 7) rfl (fun r_ hr_ => c_X7_held hM   hr_) gX7_descantIn_X7_held rfl (by decide) (by decide) (n := 1) rfl (Nat.le_of_ble_eq_true rfl) (by decide) ⟨Nat.zero_le _, Nat.zero_le _⟩ rfl dX7_descantIn_21 (fun r_21 => ?_)
    refine sm_if_eq hG 46 27 rfl dX7_descantIn_24 (by decide) ?_ ?_
    · refine sm_aload_n hG 47 rfl dX7_descantIn_46 rfl 0 rfl ?_
      refine sm_iload_n hG 48 rfl dX7_descantIn_47 rfl 1 rfl ?_
      refine sm_callV hG (fun (q : Int32 × mM) => (some (Value.int q.1), q.2)) 0 [.int x1] 51 rfl (okm hM (by decide)) (me_0 hM _) (ci := 7) rfl (fun r_ hr_ => c_X7_descantToCome hM   hr_) gX7_descantIn_X7_descantToCome rfl (by decide) (by decide) (n := 1) rfl (Nat.le_of_ble_eq_true rfl) (by decide) ⟨Nat.zero_le _, Nat.zero_le _⟩ rfl dX7_descantIn_48 (fun r_48 => ?_)
      exact sm_iret hG hT ⟨Nat.zero_le _, Nat.zero_le _⟩ dX7_descantIn_51 rfl
    · refine sm_aload_n hG 28 rfl dX7_descantIn_27 rfl 0 rfl ?_
      refine gM0_0 hG hM  31 rfl u7 f7 dX7_descantIn_28 ?_
      refine sm_sipush (x := (583 : Int32)) hG 34 rfl dX7_descantIn_31 rfl ?_
      refine sm_bipush (x := (45 : Int32)) hG 36 rfl dX7_descantIn_34 rfl ?_
      refine sm_iload_n hG 37 rfl dX7_descantIn_36 rfl 1 rfl ?_
      refine sm_imul hG 38 rfl dX7_descantIn_37 ?_
      refine sm_iadd hG 39 rfl dX7_descantIn_38 ?_
      refine sm_bipush (x := (14 : Int32)) hG 41 rfl dX7_descantIn_39 rfl ?_
      refine sm_iadd hG 42 rfl dX7_descantIn_41 ?_
      refine sm_nmi (fun y41_2 => ?_)
      refine lA hG (ia_1 hM) 43 rfl dX7_descantIn_42 ?_
      refine sm_goto hG 51 dX7_descantIn_43 (by decide) ?_
      exact sm_iret hG hT ⟨Nat.zero_le _, Nat.zero_le _⟩ dX7_descantIn_51 rfl
  · refine sm_aload_n hG 14 rfl dX7_descantIn_13 rfl 0 rfl ?_
    refine sm_iconst (x := (1 : Int32)) hG 15 rfl dX7_descantIn_14 rfl ?_
    refine sm_callV hG (fun (q : Int32 × mM) => (some (Value.int q.1), q.2)) 0 [.int (1 : Int32)] 18 rfl (okm hM (by decide)) (me_0 hM _) (ci := 7) rfl (fun r_ hr_ => c_X7_refuses hM   hr_) gX7_descantIn_X7_refuses rfl (by decide) (by decide) (n := 1) rfl (Nat.le_of_ble_eq_true rfl) (by decide) ⟨Nat.zero_le _, Nat.zero_le _⟩ rfl dX7_descantIn_15 (fun r_15 => ?_)
    exact sm_iret hG hT ⟨Nat.zero_le _, Nat.zero_le _⟩ dX7_descantIn_18 rfl
abbrev rmX7_ahead : Room := { frames := 8, cells := 0, slots := 0, locals := 190 }
set_option maxRecDepth 100000 in
set_option maxHeartbeats 4000000 in
theorem c_X7_ahead {Λ : jL Nat} (hM : LM Λ) {x1 : Int32} {x2 : Int32}  {l : Launch} {v : mM} {r : (Int32 × mM)} (hr_ : f_X7_ahead x1 x2 v = some r) : Ct l yX7_ahead wsX7_ahead rmX7_ahead Λ [.ref (Λ.2.2.2.1 0), .int x1, .int x2] v (some (.int r.1)) r.2 := by
  refine ct_of (cc := cX7_ahead) (maxL := 6) (ret := (some .int)) (fun (q : Int32 × mM) => (some (Value.int q.1), q.2)) hM.1 hr_ (by decide) rfl (Nat.le_of_ble_eq_true rfl) (fun Γ hG hT hN hl => ?_)
  subst hl
  have f22 : Cond.fieldLink RX7 22 "ChoirRegisterModel" "lineup" "[I" ∈ wsX7_ahead := by decide +kernel
  have f7 : Cond.fieldLink RX7 7 "ChoirRegisterModel" "now" "[I" ∈ wsX7_ahead := by decide +kernel
  have u7 : ∀ w ∈ wsX70, w ∈ wsX7_ahead := by decide +kernel
  show Sm Γ Λ (0, 0) 0 [(0, .ref (Λ.2.2.2.1 0)), (1, .int x1), (2, .int x2)] [] v _
  unfold f_X7_ahead
  refine sm_aload_n hG 1 rfl dX7_ahead_0 rfl 0 rfl ?_
  refine sm_iload_n hG 2 rfl dX7_ahead_1 rfl 1 rfl ?_
  refine sm_callV hG (fun (q : Int32 × mM) => (some (Value.int q.1), q.2)) 0 [.int x1] 5 rfl (okm hM (by decide)) (me_0 hM _) (ci := 7) rfl (fun r_ hr_ => c_X7_tells hM   hr_) gX7_ahead_X7_tells rfl (by decide) (by decide) (n := 1) rfl (Nat.le_of_ble_eq_true rfl) (by decide) ⟨Nat.zero_le _, Nat.zero_le _⟩ rfl dX7_ahead_2 (fun r_2 => ?_)
  refine sm_if_lt hG 18 8 rfl dX7_ahead_5 (by decide) ?_ ?_
  · refine sm_iconst (x := (-1 : Int32)) hG 19 rfl dX7_ahead_18 rfl ?_
    exact sm_iret hG hT ⟨Nat.zero_le _, Nat.zero_le _⟩ dX7_ahead_19 rfl
  · refine sm_aload_n hG 9 rfl dX7_ahead_8 rfl 0 rfl ?_
    refine gM0_6 hG hM  12 rfl u7 f22 dX7_ahead_9 ?_
    refine sm_iload_n hG 13 rfl dX7_ahead_12 rfl 2 rfl ?_
    refine lA hG (ia_5 hM) 14 rfl dX7_ahead_13 ?_
    refine sm_iconst (x := (-1 : Int32)) hG 15 rfl dX7_ahead_14 rfl ?_
    refine sm_icmp_ne hG 20 18 rfl dX7_ahead_15 (by decide) ?_ ?_
    · refine sm_iconst (x := (0 : Int32)) hG 21 rfl dX7_ahead_20 rfl ?_
      refine sm_istore_n hG 22 rfl dX7_ahead_21 rfl (jlt hN rfl) [(3, .int (0 : Int32)), (0, .ref (Λ.2.2.2.1 0)), (1, .int x1), (2, .int x2)] rfl ?_
      refine sm_iconst (x := (0 : Int32)) hG 23 rfl dX7_ahead_22 rfl ?_
      refine sm_istore hG 25 rfl dX7_ahead_23 (jlt hN rfl) [(4, .int (0 : Int32)), (3, .int (0 : Int32)), (0, .ref (Λ.2.2.2.1 0)), (1, .int x1), (2, .int x2)] rfl ?_
      refine sm_loc [2, 4, 1, 0] [(0, .ref (Λ.2.2.2.1 0)), (2, .int x2), (3, .int (0 : Int32)), (4, .int (0 : Int32))] rfl ?_
      refine lp_ind (fun (X25 : Int32 → Int32 → Option (Int32 × mM)) => ∀ (x3_25 : Int32) (x4_25 : Int32), Sm Γ Λ (0, 0) 25 [(0, .ref (Λ.2.2.2.1 0)), (2, .int x2), (3, .int x3_25), (4, .int x4_25)] [] r_2.2 (X25 x3_25 x4_25)) (fun _ _ => sm_none) (fun self25 hs25 x3_25 x4_25 => ?_) 8192 _ _
      refine sm_iload hG 27 rfl dX7_ahead_25 3 rfl ?_
      refine sm_aload_n hG 28 rfl dX7_ahead_27 rfl 0 rfl ?_
      refine gM0_0 hG hM  31 rfl u7 f7 dX7_ahead_28 ?_
      refine sm_iconst (x := (1 : Int32)) hG 32 rfl dX7_ahead_31 rfl ?_
      refine lA hG (ia_1 hM) 33 rfl dX7_ahead_32 ?_
      refine sm_icmp_ge hG 98 36 rfl dX7_ahead_33 (by decide) ?_ ?_
      · refine sm_iload_n hG 99 rfl dX7_ahead_98 rfl 2 rfl ?_
        exact sm_iret hG hT ⟨Nat.zero_le _, Nat.zero_le _⟩ dX7_ahead_99 rfl
      · refine sm_aload_n hG 37 rfl dX7_ahead_36 rfl 0 rfl ?_
        refine sm_iload_n hG 38 rfl dX7_ahead_37 rfl 1 rfl ?_
        refine sm_iconst (x := (3 : Int32)) hG 39 rfl dX7_ahead_38 rfl ?_
        refine sm_callV hG (fun (q : Int32) => (some (Value.int q), r_2.2)) 0 [.int x2, .int (3 : Int32)] 42 rfl (okm hM (by decide)) (me_0 hM _) (ci := 7) rfl (fun r_ hr_ => c_X7_its hM   hr_) gX7_ahead_X7_its rfl (by decide) (by decide) (n := 2) rfl (Nat.le_of_ble_eq_true rfl) (by decide) ⟨Nat.zero_le _, Nat.zero_le _⟩ rfl dX7_ahead_39 (fun r_39 => ?_)
        refine sm_aload_n hG 43 rfl dX7_ahead_42 rfl 0 rfl ?_
        refine sm_iload hG 45 rfl dX7_ahead_43 3 rfl ?_
        refine sm_iconst (x := (3 : Int32)) hG 46 rfl dX7_ahead_45 rfl ?_
        refine sm_callV hG (fun (q : Int32) => (some (Value.int q), r_2.2)) 0 [.int x4_25, .int (3 : Int32)] 49 rfl (okm hM (by decide)) (me_0 hM _) (ci := 7) rfl (fun r_ hr_ => c_X7_its hM   hr_) gX7_ahead_X7_its rfl (by decide) (by decide) (n := 2) rfl (Nat.le_of_ble_eq_true rfl) (by decide) ⟨Nat.zero_le _, Nat.zero_le _⟩ rfl dX7_ahead_46 (fun r_46 => ?_)
        refine sm_isub hG 50 rfl dX7_ahead_49 ?_
        refine sm_istore hG 52 rfl dX7_ahead_50 (jlt hN rfl) [(5, .int (r_39 - r_46)), (0, .ref (Λ.2.2.2.1 0)), (2, .int x2), (3, .int x3_25), (4, .int x4_25)] rfl ?_
        refine sm_iload_n hG 53 rfl dX7_ahead_52 rfl 3 rfl ?_
        refine sm_aload_n hG 54 rfl dX7_ahead_53 rfl 1 rfl ?_
        refine gM0_6 hG hM  57 rfl u7 f22 dX7_ahead_54 ?_
        refine sm_iload hG 59 rfl dX7_ahead_57 4 rfl ?_
        refine lA hG (ia_5 hM) 60 rfl dX7_ahead_59 ?_
        refine sm_aload_n hG 61 rfl dX7_ahead_60 rfl 1 rfl ?_
        refine gM0_6 hG hM  64 rfl u7 f22 dX7_ahead_61 ?_
        refine sm_iload_n hG 65 rfl dX7_ahead_64 rfl 2 rfl ?_
        refine lA hG (ia_5 hM) 66 rfl dX7_ahead_65 ?_
        refine sm_icmp_ne hG 89 69 rfl dX7_ahead_66 (by decide) ?_ ?_
        · refine sm_iconst (x := (0 : Int32)) hG 90 rfl dX7_ahead_89 rfl ?_
          refine sm_iadd hG 91 rfl dX7_ahead_90 ?_
          refine sm_istore_n hG 92 rfl dX7_ahead_91 rfl (jlt hN rfl) [(3, .int (x3_25 + (0 : Int32))), (5, .int (r_39 - r_46)), (0, .ref (Λ.2.2.2.1 0)), (2, .int x2), (4, .int x4_25)] rfl ?_
          refine sm_iinc hG 95 rfl dX7_ahead_92 (j := 4) rfl rfl (jlt hN rfl) [(4, .int (x4_25 + (1 : Int32))), (3, .int (x3_25 + (0 : Int32))), (5, .int (r_39 - r_46)), (0, .ref (Λ.2.2.2.1 0)), (2, .int x2)] rfl ?_
          refine sm_goto hG 25 dX7_ahead_95 (by decide) ?_
          refine sm_loc [3, 4, 1, 0] [(0, .ref (Λ.2.2.2.1 0)), (2, .int x2), (3, .int (x3_25 + (0 : Int32))), (4, .int (x4_25 + (1 : Int32)))] rfl ?_
          exact hs25 _ _
        · refine sm_iload hG 71 rfl dX7_ahead_69 0 rfl ?_
          refine sm_if_gt hG 85 74 rfl dX7_ahead_71 (by decide) ?_ ?_
          · refine sm_iconst (x := (1 : Int32)) hG 86 rfl dX7_ahead_85 rfl ?_
            refine sm_goto hG 90 dX7_ahead_86 (by decide) ?_
            refine sm_iadd hG 91 rfl dX7_ahead_90 ?_
            refine sm_istore_n hG 92 rfl dX7_ahead_91 rfl (jlt hN rfl) [(3, .int (x3_25 + (1 : Int32))), (5, .int (r_39 - r_46)), (0, .ref (Λ.2.2.2.1 0)), (2, .int x2), (4, .int x4_25)] rfl ?_
            refine sm_iinc hG 95 rfl dX7_ahead_92 (j := 4) rfl rfl (jlt hN rfl) [(4, .int (x4_25 + (1 : Int32))), (3, .int (x3_25 + (1 : Int32))), (5, .int (r_39 - r_46)), (0, .ref (Λ.2.2.2.1 0)), (2, .int x2)] rfl ?_
            refine sm_goto hG 25 dX7_ahead_95 (by decide) ?_
            refine sm_loc [3, 4, 1, 0] [(0, .ref (Λ.2.2.2.1 0)), (2, .int x2), (3, .int (x3_25 + (1 : Int32))), (4, .int (x4_25 + (1 : Int32)))] rfl ?_
            exact hs25 _ _
          · refine sm_iload hG 76 rfl dX7_ahead_74 0 rfl ?_
            refine sm_if_ne hG 89 79 rfl dX7_ahead_76 (by decide) ?_ ?_
            · refine sm_iconst (x := (0 : Int32)) hG 90 rfl dX7_ahead_89 rfl ?_
              refine sm_iadd hG 91 rfl dX7_ahead_90 ?_
              refine sm_istore_n hG 92 rfl dX7_ahead_91 rfl (jlt hN rfl) [(3, .int (x3_25 + (0 : Int32))), (5, .int (r_39 - r_46)), (0, .ref (Λ.2.2.2.1 0)), (2, .int x2), (4, .int x4_25)] rfl ?_
              refine sm_iinc hG 95 rfl dX7_ahead_92 (j := 4) rfl rfl (jlt hN rfl) [(4, .int (x4_25 + (1 : Int32))), (3, .int (x3_25 + (0 : Int32))), (5, .int (r_39 - r_46)), (0, .ref (Λ.2.2.2.1 0)), (2, .int x2)] rfl ?_
              refine sm_goto hG 25 dX7_ahead_95 (by decide) ?_
              refine sm_loc [3, 4, 1, 0] [(0, .ref (Λ.2.2.2.1 0)), (2, .int x2), (3, .int (x3_25 + (0 : Int32))), (4, .int (x4_25 + (1 : Int32)))] rfl ?_
              exact hs25 _ _
            · refine sm_iload hG 81 rfl dX7_ahead_79 4 rfl ?_
              refine sm_iload_n hG 82 rfl dX7_ahead_81 rfl 2 rfl ?_
              refine sm_icmp_ge hG 89 85 rfl dX7_ahead_82 (by decide) ?_ ?_
              · refine sm_iconst (x := (0 : Int32)) hG 90 rfl dX7_ahead_89 rfl ?_
                refine sm_iadd hG 91 rfl dX7_ahead_90 ?_
                refine sm_istore_n hG 92 rfl dX7_ahead_91 rfl (jlt hN rfl) [(3, .int (x3_25 + (0 : Int32))), (5, .int (r_39 - r_46)), (0, .ref (Λ.2.2.2.1 0)), (2, .int x2), (4, .int x4_25)] rfl ?_
                refine sm_iinc hG 95 rfl dX7_ahead_92 (j := 4) rfl rfl (jlt hN rfl) [(4, .int (x4_25 + (1 : Int32))), (3, .int (x3_25 + (0 : Int32))), (5, .int (r_39 - r_46)), (0, .ref (Λ.2.2.2.1 0)), (2, .int x2)] rfl ?_
                refine sm_goto hG 25 dX7_ahead_95 (by decide) ?_
                refine sm_loc [3, 4, 1, 0] [(0, .ref (Λ.2.2.2.1 0)), (2, .int x2), (3, .int (x3_25 + (0 : Int32))), (4, .int (x4_25 + (1 : Int32)))] rfl ?_
                exact hs25 _ _
              · refine sm_iconst (x := (1 : Int32)) hG 86 rfl dX7_ahead_85 rfl ?_
                refine sm_goto hG 90 dX7_ahead_86 (by decide) ?_
                refine sm_iadd hG 91 rfl dX7_ahead_90 ?_
                refine sm_istore_n hG 92 rfl dX7_ahead_91 rfl (jlt hN rfl) [(3, .int (x3_25 + (1 : Int32))), (5, .int (r_39 - r_46)), (0, .ref (Λ.2.2.2.1 0)), (2, .int x2), (4, .int x4_25)] rfl ?_
                refine sm_iinc hG 95 rfl dX7_ahead_92 (j := 4) rfl rfl (jlt hN rfl) [(4, .int (x4_25 + (1 : Int32))), (3, .int (x3_25 + (1 : Int32))), (5, .int (r_39 - r_46)), (0, .ref (Λ.2.2.2.1 0)), (2, .int x2)] rfl ?_
                refine sm_goto hG 25 dX7_ahead_95 (by decide) ?_
                refine sm_loc [3, 4, 1, 0] [(0, .ref (Λ.2.2.2.1 0)), (2, .int x2), (3, .int (x3_25 + (1 : Int32))), (4, .int (x4_25 + (1 : Int32)))] rfl ?_
                exact hs25 _ _
    · refine sm_iconst (x := (-1 : Int32)) hG 19 rfl dX7_ahead_18 rfl ?_
      exact sm_iret hG hT ⟨Nat.zero_le _, Nat.zero_le _⟩ dX7_ahead_19 rfl
abbrev rmX7_pewOf : Room := { frames := 9, cells := 0, slots := 0, locals := 215 }
set_option maxRecDepth 100000 in
set_option maxHeartbeats 4000000 in
theorem c_X7_pewOf {Λ : jL Nat} (hM : LM Λ) {x1 : Int32} {x2 : Int32}  {l : Launch} {v : mM} {r : (Int32 × mM)} (hr_ : f_X7_pewOf x1 x2 v = some r) : Ct l yX7_pewOf wsX7_pewOf rmX7_pewOf Λ [.ref (Λ.2.2.2.1 0), .int x1, .int x2] v (some (.int r.1)) r.2 := by
  refine ct_of (cc := cX7_pewOf) (maxL := 4) (ret := (some .int)) (fun (q : Int32 × mM) => (some (Value.int q.1), q.2)) hM.1 hr_ (by decide) rfl (Nat.le_of_ble_eq_true rfl) (fun Γ hG hT hN hl => ?_)
  subst hl
  have f40 : Cond.fieldLink RX7 40 "ChoirRegisterModel" "thrown" "I" ∈ wsX7_pewOf := by decide +kernel
  have u7 : ∀ w ∈ wsX70, w ∈ wsX7_pewOf := by decide +kernel
  show Sm Γ Λ (0, 0) 0 [(0, .ref (Λ.2.2.2.1 0)), (1, .int x1), (2, .int x2)] [] v _
  unfold f_X7_pewOf
  refine sm_jn (fun (X21 : mM → Option (Int32 × mM)) => ∀ (v_21 : mM), Sm Γ Λ (0, 0) 21 [(0, .ref (Λ.2.2.2.1 0))] [] v_21 (X21 v_21)) (fun v_21 => ?_) (fun j21 hj21 => ?_)
  · refine sm_aload_n hG 22 rfl dX7_pewOf_21 rfl 0 rfl ?_
    refine sm_iconst (x := (1 : Int32)) hG 23 rfl dX7_pewOf_22 rfl ?_
    refine sm_callV hG (fun (q : Int32 × mM) => (some (Value.int q.1), q.2)) 0 [.int (1 : Int32)] 26 rfl (okm hM (by decide)) (me_0 hM _) (ci := 7) rfl (fun r_ hr_ => c_X7_refuses hM   hr_) gX7_pewOf_X7_refuses rfl (by decide) (by decide) (n := 1) rfl (Nat.le_of_ble_eq_true rfl) (by decide) ⟨Nat.zero_le _, Nat.zero_le _⟩ rfl dX7_pewOf_23 (fun r_23 => ?_)
    exact sm_iret hG hT ⟨Nat.zero_le _, Nat.zero_le _⟩ dX7_pewOf_26 rfl
  · refine sm_aload_n hG 1 rfl dX7_pewOf_0 rfl 0 rfl ?_
    refine sm_iconst (x := (0 : Int32)) hG 2 rfl dX7_pewOf_1 rfl ?_
    refine pM0_12 hG hM  5 rfl u7 f40 dX7_pewOf_2 ?_
    refine sm_nmv (fun w2_1 => ?_)
    refine sm_aload_n hG 6 rfl dX7_pewOf_5 rfl 0 rfl ?_
    refine sm_iload_n hG 7 rfl dX7_pewOf_6 rfl 1 rfl ?_
    refine sm_callV hG (fun (q : Int32) => (some (Value.int q), w2_1)) 0 [.int x1] 10 rfl (okm hM (by decide)) (me_0 hM _) (ci := 7) rfl (fun r_ hr_ => c_X7_isFeast hM   hr_) gX7_pewOf_X7_isFeast rfl (by decide) (by decide) (n := 1) rfl (Nat.le_of_ble_eq_true rfl) (by decide) ⟨Nat.zero_le _, Nat.zero_le _⟩ rfl dX7_pewOf_7 (fun r_7 => ?_)
    refine sm_if_eq hG 21 13 rfl dX7_pewOf_10 (by decide) ?_ ?_
    · refine sm_loc [0] [(0, .ref (Λ.2.2.2.1 0))] rfl ?_
      exact hj21 _
    · refine sm_aload_n hG 14 rfl dX7_pewOf_13 rfl 0 rfl ?_
      refine sm_iload_n hG 15 rfl dX7_pewOf_14 rfl 2 rfl ?_
      refine sm_callV hG (fun (q : Int32) => (some (Value.int q), w2_1)) 0 [.int x2] 18 rfl (okm hM (by decide)) (me_0 hM _) (ci := 7) rfl (fun r_ hr_ => c_X7_isSinger hM   hr_) gX7_pewOf_X7_isSinger rfl (by decide) (by decide) (n := 1) rfl (Nat.le_of_ble_eq_true rfl) (by decide) ⟨Nat.zero_le _, Nat.zero_le _⟩ rfl dX7_pewOf_15 (fun r_15 => ?_)
      refine sm_if_ne hG 27 21 rfl dX7_pewOf_18 (by decide) ?_ ?_
      · refine sm_aload_n hG 28 rfl dX7_pewOf_27 rfl 0 rfl ?_
        refine sm_iload_n hG 29 rfl dX7_pewOf_28 rfl 1 rfl ?_
        refine sm_iload_n hG 30 rfl dX7_pewOf_29 rfl 2 rfl ?_
        refine sm_callV hG (fun (q : Int32 × mM) => (some (Value.int q.1), q.2)) 0 [.int x1, .int x2] 33 rfl (okm hM (by decide)) (me_0 hM _) (ci := 7) rfl (fun r_ hr_ => c_X7_ahead hM   hr_) gX7_pewOf_X7_ahead rfl (by decide) (by decide) (n := 2) rfl (Nat.le_of_ble_eq_true rfl) (by decide) ⟨Nat.zero_le _, Nat.zero_le _⟩ rfl dX7_pewOf_30 (fun r_30 => ?_)
        refine sm_istore_n hG 34 rfl dX7_pewOf_33 rfl (jlt hN rfl) [(3, .int r_30.1), (0, .ref (Λ.2.2.2.1 0)), (1, .int x1), (2, .int x2)] rfl ?_
        refine sm_iload_n hG 35 rfl dX7_pewOf_34 rfl 0 rfl ?_
        refine sm_iconst (x := (-1 : Int32)) hG 36 rfl dX7_pewOf_35 rfl ?_
        refine sm_icmp_ne hG 43 39 rfl dX7_pewOf_36 (by decide) ?_ ?_
        · refine sm_iload_n hG 44 rfl dX7_pewOf_43 rfl 0 rfl ?_
          refine sm_iconst (x := (2 : Int32)) hG 45 rfl dX7_pewOf_44 rfl ?_
          refine sm_idiv hG 46 rfl dX7_pewOf_45 (by decide) ?_
          exact sm_iret hG hT ⟨Nat.zero_le _, Nat.zero_le _⟩ dX7_pewOf_46 rfl
        · refine sm_iconst (x := (-1 : Int32)) hG 40 rfl dX7_pewOf_39 rfl ?_
          refine sm_goto hG 46 dX7_pewOf_40 (by decide) ?_
          exact sm_iret hG hT ⟨Nat.zero_le _, Nat.zero_le _⟩ dX7_pewOf_46 rfl
      · refine sm_loc [0] [(0, .ref (Λ.2.2.2.1 0))] rfl ?_
        exact hj21 _
abbrev rmX7_seatOf : Room := { frames := 9, cells := 0, slots := 0, locals := 215 }
set_option maxRecDepth 100000 in
set_option maxHeartbeats 4000000 in
theorem c_X7_seatOf {Λ : jL Nat} (hM : LM Λ) {x1 : Int32} {x2 : Int32}  {l : Launch} {v : mM} {r : (Int32 × mM)} (hr_ : f_X7_seatOf x1 x2 v = some r) : Ct l yX7_seatOf wsX7_seatOf rmX7_seatOf Λ [.ref (Λ.2.2.2.1 0), .int x1, .int x2] v (some (.int r.1)) r.2 := by
  refine ct_of (cc := cX7_seatOf) (maxL := 4) (ret := (some .int)) (fun (q : Int32 × mM) => (some (Value.int q.1), q.2)) hM.1 hr_ (by decide) rfl (Nat.le_of_ble_eq_true rfl) (fun Γ hG hT hN hl => ?_)
  subst hl
  have f40 : Cond.fieldLink RX7 40 "ChoirRegisterModel" "thrown" "I" ∈ wsX7_seatOf := by decide +kernel
  have u7 : ∀ w ∈ wsX70, w ∈ wsX7_seatOf := by decide +kernel
  show Sm Γ Λ (0, 0) 0 [(0, .ref (Λ.2.2.2.1 0)), (1, .int x1), (2, .int x2)] [] v _
  unfold f_X7_seatOf
  refine sm_jn (fun (X21 : mM → Option (Int32 × mM)) => ∀ (v_21 : mM), Sm Γ Λ (0, 0) 21 [(0, .ref (Λ.2.2.2.1 0))] [] v_21 (X21 v_21)) (fun v_21 => ?_) (fun j21 hj21 => ?_)
  · refine sm_aload_n hG 22 rfl dX7_seatOf_21 rfl 0 rfl ?_
    refine sm_iconst (x := (1 : Int32)) hG 23 rfl dX7_seatOf_22 rfl ?_
    refine sm_callV hG (fun (q : Int32 × mM) => (some (Value.int q.1), q.2)) 0 [.int (1 : Int32)] 26 rfl (okm hM (by decide)) (me_0 hM _) (ci := 7) rfl (fun r_ hr_ => c_X7_refuses hM   hr_) gX7_seatOf_X7_refuses rfl (by decide) (by decide) (n := 1) rfl (Nat.le_of_ble_eq_true rfl) (by decide) ⟨Nat.zero_le _, Nat.zero_le _⟩ rfl dX7_seatOf_23 (fun r_23 => ?_)
    exact sm_iret hG hT ⟨Nat.zero_le _, Nat.zero_le _⟩ dX7_seatOf_26 rfl
  · refine sm_aload_n hG 1 rfl dX7_seatOf_0 rfl 0 rfl ?_
    refine sm_iconst (x := (0 : Int32)) hG 2 rfl dX7_seatOf_1 rfl ?_
    refine pM0_12 hG hM  5 rfl u7 f40 dX7_seatOf_2 ?_
    refine sm_nmv (fun w2_1 => ?_)
    refine sm_aload_n hG 6 rfl dX7_seatOf_5 rfl 0 rfl ?_
    refine sm_iload_n hG 7 rfl dX7_seatOf_6 rfl 1 rfl ?_
    refine sm_callV hG (fun (q : Int32) => (some (Value.int q), w2_1)) 0 [.int x1] 10 rfl (okm hM (by decide)) (me_0 hM _) (ci := 7) rfl (fun r_ hr_ => c_X7_isFeast hM   hr_) gX7_seatOf_X7_isFeast rfl (by decide) (by decide) (n := 1) rfl (Nat.le_of_ble_eq_true rfl) (by decide) ⟨Nat.zero_le _, Nat.zero_le _⟩ rfl dX7_seatOf_7 (fun r_7 => ?_)
    refine sm_if_eq hG 21 13 rfl dX7_seatOf_10 (by decide) ?_ ?_
    · refine sm_loc [0] [(0, .ref (Λ.2.2.2.1 0))] rfl ?_
      exact hj21 _
    · refine sm_aload_n hG 14 rfl dX7_seatOf_13 rfl 0 rfl ?_
      refine sm_iload_n hG 15 rfl dX7_seatOf_14 rfl 2 rfl ?_
      refine sm_callV hG (fun (q : Int32) => (some (Value.int q), w2_1)) 0 [.int x2] 18 rfl (okm hM (by decide)) (me_0 hM _) (ci := 7) rfl (fun r_ hr_ => c_X7_isSinger hM   hr_) gX7_seatOf_X7_isSinger rfl (by decide) (by decide) (n := 1) rfl (Nat.le_of_ble_eq_true rfl) (by decide) ⟨Nat.zero_le _, Nat.zero_le _⟩ rfl dX7_seatOf_15 (fun r_15 => ?_)
      refine sm_if_ne hG 27 21 rfl dX7_seatOf_18 (by decide) ?_ ?_
      · refine sm_aload_n hG 28 rfl dX7_seatOf_27 rfl 0 rfl ?_
        refine sm_iload_n hG 29 rfl dX7_seatOf_28 rfl 1 rfl ?_
        refine sm_iload_n hG 30 rfl dX7_seatOf_29 rfl 2 rfl ?_
        refine sm_callV hG (fun (q : Int32 × mM) => (some (Value.int q.1), q.2)) 0 [.int x1, .int x2] 33 rfl (okm hM (by decide)) (me_0 hM _) (ci := 7) rfl (fun r_ hr_ => c_X7_ahead hM   hr_) gX7_seatOf_X7_ahead rfl (by decide) (by decide) (n := 2) rfl (Nat.le_of_ble_eq_true rfl) (by decide) ⟨Nat.zero_le _, Nat.zero_le _⟩ rfl dX7_seatOf_30 (fun r_30 => ?_)
        refine sm_istore_n hG 34 rfl dX7_seatOf_33 rfl (jlt hN rfl) [(3, .int r_30.1), (0, .ref (Λ.2.2.2.1 0)), (1, .int x1), (2, .int x2)] rfl ?_
        refine sm_iload_n hG 35 rfl dX7_seatOf_34 rfl 0 rfl ?_
        refine sm_iconst (x := (-1 : Int32)) hG 36 rfl dX7_seatOf_35 rfl ?_
        refine sm_icmp_ne hG 43 39 rfl dX7_seatOf_36 (by decide) ?_ ?_
        · refine sm_iload_n hG 44 rfl dX7_seatOf_43 rfl 0 rfl ?_
          refine sm_iconst (x := (2 : Int32)) hG 45 rfl dX7_seatOf_44 rfl ?_
          refine sm_irem hG 46 rfl dX7_seatOf_45 (by decide) ?_
          refine sm_nmi (fun y45_2 => ?_)
          exact sm_iret hG hT ⟨Nat.zero_le _, Nat.zero_le _⟩ dX7_seatOf_46 rfl
        · refine sm_iconst (x := (-1 : Int32)) hG 40 rfl dX7_seatOf_39 rfl ?_
          refine sm_goto hG 46 dX7_seatOf_40 (by decide) ?_
          exact sm_iret hG hT ⟨Nat.zero_le _, Nat.zero_le _⟩ dX7_seatOf_46 rfl
      · refine sm_loc [0] [(0, .ref (Λ.2.2.2.1 0))] rfl ?_
        exact hj21 _
abbrev rmX7_firstShortFeast : Room := { frames := 7, cells := 0, slots := 0, locals := 161 }
set_option maxRecDepth 100000 in
set_option maxHeartbeats 4000000 in
theorem c_X7_firstShortFeast {Λ : jL Nat} (hM : LM Λ)   {l : Launch} {v : mM} {r : (Int32 × mM)} (hr_ : f_X7_firstShortFeast v = some r) : Ct l yX7_firstShortFeast wsX7_firstShortFeast rmX7_firstShortFeast Λ [.ref (Λ.2.2.2.1 0)] v (some (.int r.1)) r.2 := by
  refine ct_of (cc := cX7_firstShortFeast) (maxL := 2) (ret := (some .int)) (fun (q : Int32 × mM) => (some (Value.int q.1), q.2)) hM.1 hr_ (by decide) rfl (Nat.le_of_ble_eq_true rfl) (fun Γ hG hT hN hl => ?_)
  subst hl
  have f40 : Cond.fieldLink RX7 40 "ChoirRegisterModel" "thrown" "I" ∈ wsX7_firstShortFeast := by decide +kernel
  have f7 : Cond.fieldLink RX7 7 "ChoirRegisterModel" "now" "[I" ∈ wsX7_firstShortFeast := by decide +kernel
  have u7 : ∀ w ∈ wsX70, w ∈ wsX7_firstShortFeast := by decide +kernel
  show Sm Γ Λ (0, 0) 0 [(0, .ref (Λ.2.2.2.1 0))] [] v _
  unfold f_X7_firstShortFeast
  refine sm_aload_n hG 1 rfl dX7_firstShortFeast_0 rfl 0 rfl ?_
  refine sm_iconst (x := (0 : Int32)) hG 2 rfl dX7_firstShortFeast_1 rfl ?_
  refine pM0_12 hG hM  5 rfl u7 f40 dX7_firstShortFeast_2 ?_
  refine sm_nmv (fun w2_1 => ?_)
  refine sm_aload_n hG 6 rfl dX7_firstShortFeast_5 rfl 0 rfl ?_
  refine sm_aload_n hG 7 rfl dX7_firstShortFeast_6 rfl 0 rfl ?_
  refine gM0_0 hG hM  10 rfl u7 f7 dX7_firstShortFeast_7 ?_
  refine sm_iconst (x := (0 : Int32)) hG 11 rfl dX7_firstShortFeast_10 rfl ?_
  refine lA hG (ia_1 hM) 12 rfl dX7_firstShortFeast_11 ?_
  refine sm_callV hG (fun (q : Int32) => (some (Value.int q), w2_1)) 0 [.int (w2_1 1 (ix (0 : Int32)))] 15 rfl (okm hM (by decide)) (me_0 hM _) (ci := 7) rfl (fun r_ hr_ => c_X7_nextFeast hM   hr_) gX7_firstShortFeast_X7_nextFeast rfl (by decide) (by decide) (n := 1) rfl (Nat.le_of_ble_eq_true rfl) (by decide) ⟨Nat.zero_le _, Nat.zero_le _⟩ rfl dX7_firstShortFeast_12 (fun r_12 => ?_)
  refine sm_istore_n hG 16 rfl dX7_firstShortFeast_15 rfl (jlt hN rfl) [(1, .int r_12), (0, .ref (Λ.2.2.2.1 0))] rfl ?_
  refine sm_loc [1, 0] [(0, .ref (Λ.2.2.2.1 0)), (1, .int r_12)] rfl ?_
  refine lp_ind (fun (X16 : Int32 → mM → Option (Int32 × mM)) => ∀ (x1_16 : Int32) (v_16 : mM), Sm Γ Λ (0, 0) 16 [(0, .ref (Λ.2.2.2.1 0)), (1, .int x1_16)] [] v_16 (X16 x1_16 v_16)) (fun _ _ => sm_none) (fun self16 hs16 x1_16 v_16 => ?_) 8192 _ _
  refine sm_iload_n hG 17 rfl dX7_firstShortFeast_16 rfl 1 rfl ?_
  refine sm_iconst (x := (-1 : Int32)) hG 18 rfl dX7_firstShortFeast_17 rfl ?_
  refine sm_icmp_eq hG 42 21 rfl dX7_firstShortFeast_18 (by decide) ?_ ?_
  · refine sm_iload_n hG 43 rfl dX7_firstShortFeast_42 rfl 1 rfl ?_
    exact sm_iret hG hT ⟨Nat.zero_le _, Nat.zero_le _⟩ dX7_firstShortFeast_43 rfl
  · refine sm_aload_n hG 22 rfl dX7_firstShortFeast_21 rfl 0 rfl ?_
    refine sm_iload_n hG 23 rfl dX7_firstShortFeast_22 rfl 1 rfl ?_
    refine sm_callV hG (fun (q : Int32 × mM) => (some (Value.int q.1), q.2)) 0 [.int x1_16] 26 rfl (okm hM (by decide)) (me_0 hM _) (ci := 7) rfl (fun r_ hr_ => c_X7_missing hM   hr_) gX7_firstShortFeast_X7_missing rfl (by decide) (by decide) (n := 1) rfl (Nat.le_of_ble_eq_true rfl) (by decide) ⟨Nat.zero_le _, Nat.zero_le _⟩ rfl dX7_firstShortFeast_23 (fun r_23 => ?_)
    refine sm_if_ne hG 42 29 rfl dX7_firstShortFeast_26 (by decide) ?_ ?_
    · refine sm_iload_n hG 43 rfl dX7_firstShortFeast_42 rfl 1 rfl ?_
      exact sm_iret hG hT ⟨Nat.zero_le _, Nat.zero_le _⟩ dX7_firstShortFeast_43 rfl
    · refine sm_aload_n hG 30 rfl dX7_firstShortFeast_29 rfl 0 rfl ?_
      refine sm_aload_n hG 31 rfl dX7_firstShortFeast_30 rfl 0 rfl ?_
      refine sm_iload_n hG 32 rfl dX7_firstShortFeast_31 rfl 1 rfl ?_
      refine sm_callV hG (fun (q : Int32) => (some (Value.int q), r_23.2)) 0 [.int x1_16] 35 rfl (okm hM (by decide)) (me_0 hM _) (ci := 7) rfl (fun r_ hr_ => c_X7_dayAt hM   hr_) gX7_firstShortFeast_X7_dayAt rfl (by decide) (by decide) (n := 1) rfl (Nat.le_of_ble_eq_true rfl) (by decide) ⟨Nat.zero_le _, Nat.zero_le _⟩ rfl dX7_firstShortFeast_32 (fun r_32 => ?_)
      refine sm_callV hG (fun (q : Int32) => (some (Value.int q), r_23.2)) 0 [.int r_32] 38 rfl (okm hM (by decide)) (me_0 hM _) (ci := 7) rfl (fun r_ hr_ => c_X7_nextFeast hM   hr_) gX7_firstShortFeast_X7_nextFeast rfl (by decide) (by decide) (n := 1) rfl (Nat.le_of_ble_eq_true rfl) (by decide) ⟨Nat.zero_le _, Nat.zero_le _⟩ rfl dX7_firstShortFeast_35 (fun r_35 => ?_)
      refine sm_istore_n hG 39 rfl dX7_firstShortFeast_38 rfl (jlt hN rfl) [(1, .int r_35), (0, .ref (Λ.2.2.2.1 0))] rfl ?_
      refine sm_goto hG 16 dX7_firstShortFeast_39 (by decide) ?_
      refine sm_loc [1, 0] [(0, .ref (Λ.2.2.2.1 0)), (1, .int r_35)] rfl ?_
      exact hs16 _ _
abbrev rmX7_favoursOf : Room := { frames := 2, cells := 0, slots := 0, locals := 42 }
set_option maxRecDepth 100000 in
set_option maxHeartbeats 4000000 in
theorem c_X7_favoursOf {Λ : jL Nat} (hM : LM Λ) {x1 : Int32}  {l : Launch} {v : mM} {r : (Int32 × mM)} (hr_ : f_X7_favoursOf x1 v = some r) : Ct l yX7_favoursOf wsX7_favoursOf rmX7_favoursOf Λ [.ref (Λ.2.2.2.1 0), .int x1] v (some (.int r.1)) r.2 := by
  refine ct_of (cc := cX7_favoursOf) (maxL := 2) (ret := (some .int)) (fun (q : Int32 × mM) => (some (Value.int q.1), q.2)) hM.1 hr_ (by decide) rfl (Nat.le_of_ble_eq_true rfl) (fun Γ hG hT hN hl => ?_)
  subst hl
  have f40 : Cond.fieldLink RX7 40 "ChoirRegisterModel" "thrown" "I" ∈ wsX7_favoursOf := by decide +kernel
  have f7 : Cond.fieldLink RX7 7 "ChoirRegisterModel" "now" "[I" ∈ wsX7_favoursOf := by decide +kernel
  have u7 : ∀ w ∈ wsX70, w ∈ wsX7_favoursOf := by decide +kernel
  show Sm Γ Λ (0, 0) 0 [(0, .ref (Λ.2.2.2.1 0)), (1, .int x1)] [] v _
  unfold f_X7_favoursOf
  refine sm_aload_n hG 1 rfl dX7_favoursOf_0 rfl 0 rfl ?_
  refine sm_iconst (x := (0 : Int32)) hG 2 rfl dX7_favoursOf_1 rfl ?_
  refine pM0_12 hG hM  5 rfl u7 f40 dX7_favoursOf_2 ?_
  refine sm_nmv (fun w2_1 => ?_)
  refine sm_iload_n hG 6 rfl dX7_favoursOf_5 rfl 1 rfl ?_
  refine sm_callS hG (fun (q : Int32) => (some (Value.int q), w2_1)) [.int x1] 9 rfl (fun r_ hr_ => c_X7_isChoir hM   hr_) gX7_favoursOf_X7_isChoir rfl (by decide) (by decide) (n := 1) rfl (Nat.le_of_ble_eq_true rfl) (by decide) ⟨Nat.zero_le _, Nat.zero_le _⟩ rfl dX7_favoursOf_6 (fun r_6 => ?_)
  refine sm_if_eq hG 24 12 rfl dX7_favoursOf_9 (by decide) ?_ ?_
  · refine sm_aload_n hG 25 rfl dX7_favoursOf_24 rfl 0 rfl ?_
    refine sm_iconst (x := (1 : Int32)) hG 26 rfl dX7_favoursOf_25 rfl ?_
    refine sm_callV hG (fun (q : Int32 × mM) => (some (Value.int q.1), q.2)) 0 [.int (1 : Int32)] 29 rfl (okm hM (by decide)) (me_0 hM _) (ci := 7) rfl (fun r_ hr_ => c_X7_refuses hM   hr_) gX7_favoursOf_X7_refuses rfl (by decide) (by decide) (n := 1) rfl (Nat.le_of_ble_eq_true rfl) (by decide) ⟨Nat.zero_le _, Nat.zero_le _⟩ rfl dX7_favoursOf_26 (fun r_26 => ?_)
    exact sm_iret hG hT ⟨Nat.zero_le _, Nat.zero_le _⟩ dX7_favoursOf_29 rfl
  · refine sm_aload_n hG 13 rfl dX7_favoursOf_12 rfl 0 rfl ?_
    refine gM0_0 hG hM  16 rfl u7 f7 dX7_favoursOf_13 ?_
    refine sm_bipush (x := (8 : Int32)) hG 18 rfl dX7_favoursOf_16 rfl ?_
    refine sm_iload_n hG 19 rfl dX7_favoursOf_18 rfl 1 rfl ?_
    refine sm_iadd hG 20 rfl dX7_favoursOf_19 ?_
    refine lA hG (ia_1 hM) 21 rfl dX7_favoursOf_20 ?_
    refine sm_goto hG 29 dX7_favoursOf_21 (by decide) ?_
    exact sm_iret hG hT ⟨Nat.zero_le _, Nat.zero_le _⟩ dX7_favoursOf_29 rfl
abbrev rmX7_coins : Room := { frames := 0, cells := 0, slots := 0, locals := 0 }
set_option maxRecDepth 100000 in
set_option maxHeartbeats 4000000 in
theorem c_X7_coins {Λ : jL Nat} (hM : LM Λ)   {l : Launch} {v : mM} {r : Int32} (hr_ : f_X7_coins v = some r) : Ct l yX7_coins wsX7_coins rmX7_coins Λ [.ref (Λ.2.2.2.1 0)] v (some (.int r)) v := by
  refine ct_of (cc := cX7_coins) (maxL := 1) (ret := (some .int)) (fun (q : Int32) => (some (Value.int q), v)) hM.1 hr_ (by decide) rfl (Nat.le_of_ble_eq_true rfl) (fun Γ hG hT hN hl => ?_)
  subst hl
  have f7 : Cond.fieldLink RX7 7 "ChoirRegisterModel" "now" "[I" ∈ wsX7_coins := by decide +kernel
  have u7 : ∀ w ∈ wsX70, w ∈ wsX7_coins := by decide +kernel
  show Sm Γ Λ (0, 0) 0 [(0, .ref (Λ.2.2.2.1 0))] [] v _
  unfold f_X7_coins
  refine sm_bipush (x := (50 : Int32)) hG 2 rfl dX7_coins_0 rfl ?_
  refine sm_aload_n hG 3 rfl dX7_coins_2 rfl 0 rfl ?_
  refine gM0_0 hG hM  6 rfl u7 f7 dX7_coins_3 ?_
  refine sm_iconst (x := (4 : Int32)) hG 7 rfl dX7_coins_6 rfl ?_
  refine lA hG (ia_1 hM) 8 rfl dX7_coins_7 ?_
  refine sm_iadd hG 9 rfl dX7_coins_8 ?_
  refine sm_aload_n hG 10 rfl dX7_coins_9 rfl 0 rfl ?_
  refine gM0_0 hG hM  13 rfl u7 f7 dX7_coins_10 ?_
  refine sm_iconst (x := (5 : Int32)) hG 14 rfl dX7_coins_13 rfl ?_
  refine lA hG (ia_1 hM) 15 rfl dX7_coins_14 ?_
  refine sm_iadd hG 16 rfl dX7_coins_15 ?_
  refine sm_nmi (fun y15_1 => ?_)
  refine sm_aload_n hG 17 rfl dX7_coins_16 rfl 0 rfl ?_
  refine gM0_0 hG hM  20 rfl u7 f7 dX7_coins_17 ?_
  refine sm_bipush (x := (6 : Int32)) hG 22 rfl dX7_coins_20 rfl ?_
  refine lA hG (ia_1 hM) 23 rfl dX7_coins_22 ?_
  refine sm_isub hG 24 rfl dX7_coins_23 ?_
  refine sm_aload_n hG 25 rfl dX7_coins_24 rfl 0 rfl ?_
  refine gM0_0 hG hM  28 rfl u7 f7 dX7_coins_25 ?_
  refine sm_bipush (x := (7 : Int32)) hG 30 rfl dX7_coins_28 rfl ?_
  refine lA hG (ia_1 hM) 31 rfl dX7_coins_30 ?_
  refine sm_isub hG 32 rfl dX7_coins_31 ?_
  refine sm_nmi (fun y31_2 => ?_)
  exact sm_iret hG hT ⟨Nat.zero_le _, Nat.zero_le _⟩ dX7_coins_32 rfl
