/-! printed by wip/whole/jgen.py out of the bytecode: the walks -/
abbrev rmX7_purse : Room := { frames := 1, cells := 0, slots := 0, locals := 20 }
set_option maxRecDepth 100000 in
set_option maxHeartbeats 4000000 in
theorem c_X7_purse {Λ : jL Nat} (hM : LM Λ)   {l : Launch} {v : mM} {r : (Int32 × mM)} (hr_ : f_X7_purse v = some r) : Ct l yX7_purse wsX7_purse rmX7_purse Λ [.ref (Λ.2.2.2.1 0)] v (some (.int r.1)) r.2 := by
  refine ct_of (cc := cX7_purse) (maxL := 1) (ret := (some .int)) (fun (q : Int32 × mM) => (some (Value.int q.1), q.2)) hM.1 hr_ (by decide) rfl (Nat.le_of_ble_eq_true rfl) (fun Γ hG hT hN hl => ?_)
  subst hl
  have f40 : Cond.fieldLink RX7 40 "ChoirRegisterModel" "thrown" "I" ∈ wsX7_purse := by decide +kernel
  have u7 : ∀ w ∈ wsX70, w ∈ wsX7_purse := by decide +kernel
  show Sm Γ Λ (0, 0) 0 [(0, .ref (Λ.2.2.2.1 0))] [] v _
  unfold f_X7_purse
  refine sm_aload_n hG 1 rfl dX7_purse_0 rfl 0 rfl ?_
  refine sm_iconst (x := (0 : Int32)) hG 2 rfl dX7_purse_1 rfl ?_
  refine pM0_12 hG hM  5 rfl u7 f40 dX7_purse_2 ?_
  refine sm_nmv (fun w2_1 => ?_)
  refine sm_aload_n hG 6 rfl dX7_purse_5 rfl 0 rfl ?_
  refine sm_callV hG (fun (q : Int32) => (some (Value.int q), w2_1)) 0 [] 9 rfl (okm hM (by decide)) (me_0 hM _) (ci := 7) rfl (fun r_ hr_ => c_X7_coins hM   hr_) gX7_purse_X7_coins rfl (by decide) (by decide) (n := 0) rfl (Nat.le_of_ble_eq_true rfl) (by decide) ⟨Nat.zero_le _, Nat.zero_le _⟩ rfl dX7_purse_6 (fun r_6 => ?_)
  exact sm_iret hG hT ⟨Nat.zero_le _, Nat.zero_le _⟩ dX7_purse_9 rfl
abbrev rmX7_purseByAccounts : Room := { frames := 1, cells := 0, slots := 0, locals := 20 }
set_option maxRecDepth 100000 in
set_option maxHeartbeats 4000000 in
theorem c_X7_purseByAccounts {Λ : jL Nat} (hM : LM Λ)   {l : Launch} {v : mM} {r : (Int32 × mM)} (hr_ : f_X7_purseByAccounts v = some r) : Ct l yX7_purseByAccounts wsX7_purseByAccounts rmX7_purseByAccounts Λ [.ref (Λ.2.2.2.1 0)] v (some (.int r.1)) r.2 := by
  refine ct_of (cc := cX7_purseByAccounts) (maxL := 1) (ret := (some .int)) (fun (q : Int32 × mM) => (some (Value.int q.1), q.2)) hM.1 hr_ (by decide) rfl (Nat.le_of_ble_eq_true rfl) (fun Γ hG hT hN hl => ?_)
  subst hl
  have f40 : Cond.fieldLink RX7 40 "ChoirRegisterModel" "thrown" "I" ∈ wsX7_purseByAccounts := by decide +kernel
  have u7 : ∀ w ∈ wsX70, w ∈ wsX7_purseByAccounts := by decide +kernel
  show Sm Γ Λ (0, 0) 0 [(0, .ref (Λ.2.2.2.1 0))] [] v _
  unfold f_X7_purseByAccounts
  refine sm_aload_n hG 1 rfl dX7_purseByAccounts_0 rfl 0 rfl ?_
  refine sm_iconst (x := (0 : Int32)) hG 2 rfl dX7_purseByAccounts_1 rfl ?_
  refine pM0_12 hG hM  5 rfl u7 f40 dX7_purseByAccounts_2 ?_
  refine sm_nmv (fun w2_1 => ?_)
  refine sm_aload_n hG 6 rfl dX7_purseByAccounts_5 rfl 0 rfl ?_
  refine sm_callV hG (fun (q : Int32) => (some (Value.int q), w2_1)) 0 [] 9 rfl (okm hM (by decide)) (me_0 hM _) (ci := 7) rfl (fun r_ hr_ => c_X7_coins hM   hr_) gX7_purseByAccounts_X7_coins rfl (by decide) (by decide) (n := 0) rfl (Nat.le_of_ble_eq_true rfl) (by decide) ⟨Nat.zero_le _, Nat.zero_le _⟩ rfl dX7_purseByAccounts_6 (fun r_6 => ?_)
  exact sm_iret hG hT ⟨Nat.zero_le _, Nat.zero_le _⟩ dX7_purseByAccounts_9 rfl
abbrev rmX7_collected : Room := { frames := 0, cells := 0, slots := 0, locals := 0 }
set_option maxRecDepth 100000 in
set_option maxHeartbeats 4000000 in
theorem c_X7_collected {Λ : jL Nat} (hM : LM Λ)   {l : Launch} {v : mM} {r : (Int32 × mM)} (hr_ : f_X7_collected v = some r) : Ct l yX7_collected wsX7_collected rmX7_collected Λ [.ref (Λ.2.2.2.1 0)] v (some (.int r.1)) r.2 := by
  refine ct_of (cc := cX7_collected) (maxL := 1) (ret := (some .int)) (fun (q : Int32 × mM) => (some (Value.int q.1), q.2)) hM.1 hr_ (by decide) rfl (Nat.le_of_ble_eq_true rfl) (fun Γ hG hT hN hl => ?_)
  subst hl
  have f40 : Cond.fieldLink RX7 40 "ChoirRegisterModel" "thrown" "I" ∈ wsX7_collected := by decide +kernel
  have f7 : Cond.fieldLink RX7 7 "ChoirRegisterModel" "now" "[I" ∈ wsX7_collected := by decide +kernel
  have u7 : ∀ w ∈ wsX70, w ∈ wsX7_collected := by decide +kernel
  show Sm Γ Λ (0, 0) 0 [(0, .ref (Λ.2.2.2.1 0))] [] v _
  unfold f_X7_collected
  refine sm_aload_n hG 1 rfl dX7_collected_0 rfl 0 rfl ?_
  refine sm_iconst (x := (0 : Int32)) hG 2 rfl dX7_collected_1 rfl ?_
  refine pM0_12 hG hM  5 rfl u7 f40 dX7_collected_2 ?_
  refine sm_nmv (fun w2_1 => ?_)
  refine sm_aload_n hG 6 rfl dX7_collected_5 rfl 0 rfl ?_
  refine gM0_0 hG hM  9 rfl u7 f7 dX7_collected_6 ?_
  refine sm_iconst (x := (4 : Int32)) hG 10 rfl dX7_collected_9 rfl ?_
  refine lA hG (ia_1 hM) 11 rfl dX7_collected_10 ?_
  exact sm_iret hG hT ⟨Nat.zero_le _, Nat.zero_le _⟩ dX7_collected_11 rfl
abbrev rmX7_fees : Room := { frames := 0, cells := 0, slots := 0, locals := 0 }
set_option maxRecDepth 100000 in
set_option maxHeartbeats 4000000 in
theorem c_X7_fees {Λ : jL Nat} (hM : LM Λ)   {l : Launch} {v : mM} {r : (Int32 × mM)} (hr_ : f_X7_fees v = some r) : Ct l yX7_fees wsX7_fees rmX7_fees Λ [.ref (Λ.2.2.2.1 0)] v (some (.int r.1)) r.2 := by
  refine ct_of (cc := cX7_fees) (maxL := 1) (ret := (some .int)) (fun (q : Int32 × mM) => (some (Value.int q.1), q.2)) hM.1 hr_ (by decide) rfl (Nat.le_of_ble_eq_true rfl) (fun Γ hG hT hN hl => ?_)
  subst hl
  have f40 : Cond.fieldLink RX7 40 "ChoirRegisterModel" "thrown" "I" ∈ wsX7_fees := by decide +kernel
  have f7 : Cond.fieldLink RX7 7 "ChoirRegisterModel" "now" "[I" ∈ wsX7_fees := by decide +kernel
  have u7 : ∀ w ∈ wsX70, w ∈ wsX7_fees := by decide +kernel
  show Sm Γ Λ (0, 0) 0 [(0, .ref (Λ.2.2.2.1 0))] [] v _
  unfold f_X7_fees
  refine sm_aload_n hG 1 rfl dX7_fees_0 rfl 0 rfl ?_
  refine sm_iconst (x := (0 : Int32)) hG 2 rfl dX7_fees_1 rfl ?_
  refine pM0_12 hG hM  5 rfl u7 f40 dX7_fees_2 ?_
  refine sm_nmv (fun w2_1 => ?_)
  refine sm_aload_n hG 6 rfl dX7_fees_5 rfl 0 rfl ?_
  refine gM0_0 hG hM  9 rfl u7 f7 dX7_fees_6 ?_
  refine sm_bipush (x := (6 : Int32)) hG 11 rfl dX7_fees_9 rfl ?_
  refine lA hG (ia_1 hM) 12 rfl dX7_fees_11 ?_
  exact sm_iret hG hT ⟨Nat.zero_le _, Nat.zero_le _⟩ dX7_fees_12 rfl
abbrev rmX7_fines : Room := { frames := 0, cells := 0, slots := 0, locals := 0 }
set_option maxRecDepth 100000 in
set_option maxHeartbeats 4000000 in
theorem c_X7_fines {Λ : jL Nat} (hM : LM Λ)   {l : Launch} {v : mM} {r : (Int32 × mM)} (hr_ : f_X7_fines v = some r) : Ct l yX7_fines wsX7_fines rmX7_fines Λ [.ref (Λ.2.2.2.1 0)] v (some (.int r.1)) r.2 := by
  refine ct_of (cc := cX7_fines) (maxL := 1) (ret := (some .int)) (fun (q : Int32 × mM) => (some (Value.int q.1), q.2)) hM.1 hr_ (by decide) rfl (Nat.le_of_ble_eq_true rfl) (fun Γ hG hT hN hl => ?_)
  subst hl
  have f40 : Cond.fieldLink RX7 40 "ChoirRegisterModel" "thrown" "I" ∈ wsX7_fines := by decide +kernel
  have f7 : Cond.fieldLink RX7 7 "ChoirRegisterModel" "now" "[I" ∈ wsX7_fines := by decide +kernel
  have u7 : ∀ w ∈ wsX70, w ∈ wsX7_fines := by decide +kernel
  show Sm Γ Λ (0, 0) 0 [(0, .ref (Λ.2.2.2.1 0))] [] v _
  unfold f_X7_fines
  refine sm_aload_n hG 1 rfl dX7_fines_0 rfl 0 rfl ?_
  refine sm_iconst (x := (0 : Int32)) hG 2 rfl dX7_fines_1 rfl ?_
  refine pM0_12 hG hM  5 rfl u7 f40 dX7_fines_2 ?_
  refine sm_nmv (fun w2_1 => ?_)
  refine sm_aload_n hG 6 rfl dX7_fines_5 rfl 0 rfl ?_
  refine gM0_0 hG hM  9 rfl u7 f7 dX7_fines_6 ?_
  refine sm_bipush (x := (7 : Int32)) hG 11 rfl dX7_fines_9 rfl ?_
  refine lA hG (ia_1 hM) 12 rfl dX7_fines_11 ?_
  exact sm_iret hG hT ⟨Nat.zero_le _, Nat.zero_le _⟩ dX7_fines_12 rfl
abbrev rmX7_day : Room := { frames := 0, cells := 0, slots := 0, locals := 0 }
set_option maxRecDepth 100000 in
set_option maxHeartbeats 4000000 in
theorem c_X7_day {Λ : jL Nat} (hM : LM Λ)   {l : Launch} {v : mM} {r : (Int32 × mM)} (hr_ : f_X7_day v = some r) : Ct l yX7_day wsX7_day rmX7_day Λ [.ref (Λ.2.2.2.1 0)] v (some (.int r.1)) r.2 := by
  refine ct_of (cc := cX7_day) (maxL := 1) (ret := (some .int)) (fun (q : Int32 × mM) => (some (Value.int q.1), q.2)) hM.1 hr_ (by decide) rfl (Nat.le_of_ble_eq_true rfl) (fun Γ hG hT hN hl => ?_)
  subst hl
  have f40 : Cond.fieldLink RX7 40 "ChoirRegisterModel" "thrown" "I" ∈ wsX7_day := by decide +kernel
  have f7 : Cond.fieldLink RX7 7 "ChoirRegisterModel" "now" "[I" ∈ wsX7_day := by decide +kernel
  have u7 : ∀ w ∈ wsX70, w ∈ wsX7_day := by decide +kernel
  show Sm Γ Λ (0, 0) 0 [(0, .ref (Λ.2.2.2.1 0))] [] v _
  unfold f_X7_day
  refine sm_aload_n hG 1 rfl dX7_day_0 rfl 0 rfl ?_
  refine sm_iconst (x := (0 : Int32)) hG 2 rfl dX7_day_1 rfl ?_
  refine pM0_12 hG hM  5 rfl u7 f40 dX7_day_2 ?_
  refine sm_nmv (fun w2_1 => ?_)
  refine sm_aload_n hG 6 rfl dX7_day_5 rfl 0 rfl ?_
  refine gM0_0 hG hM  9 rfl u7 f7 dX7_day_6 ?_
  refine sm_iconst (x := (0 : Int32)) hG 10 rfl dX7_day_9 rfl ?_
  refine lA hG (ia_1 hM) 11 rfl dX7_day_10 ?_
  exact sm_iret hG hT ⟨Nat.zero_le _, Nat.zero_le _⟩ dX7_day_11 rfl
abbrev rmX7_recordedStates : Room := { frames := 0, cells := 0, slots := 0, locals := 0 }
set_option maxRecDepth 100000 in
set_option maxHeartbeats 4000000 in
theorem c_X7_recordedStates {Λ : jL Nat} (hM : LM Λ)   {l : Launch} {v : mM} {r : (Int32 × mM)} (hr_ : f_X7_recordedStates v = some r) : Ct l yX7_recordedStates wsX7_recordedStates rmX7_recordedStates Λ [.ref (Λ.2.2.2.1 0)] v (some (.int r.1)) r.2 := by
  refine ct_of (cc := cX7_recordedStates) (maxL := 1) (ret := (some .int)) (fun (q : Int32 × mM) => (some (Value.int q.1), q.2)) hM.1 hr_ (by decide) rfl (Nat.le_of_ble_eq_true rfl) (fun Γ hG hT hN hl => ?_)
  subst hl
  have f40 : Cond.fieldLink RX7 40 "ChoirRegisterModel" "thrown" "I" ∈ wsX7_recordedStates := by decide +kernel
  have f44 : Cond.fieldLink RX7 44 "ChoirRegisterModel" "states" "I" ∈ wsX7_recordedStates := by decide +kernel
  have u7 : ∀ w ∈ wsX70, w ∈ wsX7_recordedStates := by decide +kernel
  show Sm Γ Λ (0, 0) 0 [(0, .ref (Λ.2.2.2.1 0))] [] v _
  unfold f_X7_recordedStates
  refine sm_aload_n hG 1 rfl dX7_recordedStates_0 rfl 0 rfl ?_
  refine sm_iconst (x := (0 : Int32)) hG 2 rfl dX7_recordedStates_1 rfl ?_
  refine pM0_12 hG hM  5 rfl u7 f40 dX7_recordedStates_2 ?_
  refine sm_nmv (fun w2_1 => ?_)
  refine sm_aload_n hG 6 rfl dX7_recordedStates_5 rfl 0 rfl ?_
  refine gM0_2 hG hM  9 rfl u7 f44 dX7_recordedStates_6 ?_
  exact sm_iret hG hT ⟨Nat.zero_le _, Nat.zero_le _⟩ dX7_recordedStates_9 rfl
