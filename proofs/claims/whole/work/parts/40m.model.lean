/-! printed by wip/whole/jgen.py out of the bytecode: the walks -/
abbrev rmX7_thrown : Room := { frames := 0, cells := 0, slots := 0, locals := 0 }
set_option maxRecDepth 100000 in
set_option maxHeartbeats 4000000 in
theorem c_X7_thrown {Λ : jL Nat} (hM : LM Λ)   {l : Launch} {v : mM} {r : Int32} (hr_ : f_X7_thrown v = some r) : Ct l yX7_thrown wsX7_thrown rmX7_thrown Λ [.ref (Λ.2.2.2.1 0)] v (some (.int r)) v := by
  refine ct_of (cc := cX7_thrown) (maxL := 1) (ret := (some .int)) (fun (q : Int32) => (some (Value.int q), v)) hM.1 hr_ (by decide) rfl (Nat.le_of_ble_eq_true rfl) (fun Γ hG hT hN hl => ?_)
  subst hl
  have f40 : Cond.fieldLink RX7 40 "ChoirRegisterModel" "thrown" "I" ∈ wsX7_thrown := by decide +kernel
  have u7 : ∀ w ∈ wsX70, w ∈ wsX7_thrown := by decide +kernel
  show Sm Γ Λ (0, 0) 0 [(0, .ref (Λ.2.2.2.1 0))] [] v _
  unfold f_X7_thrown
  refine sm_aload_n hG 1 rfl dX7_thrown_0 rfl 0 rfl ?_
  refine gM0_12 hG hM  4 rfl u7 f40 dX7_thrown_1 ?_
  exact sm_iret hG hT ⟨Nat.zero_le _, Nat.zero_le _⟩ dX7_thrown_4 rfl
abbrev rmX7_refuses : Room := { frames := 0, cells := 0, slots := 0, locals := 0 }
set_option maxRecDepth 100000 in
set_option maxHeartbeats 4000000 in
theorem c_X7_refuses {Λ : jL Nat} (hM : LM Λ) {x1 : Int32}  {l : Launch} {v : mM} {r : (Int32 × mM)} (hr_ : f_X7_refuses x1 v = some r) : Ct l yX7_refuses wsX7_refuses rmX7_refuses Λ [.ref (Λ.2.2.2.1 0), .int x1] v (some (.int r.1)) r.2 := by
  refine ct_of (cc := cX7_refuses) (maxL := 2) (ret := (some .int)) (fun (q : Int32 × mM) => (some (Value.int q.1), q.2)) hM.1 hr_ (by decide) rfl (Nat.le_of_ble_eq_true rfl) (fun Γ hG hT hN hl => ?_)
  subst hl
  have f40 : Cond.fieldLink RX7 40 "ChoirRegisterModel" "thrown" "I" ∈ wsX7_refuses := by decide +kernel
  have u7 : ∀ w ∈ wsX70, w ∈ wsX7_refuses := by decide +kernel
  show Sm Γ Λ (0, 0) 0 [(0, .ref (Λ.2.2.2.1 0)), (1, .int x1)] [] v _
  unfold f_X7_refuses
  refine sm_aload_n hG 1 rfl dX7_refuses_0 rfl 0 rfl ?_
  refine sm_iload_n hG 2 rfl dX7_refuses_1 rfl 1 rfl ?_
  refine pM0_12 hG hM  5 rfl u7 f40 dX7_refuses_2 ?_
  refine sm_nmv (fun w2_1 => ?_)
  refine sm_iconst (x := (0 : Int32)) hG 6 rfl dX7_refuses_5 rfl ?_
  exact sm_iret hG hT ⟨Nat.zero_le _, Nat.zero_le _⟩ dX7_refuses_6 rfl
abbrev rmX7_in : Room := { frames := 0, cells := 0, slots := 0, locals := 0 }
set_option maxRecDepth 100000 in
set_option maxHeartbeats 4000000 in
theorem c_X7_in {Λ : jL Nat} (hM : LM Λ) {x0 : Int32} {x1 : Int32} {x2 : Int32}  {l : Launch} {v : mM} {r : Int32} (hr_ : f_X7_in x0 x1 x2 v = some r) : Ct l yX7_in wsX7_in rmX7_in Λ [.int x0, .int x1, .int x2] v (some (.int r)) v := by
  refine ct_of (cc := cX7_in) (maxL := 3) (ret := (some .boolean)) (fun (q : Int32) => (some (Value.int q), v)) hM.1 hr_ (by decide) rfl (Nat.le_of_ble_eq_true rfl) (fun Γ hG hT hN hl => ?_)
  subst hl
  show Sm Γ Λ (0, 0) 0 [(0, .int x0), (1, .int x1), (2, .int x2)] [] v _
  unfold f_X7_in
  refine sm_iload_n hG 1 rfl dX7_in_0 rfl 0 rfl ?_
  refine sm_iload_n hG 2 rfl dX7_in_1 rfl 1 rfl ?_
  refine sm_icmp_lt hG 14 5 rfl dX7_in_2 (by decide) ?_ ?_
  · refine sm_iconst (x := (0 : Int32)) hG 15 rfl dX7_in_14 rfl ?_
    exact sm_bret hG hT ⟨Nat.zero_le _, Nat.zero_le _⟩ dX7_in_15 rfl
  · refine sm_iload_n hG 6 rfl dX7_in_5 rfl 0 rfl ?_
    refine sm_iload_n hG 7 rfl dX7_in_6 rfl 2 rfl ?_
    refine sm_icmp_gt hG 14 10 rfl dX7_in_7 (by decide) ?_ ?_
    · refine sm_iconst (x := (0 : Int32)) hG 15 rfl dX7_in_14 rfl ?_
      exact sm_bret hG hT ⟨Nat.zero_le _, Nat.zero_le _⟩ dX7_in_15 rfl
    · refine sm_iconst (x := (1 : Int32)) hG 11 rfl dX7_in_10 rfl ?_
      refine sm_goto hG 15 dX7_in_11 (by decide) ?_
      exact sm_bret hG hT ⟨Nat.zero_le _, Nat.zero_le _⟩ dX7_in_15 rfl
abbrev rmX7_lays : Room := { frames := 0, cells := 0, slots := 0, locals := 0 }
set_option maxRecDepth 100000 in
set_option maxHeartbeats 4000000 in
theorem c_X7_lays {Λ : jL Nat} (hM : LM Λ) {n0 : Nat} {n1 : Nat} {k0 : Nat} {k2 : Nat} {x1 : Int32} {x3 : Int32} (hk0 : isA Λ 0 n0 k0) (hk2 : isA Λ 0 n1 k2) {l : Launch} {v : mM} {r : mM} (hr_ : f_X7_lays n0 n1 k0 k2 x1 x3 v = some r) : Ct l yX7_lays wsX7_lays rmX7_lays Λ [.ref (Λ.2.2.2.1 k0), .int x1, .ref (Λ.2.2.2.1 k2), .int x3] v none r := by
  refine ct_of (cc := cX7_lays) (maxL := 5) (ret := none) (fun (w : mM) => ((none : Option Value), w)) hM.1 hr_ (by decide) rfl (Nat.le_of_ble_eq_true rfl) (fun Γ hG hT hN hl => ?_)
  subst hl
  show Sm Γ Λ (0, 0) 0 [(0, .ref (Λ.2.2.2.1 k0)), (1, .int x1), (2, .ref (Λ.2.2.2.1 k2)), (3, .int x3)] [] v _
  unfold f_X7_lays
  refine sm_iconst (x := (0 : Int32)) hG 1 rfl dX7_lays_0 rfl ?_
  refine sm_istore hG 3 rfl dX7_lays_1 (jlt hN rfl) [(4, .int (0 : Int32)), (0, .ref (Λ.2.2.2.1 k0)), (1, .int x1), (2, .ref (Λ.2.2.2.1 k2)), (3, .int x3)] rfl ?_
  refine sm_loc [1, 2, 3, 4, 0] [(0, .ref (Λ.2.2.2.1 k0)), (1, .int x1), (2, .ref (Λ.2.2.2.1 k2)), (3, .int x3), (4, .int (0 : Int32))] rfl ?_
  refine lp_ind (fun (X3 : Int32 → mM → Option mM) => ∀ (x4_3 : Int32) (v_3 : mM), Sm Γ Λ (0, 0) 3 [(0, .ref (Λ.2.2.2.1 k0)), (1, .int x1), (2, .ref (Λ.2.2.2.1 k2)), (3, .int x3), (4, .int x4_3)] [] v_3 (X3 x4_3 v_3)) (fun _ _ => sm_none) (fun self3 hs3 x4_3 v_3 => ?_) 8192 _ _
  refine sm_iload hG 5 rfl dX7_lays_3 4 rfl ?_
  refine sm_sipush (x := (1483 : Int32)) hG 8 rfl dX7_lays_5 rfl ?_
  refine sm_icmp_ge hG 29 11 rfl dX7_lays_8 (by decide) ?_ ?_
  · exact sm_vret hG hT ⟨Nat.zero_le _, Nat.zero_le _⟩ dX7_lays_29 rfl
  · refine sm_aload_n hG 12 rfl dX7_lays_11 rfl 2 rfl ?_
    refine sm_iload_n hG 13 rfl dX7_lays_12 rfl 3 rfl ?_
    refine sm_iload hG 15 rfl dX7_lays_13 4 rfl ?_
    refine sm_iadd hG 16 rfl dX7_lays_15 ?_
    refine sm_aload_n hG 17 rfl dX7_lays_16 rfl 0 rfl ?_
    refine sm_iload_n hG 18 rfl dX7_lays_17 rfl 1 rfl ?_
    refine sm_iload hG 20 rfl dX7_lays_18 4 rfl ?_
    refine sm_iadd hG 21 rfl dX7_lays_20 ?_
    refine lA hG hk0 22 rfl dX7_lays_21 ?_
    refine sA hG hk2 23 rfl dX7_lays_22 ?_
    refine sm_nmv (fun w22_1 => ?_)
    refine sm_iinc hG 26 rfl dX7_lays_23 (j := 4) rfl rfl (jlt hN rfl) [(4, .int (x4_3 + (1 : Int32))), (0, .ref (Λ.2.2.2.1 k0)), (1, .int x1), (2, .ref (Λ.2.2.2.1 k2)), (3, .int x3)] rfl ?_
    refine sm_goto hG 3 dX7_lays_26 (by decide) ?_
    refine sm_loc [1, 2, 3, 4, 0] [(0, .ref (Λ.2.2.2.1 k0)), (1, .int x1), (2, .ref (Λ.2.2.2.1 k2)), (3, .int x3), (4, .int (x4_3 + (1 : Int32)))] rfl ?_
    exact hs3 _ _
abbrev rmX7_saves : Room := { frames := 1, cells := 0, slots := 0, locals := 24 }
set_option maxRecDepth 100000 in
set_option maxHeartbeats 4000000 in
theorem c_X7_saves {Λ : jL Nat} (hM : LM Λ) {k1 : Nat} (hk1 : isA Λ 0 1483 k1) {l : Launch} {v : mM} {r : mM} (hr_ : f_X7_saves k1 v = some r) : Ct l yX7_saves wsX7_saves rmX7_saves Λ [.ref (Λ.2.2.2.1 0), .ref (Λ.2.2.2.1 k1)] v none r := by
  refine ct_of (cc := cX7_saves) (maxL := 3) (ret := none) (fun (w : mM) => ((none : Option Value), w)) hM.1 hr_ (by decide) rfl (Nat.le_of_ble_eq_true rfl) (fun Γ hG hT hN hl => ?_)
  subst hl
  have f13 : Cond.fieldLink RX7 13 "ChoirRegisterModel" "past" "[I" ∈ wsX7_saves := by decide +kernel
  have f44 : Cond.fieldLink RX7 44 "ChoirRegisterModel" "states" "I" ∈ wsX7_saves := by decide +kernel
  have u7 : ∀ w ∈ wsX70, w ∈ wsX7_saves := by decide +kernel
  show Sm Γ Λ (0, 0) 0 [(0, .ref (Λ.2.2.2.1 0)), (1, .ref (Λ.2.2.2.1 k1))] [] v _
  unfold f_X7_saves
  refine sm_jn (fun (X49 : mM → Option mM) => ∀ (v_49 : mM), Sm Γ Λ (0, 0) 49 [(0, .ref (Λ.2.2.2.1 0)), (1, .ref (Λ.2.2.2.1 k1))] [] v_49 (X49 v_49)) (fun v_49 => ?_) (fun j49 hj49 => ?_)
  · refine sm_aload_n hG 50 rfl dX7_saves_49 rfl 1 rfl ?_
    refine sm_iconst (x := (0 : Int32)) hG 51 rfl dX7_saves_50 rfl ?_
    refine sm_aload_n hG 52 rfl dX7_saves_51 rfl 0 rfl ?_
    refine gM0_1 hG hM  55 rfl u7 f13 dX7_saves_52 ?_
    refine sm_sipush (x := (1483 : Int32)) hG 58 rfl dX7_saves_55 rfl ?_
    refine sm_aload_n hG 59 rfl dX7_saves_58 rfl 0 rfl ?_
    refine gM0_2 hG hM  62 rfl u7 f44 dX7_saves_59 ?_
    refine sm_imul hG 63 rfl dX7_saves_62 ?_
    refine sm_callS hG (fun (w : mM) => ((none : Option Value), w)) [.ref (Λ.2.2.2.1 k1), .int (0 : Int32), .ref (Λ.2.2.2.1 2), .int ((1483 : Int32) * (v_49 0 2))] 66 rfl (fun r_ hr_ => c_X7_lays hM hk1 (ia_2 hM)  hr_) gX7_saves_X7_lays rfl (by decide) (by decide) (n := 4) rfl (Nat.le_of_ble_eq_true rfl) (by decide) ⟨Nat.zero_le _, Nat.zero_le _⟩ rfl dX7_saves_63 (fun r_63 => ?_)
    refine sm_aload_n hG 67 rfl dX7_saves_66 rfl 0 rfl ?_
    refine sm_dup hG 68 rfl dX7_saves_67 rfl ?_
    refine gM0_2 hG hM  71 rfl u7 f44 dX7_saves_68 ?_
    refine sm_iconst (x := (1 : Int32)) hG 72 rfl dX7_saves_71 rfl ?_
    refine sm_iadd hG 73 rfl dX7_saves_72 ?_
    refine pM0_2 hG hM  76 rfl u7 f44 dX7_saves_73 ?_
    refine sm_nmv (fun w73_3 => ?_)
    exact sm_vret hG hT ⟨Nat.zero_le _, Nat.zero_le _⟩ dX7_saves_76 rfl
  · refine sm_aload_n hG 1 rfl dX7_saves_0 rfl 0 rfl ?_
    refine gM0_2 hG hM  4 rfl u7 f44 dX7_saves_1 ?_
    refine sm_iconst (x := (4 : Int32)) hG 5 rfl dX7_saves_4 rfl ?_
    refine sm_icmp_ne hG 49 8 rfl dX7_saves_5 (by decide) ?_ ?_
    · exact hj49 _
    · refine sm_iconst (x := (0 : Int32)) hG 9 rfl dX7_saves_8 rfl ?_
      refine sm_istore_n hG 10 rfl dX7_saves_9 rfl (jlt hN rfl) [(2, .int (0 : Int32)), (0, .ref (Λ.2.2.2.1 0)), (1, .ref (Λ.2.2.2.1 k1))] rfl ?_
      refine sm_loc [1, 2, 0] [(0, .ref (Λ.2.2.2.1 0)), (1, .ref (Λ.2.2.2.1 k1)), (2, .int (0 : Int32))] rfl ?_
      refine lp_ind (fun (X10 : Int32 → mM → Option mM) => ∀ (x2_10 : Int32) (v_10 : mM), Sm Γ Λ (0, 0) 10 [(0, .ref (Λ.2.2.2.1 0)), (1, .ref (Λ.2.2.2.1 k1)), (2, .int x2_10)] [] v_10 (X10 x2_10 v_10)) (fun _ _ => sm_none) (fun self10 hs10 x2_10 v_10 => ?_) 8192 _ _
      refine sm_iload_n hG 11 rfl dX7_saves_10 rfl 2 rfl ?_
      refine sm_sipush (x := (4449 : Int32)) hG 14 rfl dX7_saves_11 rfl ?_
      refine sm_icmp_ge hG 39 17 rfl dX7_saves_14 (by decide) ?_ ?_
      · refine sm_aload_n hG 40 rfl dX7_saves_39 rfl 0 rfl ?_
        refine sm_dup hG 41 rfl dX7_saves_40 rfl ?_
        refine gM0_2 hG hM  44 rfl u7 f44 dX7_saves_41 ?_
        refine sm_iconst (x := (1 : Int32)) hG 45 rfl dX7_saves_44 rfl ?_
        refine sm_isub hG 46 rfl dX7_saves_45 ?_
        refine pM0_2 hG hM  49 rfl u7 f44 dX7_saves_46 ?_
        refine sm_nmv (fun w46_1 => ?_)
        refine sm_loc [0, 1] [(0, .ref (Λ.2.2.2.1 0)), (1, .ref (Λ.2.2.2.1 k1))] rfl ?_
        exact hj49 _
      · refine sm_aload_n hG 18 rfl dX7_saves_17 rfl 0 rfl ?_
        refine gM0_1 hG hM  21 rfl u7 f13 dX7_saves_18 ?_
        refine sm_iload_n hG 22 rfl dX7_saves_21 rfl 2 rfl ?_
        refine sm_aload_n hG 23 rfl dX7_saves_22 rfl 0 rfl ?_
        refine gM0_1 hG hM  26 rfl u7 f13 dX7_saves_23 ?_
        refine sm_iload_n hG 27 rfl dX7_saves_26 rfl 2 rfl ?_
        refine sm_sipush (x := (1483 : Int32)) hG 30 rfl dX7_saves_27 rfl ?_
        refine sm_iadd hG 31 rfl dX7_saves_30 ?_
        refine lA hG (ia_2 hM) 32 rfl dX7_saves_31 ?_
        refine sA hG (ia_2 hM) 33 rfl dX7_saves_32 ?_
        refine sm_nmv (fun w32_2 => ?_)
        refine sm_iinc hG 36 rfl dX7_saves_33 (j := 2) rfl rfl (jlt hN rfl) [(2, .int (x2_10 + (1 : Int32))), (0, .ref (Λ.2.2.2.1 0)), (1, .ref (Λ.2.2.2.1 k1))] rfl ?_
        refine sm_goto hG 10 dX7_saves_36 (by decide) ?_
        refine sm_loc [1, 2, 0] [(0, .ref (Λ.2.2.2.1 0)), (1, .ref (Λ.2.2.2.1 k1)), (2, .int (x2_10 + (1 : Int32)))] rfl ?_
        exact hs10 _ _
abbrev rmX7_isSinger : Room := { frames := 1, cells := 0, slots := 0, locals := 22 }
set_option maxRecDepth 100000 in
set_option maxHeartbeats 4000000 in
theorem c_X7_isSinger {Λ : jL Nat} (hM : LM Λ) {x1 : Int32}  {l : Launch} {v : mM} {r : Int32} (hr_ : f_X7_isSinger x1 v = some r) : Ct l yX7_isSinger wsX7_isSinger rmX7_isSinger Λ [.ref (Λ.2.2.2.1 0), .int x1] v (some (.int r)) v := by
  refine ct_of (cc := cX7_isSinger) (maxL := 2) (ret := (some .boolean)) (fun (q : Int32) => (some (Value.int q), v)) hM.1 hr_ (by decide) rfl (Nat.le_of_ble_eq_true rfl) (fun Γ hG hT hN hl => ?_)
  subst hl
  have f7 : Cond.fieldLink RX7 7 "ChoirRegisterModel" "now" "[I" ∈ wsX7_isSinger := by decide +kernel
  have u7 : ∀ w ∈ wsX70, w ∈ wsX7_isSinger := by decide +kernel
  show Sm Γ Λ (0, 0) 0 [(0, .ref (Λ.2.2.2.1 0)), (1, .int x1)] [] v _
  unfold f_X7_isSinger
  refine sm_iload_n hG 1 rfl dX7_isSinger_0 rfl 1 rfl ?_
  refine sm_iconst (x := (0 : Int32)) hG 2 rfl dX7_isSinger_1 rfl ?_
  refine sm_aload_n hG 3 rfl dX7_isSinger_2 rfl 0 rfl ?_
  refine gM0_0 hG hM  6 rfl u7 f7 dX7_isSinger_3 ?_
  refine sm_iconst (x := (1 : Int32)) hG 7 rfl dX7_isSinger_6 rfl ?_
  refine lA hG (ia_1 hM) 8 rfl dX7_isSinger_7 ?_
  refine sm_iconst (x := (1 : Int32)) hG 9 rfl dX7_isSinger_8 rfl ?_
  refine sm_isub hG 10 rfl dX7_isSinger_9 ?_
  refine sm_callS hG (fun (q : Int32) => (some (Value.int q), v)) [.int x1, .int (0 : Int32), .int ((v 1 (ix (1 : Int32))) - (1 : Int32))] 13 rfl (fun r_ hr_ => c_X7_in hM   hr_) gX7_isSinger_X7_in rfl (by decide) (by decide) (n := 3) rfl (Nat.le_of_ble_eq_true rfl) (by decide) ⟨Nat.zero_le _, Nat.zero_le _⟩ rfl dX7_isSinger_10 (fun r_10 => ?_)
  exact sm_bret hG hT ⟨Nat.zero_le _, Nat.zero_le _⟩ dX7_isSinger_13 rfl
abbrev rmX7_its : Room := { frames := 0, cells := 0, slots := 0, locals := 0 }
set_option maxRecDepth 100000 in
set_option maxHeartbeats 4000000 in
theorem c_X7_its {Λ : jL Nat} (hM : LM Λ) {x1 : Int32} {x2 : Int32}  {l : Launch} {v : mM} {r : Int32} (hr_ : f_X7_its x1 x2 v = some r) : Ct l yX7_its wsX7_its rmX7_its Λ [.ref (Λ.2.2.2.1 0), .int x1, .int x2] v (some (.int r)) v := by
  refine ct_of (cc := cX7_its) (maxL := 3) (ret := (some .int)) (fun (q : Int32) => (some (Value.int q), v)) hM.1 hr_ (by decide) rfl (Nat.le_of_ble_eq_true rfl) (fun Γ hG hT hN hl => ?_)
  subst hl
  have f7 : Cond.fieldLink RX7 7 "ChoirRegisterModel" "now" "[I" ∈ wsX7_its := by decide +kernel
  have u7 : ∀ w ∈ wsX70, w ∈ wsX7_its := by decide +kernel
  show Sm Γ Λ (0, 0) 0 [(0, .ref (Λ.2.2.2.1 0)), (1, .int x1), (2, .int x2)] [] v _
  unfold f_X7_its
  refine sm_aload_n hG 1 rfl dX7_its_0 rfl 0 rfl ?_
  refine gM0_0 hG hM  4 rfl u7 f7 dX7_its_1 ?_
  refine sm_bipush (x := (13 : Int32)) hG 6 rfl dX7_its_4 rfl ?_
  refine sm_bipush (x := (13 : Int32)) hG 8 rfl dX7_its_6 rfl ?_
  refine sm_iload_n hG 9 rfl dX7_its_8 rfl 1 rfl ?_
  refine sm_imul hG 10 rfl dX7_its_9 ?_
  refine sm_iadd hG 11 rfl dX7_its_10 ?_
  refine sm_iload_n hG 12 rfl dX7_its_11 rfl 2 rfl ?_
  refine sm_iadd hG 13 rfl dX7_its_12 ?_
  refine lA hG (ia_1 hM) 14 rfl dX7_its_13 ?_
  refine sm_nmi (fun y13_1 => ?_)
  exact sm_iret hG hT ⟨Nat.zero_le _, Nat.zero_le _⟩ dX7_its_14 rfl
abbrev rmX7_lay : Room := { frames := 0, cells := 0, slots := 0, locals := 0 }
set_option maxRecDepth 100000 in
set_option maxHeartbeats 4000000 in
theorem c_X7_lay {Λ : jL Nat} (hM : LM Λ) {x1 : Int32} {x2 : Int32} {x3 : Int32}  {l : Launch} {v : mM} {r : mM} (hr_ : f_X7_lay x1 x2 x3 v = some r) : Ct l yX7_lay wsX7_lay rmX7_lay Λ [.ref (Λ.2.2.2.1 0), .int x1, .int x2, .int x3] v none r := by
  refine ct_of (cc := cX7_lay) (maxL := 4) (ret := none) (fun (w : mM) => ((none : Option Value), w)) hM.1 hr_ (by decide) rfl (Nat.le_of_ble_eq_true rfl) (fun Γ hG hT hN hl => ?_)
  subst hl
  have f7 : Cond.fieldLink RX7 7 "ChoirRegisterModel" "now" "[I" ∈ wsX7_lay := by decide +kernel
  have u7 : ∀ w ∈ wsX70, w ∈ wsX7_lay := by decide +kernel
  show Sm Γ Λ (0, 0) 0 [(0, .ref (Λ.2.2.2.1 0)), (1, .int x1), (2, .int x2), (3, .int x3)] [] v _
  unfold f_X7_lay
  refine sm_aload_n hG 1 rfl dX7_lay_0 rfl 0 rfl ?_
  refine gM0_0 hG hM  4 rfl u7 f7 dX7_lay_1 ?_
  refine sm_bipush (x := (13 : Int32)) hG 6 rfl dX7_lay_4 rfl ?_
  refine sm_bipush (x := (13 : Int32)) hG 8 rfl dX7_lay_6 rfl ?_
  refine sm_iload_n hG 9 rfl dX7_lay_8 rfl 1 rfl ?_
  refine sm_imul hG 10 rfl dX7_lay_9 ?_
  refine sm_iadd hG 11 rfl dX7_lay_10 ?_
  refine sm_iload_n hG 12 rfl dX7_lay_11 rfl 2 rfl ?_
  refine sm_iadd hG 13 rfl dX7_lay_12 ?_
  refine sm_iload_n hG 14 rfl dX7_lay_13 rfl 3 rfl ?_
  refine sA hG (ia_1 hM) 15 rfl dX7_lay_14 ?_
  refine sm_nmv (fun w14_1 => ?_)
  exact sm_vret hG hT ⟨Nat.zero_le _, Nat.zero_le _⟩ dX7_lay_15 rfl
abbrev rmX7_isChoir : Room := { frames := 1, cells := 0, slots := 0, locals := 22 }
set_option maxRecDepth 100000 in
set_option maxHeartbeats 4000000 in
theorem c_X7_isChoir {Λ : jL Nat} (hM : LM Λ) {x0 : Int32}  {l : Launch} {v : mM} {r : Int32} (hr_ : f_X7_isChoir x0 v = some r) : Ct l yX7_isChoir wsX7_isChoir rmX7_isChoir Λ [.int x0] v (some (.int r)) v := by
  refine ct_of (cc := cX7_isChoir) (maxL := 1) (ret := (some .boolean)) (fun (q : Int32) => (some (Value.int q), v)) hM.1 hr_ (by decide) rfl (Nat.le_of_ble_eq_true rfl) (fun Γ hG hT hN hl => ?_)
  subst hl
  show Sm Γ Λ (0, 0) 0 [(0, .int x0)] [] v _
  unfold f_X7_isChoir
  refine sm_iload_n hG 1 rfl dX7_isChoir_0 rfl 0 rfl ?_
  refine sm_iconst (x := (0 : Int32)) hG 2 rfl dX7_isChoir_1 rfl ?_
  refine sm_iconst (x := (4 : Int32)) hG 3 rfl dX7_isChoir_2 rfl ?_
  refine sm_callS hG (fun (q : Int32) => (some (Value.int q), v)) [.int x0, .int (0 : Int32), .int (4 : Int32)] 6 rfl (fun r_ hr_ => c_X7_in hM   hr_) gX7_isChoir_X7_in rfl (by decide) (by decide) (n := 3) rfl (Nat.le_of_ble_eq_true rfl) (by decide) ⟨Nat.zero_le _, Nat.zero_le _⟩ rfl dX7_isChoir_3 (fun r_3 => ?_)
  exact sm_bret hG hT ⟨Nat.zero_le _, Nat.zero_le _⟩ dX7_isChoir_6 rfl
abbrev rmX7_areNotes : Room := { frames := 1, cells := 0, slots := 0, locals := 22 }
set_option maxRecDepth 100000 in
set_option maxHeartbeats 4000000 in
theorem c_X7_areNotes {Λ : jL Nat} (hM : LM Λ) {x0 : Int32} {x1 : Int32}  {l : Launch} {v : mM} {r : Int32} (hr_ : f_X7_areNotes x0 x1 v = some r) : Ct l yX7_areNotes wsX7_areNotes rmX7_areNotes Λ [.int x0, .int x1] v (some (.int r)) v := by
  refine ct_of (cc := cX7_areNotes) (maxL := 2) (ret := (some .boolean)) (fun (q : Int32) => (some (Value.int q), v)) hM.1 hr_ (by decide) rfl (Nat.le_of_ble_eq_true rfl) (fun Γ hG hT hN hl => ?_)
  subst hl
  show Sm Γ Λ (0, 0) 0 [(0, .int x0), (1, .int x1)] [] v _
  unfold f_X7_areNotes
  refine sm_iload_n hG 1 rfl dX7_areNotes_0 rfl 0 rfl ?_
  refine sm_iconst (x := (0 : Int32)) hG 2 rfl dX7_areNotes_1 rfl ?_
  refine sm_bipush (x := (48 : Int32)) hG 4 rfl dX7_areNotes_2 rfl ?_
  refine sm_callS hG (fun (q : Int32) => (some (Value.int q), v)) [.int x0, .int (0 : Int32), .int (48 : Int32)] 7 rfl (fun r_ hr_ => c_X7_in hM   hr_) gX7_areNotes_X7_in rfl (by decide) (by decide) (n := 3) rfl (Nat.le_of_ble_eq_true rfl) (by decide) ⟨Nat.zero_le _, Nat.zero_le _⟩ rfl dX7_areNotes_4 (fun r_4 => ?_)
  refine sm_if_eq hG 24 10 rfl dX7_areNotes_7 (by decide) ?_ ?_
  · refine sm_iconst (x := (0 : Int32)) hG 25 rfl dX7_areNotes_24 rfl ?_
    exact sm_bret hG hT ⟨Nat.zero_le _, Nat.zero_le _⟩ dX7_areNotes_25 rfl
  · refine sm_iload_n hG 11 rfl dX7_areNotes_10 rfl 1 rfl ?_
    refine sm_iload_n hG 12 rfl dX7_areNotes_11 rfl 0 rfl ?_
    refine sm_bipush (x := (48 : Int32)) hG 14 rfl dX7_areNotes_12 rfl ?_
    refine sm_callS hG (fun (q : Int32) => (some (Value.int q), v)) [.int x1, .int x0, .int (48 : Int32)] 17 rfl (fun r_ hr_ => c_X7_in hM   hr_) gX7_areNotes_X7_in rfl (by decide) (by decide) (n := 3) rfl (Nat.le_of_ble_eq_true rfl) (by decide) ⟨Nat.zero_le _, Nat.zero_le _⟩ rfl dX7_areNotes_14 (fun r_14 => ?_)
    refine sm_if_eq hG 24 20 rfl dX7_areNotes_17 (by decide) ?_ ?_
    · refine sm_iconst (x := (0 : Int32)) hG 25 rfl dX7_areNotes_24 rfl ?_
      exact sm_bret hG hT ⟨Nat.zero_le _, Nat.zero_le _⟩ dX7_areNotes_25 rfl
    · refine sm_iconst (x := (1 : Int32)) hG 21 rfl dX7_areNotes_20 rfl ?_
      refine sm_goto hG 25 dX7_areNotes_21 (by decide) ?_
      exact sm_bret hG hT ⟨Nat.zero_le _, Nat.zero_le _⟩ dX7_areNotes_25 rfl
abbrev rmX7_isHigh : Room := { frames := 1, cells := 0, slots := 0, locals := 22 }
set_option maxRecDepth 100000 in
set_option maxHeartbeats 4000000 in
theorem c_X7_isHigh {Λ : jL Nat} (hM : LM Λ) {x0 : Int32}  {l : Launch} {v : mM} {r : Int32} (hr_ : f_X7_isHigh x0 v = some r) : Ct l yX7_isHigh wsX7_isHigh rmX7_isHigh Λ [.int x0] v (some (.int r)) v := by
  refine ct_of (cc := cX7_isHigh) (maxL := 1) (ret := (some .boolean)) (fun (q : Int32) => (some (Value.int q), v)) hM.1 hr_ (by decide) rfl (Nat.le_of_ble_eq_true rfl) (fun Γ hG hT hN hl => ?_)
  subst hl
  show Sm Γ Λ (0, 0) 0 [(0, .int x0)] [] v _
  unfold f_X7_isHigh
  refine sm_iload_n hG 1 rfl dX7_isHigh_0 rfl 0 rfl ?_
  refine sm_bipush (x := (90 : Int32)) hG 3 rfl dX7_isHigh_1 rfl ?_
  refine sm_sipush (x := (210 : Int32)) hG 6 rfl dX7_isHigh_3 rfl ?_
  refine sm_callS hG (fun (q : Int32) => (some (Value.int q), v)) [.int x0, .int (90 : Int32), .int (210 : Int32)] 9 rfl (fun r_ hr_ => c_X7_in hM   hr_) gX7_isHigh_X7_in rfl (by decide) (by decide) (n := 3) rfl (Nat.le_of_ble_eq_true rfl) (by decide) ⟨Nat.zero_le _, Nat.zero_le _⟩ rfl dX7_isHigh_6 (fun r_6 => ?_)
  exact sm_bret hG hT ⟨Nat.zero_le _, Nat.zero_le _⟩ dX7_isHigh_9 rfl
abbrev rmX7_enters : Room := { frames := 1, cells := 0, slots := 0, locals := 23 }
set_option maxRecDepth 100000 in
set_option maxHeartbeats 4000000 in
theorem c_X7_enters {Λ : jL Nat} (hM : LM Λ) {x1 : Int32} {x2 : Int32} {x3 : Int32} {x4 : Int32} {x5 : Int32}  {l : Launch} {v : mM} {r : (Int32 × mM)} (hr_ : f_X7_enters x1 x2 x3 x4 x5 v = some r) : Ct l yX7_enters wsX7_enters rmX7_enters Λ [.ref (Λ.2.2.2.1 0), .int x1, .int x2, .int x3, .int x4, .int x5] v (some (.int r.1)) r.2 := by
  refine ct_of (cc := cX7_enters) (maxL := 8) (ret := (some .int)) (fun (q : Int32 × mM) => (some (Value.int q.1), q.2)) hM.1 hr_ (by decide) rfl (Nat.le_of_ble_eq_true rfl) (fun Γ hG hT hN hl => ?_)
  subst hl
  have f7 : Cond.fieldLink RX7 7 "ChoirRegisterModel" "now" "[I" ∈ wsX7_enters := by decide +kernel
  have u7 : ∀ w ∈ wsX70, w ∈ wsX7_enters := by decide +kernel
  show Sm Γ Λ (0, 0) 0 [(0, .ref (Λ.2.2.2.1 0)), (1, .int x1), (2, .int x2), (3, .int x3), (4, .int x4), (5, .int x5)] [] v _
  unfold f_X7_enters
  refine sm_aload_n hG 1 rfl dX7_enters_0 rfl 0 rfl ?_
  refine gM0_0 hG hM  4 rfl u7 f7 dX7_enters_1 ?_
  refine sm_iconst (x := (1 : Int32)) hG 5 rfl dX7_enters_4 rfl ?_
  refine lA hG (ia_1 hM) 6 rfl dX7_enters_5 ?_
  refine sm_istore hG 8 rfl dX7_enters_6 (jlt hN rfl) [(6, .int (v 1 (ix (1 : Int32)))), (0, .ref (Λ.2.2.2.1 0)), (1, .int x1), (2, .int x2), (3, .int x3), (4, .int x4), (5, .int x5)] rfl ?_
  refine sm_aload_n hG 9 rfl dX7_enters_8 rfl 1 rfl ?_
  refine sm_iload hG 11 rfl dX7_enters_9 0 rfl ?_
  refine sm_iconst (x := (0 : Int32)) hG 12 rfl dX7_enters_11 rfl ?_
  refine sm_iload_n hG 13 rfl dX7_enters_12 rfl 2 rfl ?_
  refine sm_callV hG (fun (w : mM) => ((none : Option Value), w)) 0 [.int (v 1 (ix (1 : Int32))), .int (0 : Int32), .int x1] 16 rfl (okm hM (by decide)) (me_0 hM _) (ci := 7) rfl (fun r_ hr_ => c_X7_lay hM   hr_) gX7_enters_X7_lay rfl (by decide) (by decide) (n := 3) rfl (Nat.le_of_ble_eq_true rfl) (by decide) ⟨Nat.zero_le _, Nat.zero_le _⟩ rfl dX7_enters_13 (fun r_13 => ?_)
  refine sm_aload_n hG 17 rfl dX7_enters_16 rfl 1 rfl ?_
  refine sm_iload hG 19 rfl dX7_enters_17 0 rfl ?_
  refine sm_iconst (x := (1 : Int32)) hG 20 rfl dX7_enters_19 rfl ?_
  refine sm_iload_n hG 21 rfl dX7_enters_20 rfl 3 rfl ?_
  refine sm_callV hG (fun (w : mM) => ((none : Option Value), w)) 0 [.int (v 1 (ix (1 : Int32))), .int (1 : Int32), .int x2] 24 rfl (okm hM (by decide)) (me_0 hM _) (ci := 7) rfl (fun r_ hr_ => c_X7_lay hM   hr_) gX7_enters_X7_lay rfl (by decide) (by decide) (n := 3) rfl (Nat.le_of_ble_eq_true rfl) (by decide) ⟨Nat.zero_le _, Nat.zero_le _⟩ rfl dX7_enters_21 (fun r_21 => ?_)
  refine sm_aload_n hG 25 rfl dX7_enters_24 rfl 1 rfl ?_
  refine sm_iload hG 27 rfl dX7_enters_25 0 rfl ?_
  refine sm_iconst (x := (2 : Int32)) hG 28 rfl dX7_enters_27 rfl ?_
  refine sm_aload_n hG 29 rfl dX7_enters_28 rfl 1 rfl ?_
  refine gM0_0 hG hM  32 rfl u7 f7 dX7_enters_29 ?_
  refine sm_iconst (x := (0 : Int32)) hG 33 rfl dX7_enters_32 rfl ?_
  refine lA hG (ia_1 hM) 34 rfl dX7_enters_33 ?_
  refine sm_callV hG (fun (w : mM) => ((none : Option Value), w)) 0 [.int (v 1 (ix (1 : Int32))), .int (2 : Int32), .int (r_21 1 (ix (0 : Int32)))] 37 rfl (okm hM (by decide)) (me_0 hM _) (ci := 7) rfl (fun r_ hr_ => c_X7_lay hM   hr_) gX7_enters_X7_lay rfl (by decide) (by decide) (n := 3) rfl (Nat.le_of_ble_eq_true rfl) (by decide) ⟨Nat.zero_le _, Nat.zero_le _⟩ rfl dX7_enters_34 (fun r_34 => ?_)
  refine sm_aload_n hG 38 rfl dX7_enters_37 rfl 1 rfl ?_
  refine sm_iload hG 40 rfl dX7_enters_38 0 rfl ?_
  refine sm_iconst (x := (3 : Int32)) hG 41 rfl dX7_enters_40 rfl ?_
  refine sm_iload_n hG 42 rfl dX7_enters_41 rfl 4 rfl ?_
  refine sm_callV hG (fun (w : mM) => ((none : Option Value), w)) 0 [.int (v 1 (ix (1 : Int32))), .int (3 : Int32), .int x3] 45 rfl (okm hM (by decide)) (me_0 hM _) (ci := 7) rfl (fun r_ hr_ => c_X7_lay hM   hr_) gX7_enters_X7_lay rfl (by decide) (by decide) (n := 3) rfl (Nat.le_of_ble_eq_true rfl) (by decide) ⟨Nat.zero_le _, Nat.zero_le _⟩ rfl dX7_enters_42 (fun r_42 => ?_)
  refine sm_aload_n hG 46 rfl dX7_enters_45 rfl 1 rfl ?_
  refine sm_iload hG 48 rfl dX7_enters_46 0 rfl ?_
  refine sm_iconst (x := (4 : Int32)) hG 49 rfl dX7_enters_48 rfl ?_
  refine sm_iload hG 51 rfl dX7_enters_49 5 rfl ?_
  refine sm_callV hG (fun (w : mM) => ((none : Option Value), w)) 0 [.int (v 1 (ix (1 : Int32))), .int (4 : Int32), .int x4] 54 rfl (okm hM (by decide)) (me_0 hM _) (ci := 7) rfl (fun r_ hr_ => c_X7_lay hM   hr_) gX7_enters_X7_lay rfl (by decide) (by decide) (n := 3) rfl (Nat.le_of_ble_eq_true rfl) (by decide) ⟨Nat.zero_le _, Nat.zero_le _⟩ rfl dX7_enters_51 (fun r_51 => ?_)
  refine sm_aload_n hG 55 rfl dX7_enters_54 rfl 1 rfl ?_
  refine sm_iload hG 57 rfl dX7_enters_55 0 rfl ?_
  refine sm_iconst (x := (5 : Int32)) hG 58 rfl dX7_enters_57 rfl ?_
  refine sm_iload hG 60 rfl dX7_enters_58 6 rfl ?_
  refine sm_callV hG (fun (w : mM) => ((none : Option Value), w)) 0 [.int (v 1 (ix (1 : Int32))), .int (5 : Int32), .int x5] 63 rfl (okm hM (by decide)) (me_0 hM _) (ci := 7) rfl (fun r_ hr_ => c_X7_lay hM   hr_) gX7_enters_X7_lay rfl (by decide) (by decide) (n := 3) rfl (Nat.le_of_ble_eq_true rfl) (by decide) ⟨Nat.zero_le _, Nat.zero_le _⟩ rfl dX7_enters_60 (fun r_60 => ?_)
  refine sm_aload_n hG 64 rfl dX7_enters_63 rfl 1 rfl ?_
  refine sm_iload hG 66 rfl dX7_enters_64 0 rfl ?_
  refine sm_bipush (x := (6 : Int32)) hG 68 rfl dX7_enters_66 rfl ?_
  refine sm_iconst (x := (-1 : Int32)) hG 69 rfl dX7_enters_68 rfl ?_
  refine sm_callV hG (fun (w : mM) => ((none : Option Value), w)) 0 [.int (v 1 (ix (1 : Int32))), .int (6 : Int32), .int (-1 : Int32)] 72 rfl (okm hM (by decide)) (me_0 hM _) (ci := 7) rfl (fun r_ hr_ => c_X7_lay hM   hr_) gX7_enters_X7_lay rfl (by decide) (by decide) (n := 3) rfl (Nat.le_of_ble_eq_true rfl) (by decide) ⟨Nat.zero_le _, Nat.zero_le _⟩ rfl dX7_enters_69 (fun r_69 => ?_)
  refine sm_bipush (x := (7 : Int32)) hG 74 rfl dX7_enters_72 rfl ?_
  refine sm_istore hG 76 rfl dX7_enters_74 (jlt hN rfl) [(7, .int (7 : Int32)), (6, .int (v 1 (ix (1 : Int32)))), (0, .ref (Λ.2.2.2.1 0)), (1, .int x1), (2, .int x2), (3, .int x3), (4, .int x4), (5, .int x5)] rfl ?_
  refine sm_loc [2, 1, 0] [(0, .ref (Λ.2.2.2.1 0)), (6, .int (v 1 (ix (1 : Int32)))), (7, .int (7 : Int32))] rfl ?_
  refine lp_ind (fun (X76 : Int32 → mM → Option (Int32 × mM)) => ∀ (x7_76 : Int32) (v_76 : mM), Sm Γ Λ (0, 0) 76 [(0, .ref (Λ.2.2.2.1 0)), (6, .int (v 1 (ix (1 : Int32)))), (7, .int x7_76)] [] v_76 (X76 x7_76 v_76)) (fun _ _ => sm_none) (fun self76 hs76 x7_76 v_76 => ?_) 8192 _ _
  refine sm_iload hG 78 rfl dX7_enters_76 2 rfl ?_
  refine sm_bipush (x := (13 : Int32)) hG 80 rfl dX7_enters_78 rfl ?_
  refine sm_icmp_ge hG 98 83 rfl dX7_enters_80 (by decide) ?_ ?_
  · refine sm_aload_n hG 99 rfl dX7_enters_98 rfl 0 rfl ?_
    refine sm_iload hG 101 rfl dX7_enters_99 1 rfl ?_
    refine sm_bipush (x := (10 : Int32)) hG 103 rfl dX7_enters_101 rfl ?_
    refine sm_iconst (x := (-1 : Int32)) hG 104 rfl dX7_enters_103 rfl ?_
    refine sm_callV hG (fun (w : mM) => ((none : Option Value), w)) 0 [.int (v 1 (ix (1 : Int32))), .int (10 : Int32), .int (-1 : Int32)] 107 rfl (okm hM (by decide)) (me_0 hM _) (ci := 7) rfl (fun r_ hr_ => c_X7_lay hM   hr_) gX7_enters_X7_lay rfl (by decide) (by decide) (n := 3) rfl (Nat.le_of_ble_eq_true rfl) (by decide) ⟨Nat.zero_le _, Nat.zero_le _⟩ rfl dX7_enters_104 (fun r_104 => ?_)
    refine sm_aload_n hG 108 rfl dX7_enters_107 rfl 0 rfl ?_
    refine gM0_0 hG hM  111 rfl u7 f7 dX7_enters_108 ?_
    refine sm_iconst (x := (1 : Int32)) hG 112 rfl dX7_enters_111 rfl ?_
    refine sm_dup2 hG 113 rfl dX7_enters_112 rfl rfl ?_
    refine lA hG (ia_1 hM) 114 rfl dX7_enters_113 ?_
    refine sm_iconst (x := (1 : Int32)) hG 115 rfl dX7_enters_114 rfl ?_
    refine sm_iadd hG 116 rfl dX7_enters_115 ?_
    refine sA hG (ia_1 hM) 117 rfl dX7_enters_116 ?_
    refine sm_nmv (fun w116_1 => ?_)
    refine sm_iload hG 119 rfl dX7_enters_117 1 rfl ?_
    exact sm_iret hG hT ⟨Nat.zero_le _, Nat.zero_le _⟩ dX7_enters_119 rfl
  · refine sm_aload_n hG 84 rfl dX7_enters_83 rfl 0 rfl ?_
    refine sm_iload hG 86 rfl dX7_enters_84 1 rfl ?_
    refine sm_iload hG 88 rfl dX7_enters_86 2 rfl ?_
    refine sm_iconst (x := (0 : Int32)) hG 89 rfl dX7_enters_88 rfl ?_
    refine sm_callV hG (fun (w : mM) => ((none : Option Value), w)) 0 [.int (v 1 (ix (1 : Int32))), .int x7_76, .int (0 : Int32)] 92 rfl (okm hM (by decide)) (me_0 hM _) (ci := 7) rfl (fun r_ hr_ => c_X7_lay hM   hr_) gX7_enters_X7_lay rfl (by decide) (by decide) (n := 3) rfl (Nat.le_of_ble_eq_true rfl) (by decide) ⟨Nat.zero_le _, Nat.zero_le _⟩ rfl dX7_enters_89 (fun r_89 => ?_)
    refine sm_iinc hG 95 rfl dX7_enters_92 (j := 2) rfl rfl (jlt hN rfl) [(7, .int (x7_76 + (1 : Int32))), (0, .ref (Λ.2.2.2.1 0)), (6, .int (v 1 (ix (1 : Int32))))] rfl ?_
    refine sm_goto hG 76 dX7_enters_95 (by decide) ?_
    refine sm_loc [1, 2, 0] [(0, .ref (Λ.2.2.2.1 0)), (6, .int (v 1 (ix (1 : Int32)))), (7, .int (x7_76 + (1 : Int32)))] rfl ?_
    exact hs76 _ _
abbrev rmX7_isBreakAge : Room := { frames := 1, cells := 0, slots := 0, locals := 22 }
set_option maxRecDepth 100000 in
set_option maxHeartbeats 4000000 in
theorem c_X7_isBreakAge {Λ : jL Nat} (hM : LM Λ) {x0 : Int32}  {l : Launch} {v : mM} {r : Int32} (hr_ : f_X7_isBreakAge x0 v = some r) : Ct l yX7_isBreakAge wsX7_isBreakAge rmX7_isBreakAge Λ [.int x0] v (some (.int r)) v := by
  refine ct_of (cc := cX7_isBreakAge) (maxL := 1) (ret := (some .boolean)) (fun (q : Int32) => (some (Value.int q), v)) hM.1 hr_ (by decide) rfl (Nat.le_of_ble_eq_true rfl) (fun Γ hG hT hN hl => ?_)
  subst hl
  show Sm Γ Λ (0, 0) 0 [(0, .int x0)] [] v _
  unfold f_X7_isBreakAge
  refine sm_iload_n hG 1 rfl dX7_isBreakAge_0 rfl 0 rfl ?_
  refine sm_if_eq hG 15 4 rfl dX7_isBreakAge_1 (by decide) ?_ ?_
  · refine sm_iconst (x := (1 : Int32)) hG 16 rfl dX7_isBreakAge_15 rfl ?_
    refine sm_goto hG 20 dX7_isBreakAge_16 (by decide) ?_
    exact sm_bret hG hT ⟨Nat.zero_le _, Nat.zero_le _⟩ dX7_isBreakAge_20 rfl
  · refine sm_iload_n hG 5 rfl dX7_isBreakAge_4 rfl 0 rfl ?_
    refine sm_bipush (x := (12 : Int32)) hG 7 rfl dX7_isBreakAge_5 rfl ?_
    refine sm_bipush (x := (17 : Int32)) hG 9 rfl dX7_isBreakAge_7 rfl ?_
    refine sm_callS hG (fun (q : Int32) => (some (Value.int q), v)) [.int x0, .int (12 : Int32), .int (17 : Int32)] 12 rfl (fun r_ hr_ => c_X7_in hM   hr_) gX7_isBreakAge_X7_in rfl (by decide) (by decide) (n := 3) rfl (Nat.le_of_ble_eq_true rfl) (by decide) ⟨Nat.zero_le _, Nat.zero_le _⟩ rfl dX7_isBreakAge_9 (fun r_9 => ?_)
    refine sm_if_eq hG 19 15 rfl dX7_isBreakAge_12 (by decide) ?_ ?_
    · refine sm_iconst (x := (0 : Int32)) hG 20 rfl dX7_isBreakAge_19 rfl ?_
      exact sm_bret hG hT ⟨Nat.zero_le _, Nat.zero_le _⟩ dX7_isBreakAge_20 rfl
    · refine sm_iconst (x := (1 : Int32)) hG 16 rfl dX7_isBreakAge_15 rfl ?_
      refine sm_goto hG 20 dX7_isBreakAge_16 (by decide) ?_
      exact sm_bret hG hT ⟨Nat.zero_le _, Nat.zero_le _⟩ dX7_isBreakAge_20 rfl
abbrev rmX7_isOwn : Room := { frames := 2, cells := 0, slots := 0, locals := 42 }
set_option maxRecDepth 100000 in
set_option maxHeartbeats 4000000 in
theorem c_X7_isOwn {Λ : jL Nat} (hM : LM Λ) {x0 : Int32} {x1 : Int32} {x2 : Int32}  {l : Launch} {v : mM} {r : Int32} (hr_ : f_X7_isOwn x0 x1 x2 v = some r) : Ct l yX7_isOwn wsX7_isOwn rmX7_isOwn Λ [.int x0, .int x1, .int x2] v (some (.int r)) v := by
  refine ct_of (cc := cX7_isOwn) (maxL := 3) (ret := (some .boolean)) (fun (q : Int32) => (some (Value.int q), v)) hM.1 hr_ (by decide) rfl (Nat.le_of_ble_eq_true rfl) (fun Γ hG hT hN hl => ?_)
  subst hl
  show Sm Γ Λ (0, 0) 0 [(0, .int x0), (1, .int x1), (2, .int x2)] [] v _
  unfold f_X7_isOwn
  refine sm_iload_n hG 1 rfl dX7_isOwn_0 rfl 0 rfl ?_
  refine sm_bipush (x := (7 : Int32)) hG 3 rfl dX7_isOwn_1 rfl ?_
  refine sm_bipush (x := (70 : Int32)) hG 5 rfl dX7_isOwn_3 rfl ?_
  refine sm_callS hG (fun (q : Int32) => (some (Value.int q), v)) [.int x0, .int (7 : Int32), .int (70 : Int32)] 8 rfl (fun r_ hr_ => c_X7_in hM   hr_) gX7_isOwn_X7_in rfl (by decide) (by decide) (n := 3) rfl (Nat.le_of_ble_eq_true rfl) (by decide) ⟨Nat.zero_le _, Nat.zero_le _⟩ rfl dX7_isOwn_5 (fun r_5 => ?_)
  refine sm_if_eq hG 29 11 rfl dX7_isOwn_8 (by decide) ?_ ?_
  · refine sm_iconst (x := (0 : Int32)) hG 30 rfl dX7_isOwn_29 rfl ?_
    exact sm_bret hG hT ⟨Nat.zero_le _, Nat.zero_le _⟩ dX7_isOwn_30 rfl
  · refine sm_iload_n hG 12 rfl dX7_isOwn_11 rfl 1 rfl ?_
    refine sm_callS hG (fun (q : Int32) => (some (Value.int q), v)) [.int x1] 15 rfl (fun r_ hr_ => c_X7_isHigh hM   hr_) gX7_isOwn_X7_isHigh rfl (by decide) (by decide) (n := 1) rfl (Nat.le_of_ble_eq_true rfl) (by decide) ⟨Nat.zero_le _, Nat.zero_le _⟩ rfl dX7_isOwn_12 (fun r_12 => ?_)
    refine sm_if_eq hG 29 18 rfl dX7_isOwn_15 (by decide) ?_ ?_
    · refine sm_iconst (x := (0 : Int32)) hG 30 rfl dX7_isOwn_29 rfl ?_
      exact sm_bret hG hT ⟨Nat.zero_le _, Nat.zero_le _⟩ dX7_isOwn_30 rfl
    · refine sm_iload_n hG 19 rfl dX7_isOwn_18 rfl 2 rfl ?_
      refine sm_callS hG (fun (q : Int32) => (some (Value.int q), v)) [.int x2] 22 rfl (fun r_ hr_ => c_X7_isBreakAge hM   hr_) gX7_isOwn_X7_isBreakAge rfl (by decide) (by decide) (n := 1) rfl (Nat.le_of_ble_eq_true rfl) (by decide) ⟨Nat.zero_le _, Nat.zero_le _⟩ rfl dX7_isOwn_19 (fun r_19 => ?_)
      refine sm_if_eq hG 29 25 rfl dX7_isOwn_22 (by decide) ?_ ?_
      · refine sm_iconst (x := (0 : Int32)) hG 30 rfl dX7_isOwn_29 rfl ?_
        exact sm_bret hG hT ⟨Nat.zero_le _, Nat.zero_le _⟩ dX7_isOwn_30 rfl
      · refine sm_iconst (x := (1 : Int32)) hG 26 rfl dX7_isOwn_25 rfl ?_
        refine sm_goto hG 30 dX7_isOwn_26 (by decide) ?_
        exact sm_bret hG hT ⟨Nat.zero_le _, Nat.zero_le _⟩ dX7_isOwn_30 rfl
abbrev rmX7_registers : Room := { frames := 2, cells := 0, slots := 0, locals := 50 }
set_option maxRecDepth 100000 in
set_option maxHeartbeats 4000000 in
theorem c_X7_registers {Λ : jL Nat} (hM : LM Λ) {x1 : Int32} {x2 : Int32} {x3 : Int32} {x4 : Int32} {x5 : Int32}  {l : Launch} {v : mM} {r : (Int32 × mM)} (hr_ : f_X7_registers x1 x2 x3 x4 x5 v = some r) : Ct l yX7_registers wsX7_registers rmX7_registers Λ [.ref (Λ.2.2.2.1 0), .int x1, .int x2, .int x3, .int x4, .int x5] v (some (.int r.1)) r.2 := by
  refine ct_of (cc := cX7_registers) (maxL := 7) (ret := (some .int)) (fun (q : Int32 × mM) => (some (Value.int q.1), q.2)) hM.1 hr_ (by decide) rfl (Nat.le_of_ble_eq_true rfl) (fun Γ hG hT hN hl => ?_)
  subst hl
  have f7 : Cond.fieldLink RX7 7 "ChoirRegisterModel" "now" "[I" ∈ wsX7_registers := by decide +kernel
  have u7 : ∀ w ∈ wsX70, w ∈ wsX7_registers := by decide +kernel
  show Sm Γ Λ (0, 0) 0 [(0, .ref (Λ.2.2.2.1 0)), (1, .int x1), (2, .int x2), (3, .int x3), (4, .int x4), (5, .int x5)] [] v _
  unfold f_X7_registers
  refine sm_jn (fun (X42 : Int32 → Int32 → Int32 → Int32 → mM → Option (Int32 × mM)) => ∀ (x6_42 : Int32) (s0_42 : Int32) (s1_42 : Int32) (s2_42 : Int32) (v_42 : mM), Sm Γ Λ (0, 0) 42 [(6, .int x6_42)] [.int s0_42, .int s1_42, .int s2_42, .ref (Λ.2.2.2.1 0)] v_42 (X42 x6_42 s0_42 s1_42 s2_42 v_42)) (fun x6_42 s0_42 s1_42 s2_42 v_42 => ?_) (fun j42 hj42 => ?_)
  · refine sm_callV hG (fun (w : mM) => ((none : Option Value), w)) 0 [.int s2_42, .int s1_42, .int s0_42] 45 rfl (okm hM (by decide)) (me_0 hM _) (ci := 7) rfl (fun r_ hr_ => c_X7_lay hM   hr_) gX7_registers_X7_lay rfl (by decide) (by decide) (n := 3) rfl (Nat.le_of_ble_eq_true rfl) (by decide) ⟨Nat.zero_le _, Nat.zero_le _⟩ rfl dX7_registers_42 (fun r_42 => ?_)
    refine sm_iload hG 47 rfl dX7_registers_45 0 rfl ?_
    exact sm_iret hG hT ⟨Nat.zero_le _, Nat.zero_le _⟩ dX7_registers_47 rfl
  · refine sm_aload_n hG 1 rfl dX7_registers_0 rfl 0 rfl ?_
    refine sm_iconst (x := (-1 : Int32)) hG 2 rfl dX7_registers_1 rfl ?_
    refine sm_iload_n hG 3 rfl dX7_registers_2 rfl 1 rfl ?_
    refine sm_iload_n hG 4 rfl dX7_registers_3 rfl 2 rfl ?_
    refine sm_iload_n hG 5 rfl dX7_registers_4 rfl 3 rfl ?_
    refine sm_iload hG 7 rfl dX7_registers_5 4 rfl ?_
    refine sm_callV hG (fun (q : Int32 × mM) => (some (Value.int q.1), q.2)) 0 [.int (-1 : Int32), .int x1, .int x2, .int x3, .int x4] 10 rfl (okm hM (by decide)) (me_0 hM _) (ci := 7) rfl (fun r_ hr_ => c_X7_enters hM   hr_) gX7_registers_X7_enters rfl (by decide) (by decide) (n := 5) rfl (Nat.le_of_ble_eq_true rfl) (by decide) ⟨Nat.zero_le _, Nat.zero_le _⟩ rfl dX7_registers_7 (fun r_7 => ?_)
    refine sm_istore hG 12 rfl dX7_registers_10 (jlt hN rfl) [(6, .int r_7.1), (0, .ref (Λ.2.2.2.1 0)), (1, .int x1), (2, .int x2), (3, .int x3), (4, .int x4), (5, .int x5)] rfl ?_
    refine sm_aload_n hG 13 rfl dX7_registers_12 rfl 1 rfl ?_
    refine sm_iload hG 15 rfl dX7_registers_13 0 rfl ?_
    refine sm_bipush (x := (6 : Int32)) hG 17 rfl dX7_registers_15 rfl ?_
    refine sm_iload_n hG 18 rfl dX7_registers_17 rfl 2 rfl ?_
    refine sm_iload hG 20 rfl dX7_registers_18 6 rfl ?_
    refine sm_icmp_ge hG 41 23 rfl dX7_registers_20 (by decide) ?_ ?_
    · refine sm_iconst (x := (-1 : Int32)) hG 42 rfl dX7_registers_41 rfl ?_
      refine sm_loc [0] [(6, .int r_7.1)] rfl ?_
      exact hj42 _ _ _ _ _
    · refine sm_aload_n hG 24 rfl dX7_registers_23 rfl 1 rfl ?_
      refine gM0_0 hG hM  27 rfl u7 f7 dX7_registers_24 ?_
      refine sm_iconst (x := (0 : Int32)) hG 28 rfl dX7_registers_27 rfl ?_
      refine lA hG (ia_1 hM) 29 rfl dX7_registers_28 ?_
      refine sm_sipush (x := (360 : Int32)) hG 32 rfl dX7_registers_29 rfl ?_
      refine sm_iload hG 34 rfl dX7_registers_32 6 rfl ?_
      refine sm_iload_n hG 35 rfl dX7_registers_34 rfl 2 rfl ?_
      refine sm_isub hG 36 rfl dX7_registers_35 ?_
      refine sm_imul hG 37 rfl dX7_registers_36 ?_
      refine sm_iadd hG 38 rfl dX7_registers_37 ?_
      refine sm_nmi (fun y37_1 => ?_)
      refine sm_goto hG 42 dX7_registers_38 (by decide) ?_
      refine sm_loc [0] [(6, .int r_7.1)] rfl ?_
      exact hj42 _ _ _ _ _
abbrev rmX7_there : Room := { frames := 1, cells := 0, slots := 0, locals := 22 }
set_option maxRecDepth 100000 in
set_option maxHeartbeats 4000000 in
theorem c_X7_there {Λ : jL Nat} (hM : LM Λ)   {l : Launch} {v : mM} {r : Int32} (hr_ : f_X7_there v = some r) : Ct l yX7_there wsX7_there rmX7_there Λ [.ref (Λ.2.2.2.1 0)] v (some (.int r)) v := by
  refine ct_of (cc := cX7_there) (maxL := 3) (ret := (some .int)) (fun (q : Int32) => (some (Value.int q), v)) hM.1 hr_ (by decide) rfl (Nat.le_of_ble_eq_true rfl) (fun Γ hG hT hN hl => ?_)
  subst hl
  have f7 : Cond.fieldLink RX7 7 "ChoirRegisterModel" "now" "[I" ∈ wsX7_there := by decide +kernel
  have u7 : ∀ w ∈ wsX70, w ∈ wsX7_there := by decide +kernel
  show Sm Γ Λ (0, 0) 0 [(0, .ref (Λ.2.2.2.1 0))] [] v _
  unfold f_X7_there
  refine sm_iconst (x := (0 : Int32)) hG 1 rfl dX7_there_0 rfl ?_
  refine sm_istore_n hG 2 rfl dX7_there_1 rfl (jlt hN rfl) [(1, .int (0 : Int32)), (0, .ref (Λ.2.2.2.1 0))] rfl ?_
  refine sm_iconst (x := (0 : Int32)) hG 3 rfl dX7_there_2 rfl ?_
  refine sm_istore_n hG 4 rfl dX7_there_3 rfl (jlt hN rfl) [(2, .int (0 : Int32)), (1, .int (0 : Int32)), (0, .ref (Λ.2.2.2.1 0))] rfl ?_
  refine sm_loc [2, 1, 0] [(0, .ref (Λ.2.2.2.1 0)), (1, .int (0 : Int32)), (2, .int (0 : Int32))] rfl ?_
  refine lp_ind (fun (X4 : Int32 → Int32 → Option Int32) => ∀ (x1_4 : Int32) (x2_4 : Int32), Sm Γ Λ (0, 0) 4 [(0, .ref (Λ.2.2.2.1 0)), (1, .int x1_4), (2, .int x2_4)] [] v (X4 x1_4 x2_4)) (fun _ _ => sm_none) (fun self4 hs4 x1_4 x2_4 => ?_) 8192 _ _
  refine sm_iload_n hG 5 rfl dX7_there_4 rfl 2 rfl ?_
  refine sm_aload_n hG 6 rfl dX7_there_5 rfl 0 rfl ?_
  refine gM0_0 hG hM  9 rfl u7 f7 dX7_there_6 ?_
  refine sm_iconst (x := (1 : Int32)) hG 10 rfl dX7_there_9 rfl ?_
  refine lA hG (ia_1 hM) 11 rfl dX7_there_10 ?_
  refine sm_icmp_ge hG 32 14 rfl dX7_there_11 (by decide) ?_ ?_
  · refine sm_iload_n hG 33 rfl dX7_there_32 rfl 1 rfl ?_
    exact sm_iret hG hT ⟨Nat.zero_le _, Nat.zero_le _⟩ dX7_there_33 rfl
  · refine sm_iload_n hG 15 rfl dX7_there_14 rfl 1 rfl ?_
    refine sm_iconst (x := (1 : Int32)) hG 16 rfl dX7_there_15 rfl ?_
    refine sm_aload_n hG 17 rfl dX7_there_16 rfl 0 rfl ?_
    refine sm_iload_n hG 18 rfl dX7_there_17 rfl 2 rfl ?_
    refine sm_bipush (x := (7 : Int32)) hG 20 rfl dX7_there_18 rfl ?_
    refine sm_callV hG (fun (q : Int32) => (some (Value.int q), v)) 0 [.int x2_4, .int (7 : Int32)] 23 rfl (okm hM (by decide)) (me_0 hM _) (ci := 7) rfl (fun r_ hr_ => c_X7_its hM   hr_) gX7_there_X7_its rfl (by decide) (by decide) (n := 2) rfl (Nat.le_of_ble_eq_true rfl) (by decide) ⟨Nat.zero_le _, Nat.zero_le _⟩ rfl dX7_there_20 (fun r_20 => ?_)
    refine sm_isub hG 24 rfl dX7_there_23 ?_
    refine sm_iadd hG 25 rfl dX7_there_24 ?_
    refine sm_istore_n hG 26 rfl dX7_there_25 rfl (jlt hN rfl) [(1, .int (x1_4 + ((1 : Int32) - r_20))), (0, .ref (Λ.2.2.2.1 0)), (2, .int x2_4)] rfl ?_
    refine sm_iinc hG 29 rfl dX7_there_26 (j := 2) rfl rfl (jlt hN rfl) [(2, .int (x2_4 + (1 : Int32))), (1, .int (x1_4 + ((1 : Int32) - r_20))), (0, .ref (Λ.2.2.2.1 0))] rfl ?_
    refine sm_goto hG 4 dX7_there_29 (by decide) ?_
    refine sm_loc [2, 1, 0] [(0, .ref (Λ.2.2.2.1 0)), (1, .int (x1_4 + ((1 : Int32) - r_20))), (2, .int (x2_4 + (1 : Int32)))] rfl ?_
    exact hs4 _ _
abbrev rmX7_leaves : Room := { frames := 2, cells := 0, slots := 0, locals := 44 }
set_option maxRecDepth 100000 in
set_option maxHeartbeats 4000000 in
theorem c_X7_leaves {Λ : jL Nat} (hM : LM Λ) {x1 : Int32}  {l : Launch} {v : mM} {r : (Int32 × mM)} (hr_ : f_X7_leaves x1 v = some r) : Ct l yX7_leaves wsX7_leaves rmX7_leaves Λ [.ref (Λ.2.2.2.1 0), .int x1] v (some (.int r.1)) r.2 := by
  refine ct_of (cc := cX7_leaves) (maxL := 2) (ret := (some .int)) (fun (q : Int32 × mM) => (some (Value.int q.1), q.2)) hM.1 hr_ (by decide) rfl (Nat.le_of_ble_eq_true rfl) (fun Γ hG hT hN hl => ?_)
  subst hl
  show Sm Γ Λ (0, 0) 0 [(0, .ref (Λ.2.2.2.1 0)), (1, .int x1)] [] v _
  unfold f_X7_leaves
  refine sm_aload_n hG 1 rfl dX7_leaves_0 rfl 0 rfl ?_
  refine sm_iload_n hG 2 rfl dX7_leaves_1 rfl 1 rfl ?_
  refine sm_bipush (x := (7 : Int32)) hG 4 rfl dX7_leaves_2 rfl ?_
  refine sm_iconst (x := (1 : Int32)) hG 5 rfl dX7_leaves_4 rfl ?_
  refine sm_callV hG (fun (w : mM) => ((none : Option Value), w)) 0 [.int x1, .int (7 : Int32), .int (1 : Int32)] 8 rfl (okm hM (by decide)) (me_0 hM _) (ci := 7) rfl (fun r_ hr_ => c_X7_lay hM   hr_) gX7_leaves_X7_lay rfl (by decide) (by decide) (n := 3) rfl (Nat.le_of_ble_eq_true rfl) (by decide) ⟨Nat.zero_le _, Nat.zero_le _⟩ rfl dX7_leaves_5 (fun r_5 => ?_)
  refine sm_aload_n hG 9 rfl dX7_leaves_8 rfl 0 rfl ?_
  refine sm_callV hG (fun (q : Int32) => (some (Value.int q), r_5)) 0 [] 12 rfl (okm hM (by decide)) (me_0 hM _) (ci := 7) rfl (fun r_ hr_ => c_X7_there hM   hr_) gX7_leaves_X7_there rfl (by decide) (by decide) (n := 0) rfl (Nat.le_of_ble_eq_true rfl) (by decide) ⟨Nat.zero_le _, Nat.zero_le _⟩ rfl dX7_leaves_9 (fun r_9 => ?_)
  exact sm_iret hG hT ⟨Nat.zero_le _, Nat.zero_le _⟩ dX7_leaves_12 rfl
abbrev rmX7_canLend : Room := { frames := 1, cells := 0, slots := 0, locals := 22 }
set_option maxRecDepth 100000 in
set_option maxHeartbeats 4000000 in
theorem c_X7_canLend {Λ : jL Nat} (hM : LM Λ) {x1 : Int32}  {l : Launch} {v : mM} {r : Int32} (hr_ : f_X7_canLend x1 v = some r) : Ct l yX7_canLend wsX7_canLend rmX7_canLend Λ [.ref (Λ.2.2.2.1 0), .int x1] v (some (.int r)) v := by
  refine ct_of (cc := cX7_canLend) (maxL := 2) (ret := (some .boolean)) (fun (q : Int32) => (some (Value.int q), v)) hM.1 hr_ (by decide) rfl (Nat.le_of_ble_eq_true rfl) (fun Γ hG hT hN hl => ?_)
  subst hl
  have f7 : Cond.fieldLink RX7 7 "ChoirRegisterModel" "now" "[I" ∈ wsX7_canLend := by decide +kernel
  have u7 : ∀ w ∈ wsX70, w ∈ wsX7_canLend := by decide +kernel
  show Sm Γ Λ (0, 0) 0 [(0, .ref (Λ.2.2.2.1 0)), (1, .int x1)] [] v _
  unfold f_X7_canLend
  refine sm_aload_n hG 1 rfl dX7_canLend_0 rfl 0 rfl ?_
  refine sm_iload_n hG 2 rfl dX7_canLend_1 rfl 1 rfl ?_
  refine sm_bipush (x := (7 : Int32)) hG 4 rfl dX7_canLend_2 rfl ?_
  refine sm_callV hG (fun (q : Int32) => (some (Value.int q), v)) 0 [.int x1, .int (7 : Int32)] 7 rfl (okm hM (by decide)) (me_0 hM _) (ci := 7) rfl (fun r_ hr_ => c_X7_its hM   hr_) gX7_canLend_X7_its rfl (by decide) (by decide) (n := 2) rfl (Nat.le_of_ble_eq_true rfl) (by decide) ⟨Nat.zero_le _, Nat.zero_le _⟩ rfl dX7_canLend_4 (fun r_4 => ?_)
  refine sm_if_ne hG 40 10 rfl dX7_canLend_7 (by decide) ?_ ?_
  · refine sm_iconst (x := (0 : Int32)) hG 41 rfl dX7_canLend_40 rfl ?_
    exact sm_bret hG hT ⟨Nat.zero_le _, Nat.zero_le _⟩ dX7_canLend_41 rfl
  · refine sm_aload_n hG 11 rfl dX7_canLend_10 rfl 0 rfl ?_
    refine sm_iload_n hG 12 rfl dX7_canLend_11 rfl 1 rfl ?_
    refine sm_iconst (x := (0 : Int32)) hG 13 rfl dX7_canLend_12 rfl ?_
    refine sm_callV hG (fun (q : Int32) => (some (Value.int q), v)) 0 [.int x1, .int (0 : Int32)] 16 rfl (okm hM (by decide)) (me_0 hM _) (ci := 7) rfl (fun r_ hr_ => c_X7_its hM   hr_) gX7_canLend_X7_its rfl (by decide) (by decide) (n := 2) rfl (Nat.le_of_ble_eq_true rfl) (by decide) ⟨Nat.zero_le _, Nat.zero_le _⟩ rfl dX7_canLend_13 (fun r_13 => ?_)
    refine sm_iconst (x := (-1 : Int32)) hG 17 rfl dX7_canLend_16 rfl ?_
    refine sm_icmp_ne hG 40 20 rfl dX7_canLend_17 (by decide) ?_ ?_
    · refine sm_iconst (x := (0 : Int32)) hG 41 rfl dX7_canLend_40 rfl ?_
      exact sm_bret hG hT ⟨Nat.zero_le _, Nat.zero_le _⟩ dX7_canLend_41 rfl
    · refine sm_aload_n hG 21 rfl dX7_canLend_20 rfl 0 rfl ?_
      refine sm_iload_n hG 22 rfl dX7_canLend_21 rfl 1 rfl ?_
      refine sm_bipush (x := (10 : Int32)) hG 24 rfl dX7_canLend_22 rfl ?_
      refine sm_callV hG (fun (q : Int32) => (some (Value.int q), v)) 0 [.int x1, .int (10 : Int32)] 27 rfl (okm hM (by decide)) (me_0 hM _) (ci := 7) rfl (fun r_ hr_ => c_X7_its hM   hr_) gX7_canLend_X7_its rfl (by decide) (by decide) (n := 2) rfl (Nat.le_of_ble_eq_true rfl) (by decide) ⟨Nat.zero_le _, Nat.zero_le _⟩ rfl dX7_canLend_24 (fun r_24 => ?_)
      refine sm_aload_n hG 28 rfl dX7_canLend_27 rfl 0 rfl ?_
      refine gM0_0 hG hM  31 rfl u7 f7 dX7_canLend_28 ?_
      refine sm_iconst (x := (0 : Int32)) hG 32 rfl dX7_canLend_31 rfl ?_
      refine lA hG (ia_1 hM) 33 rfl dX7_canLend_32 ?_
      refine sm_icmp_ge hG 40 36 rfl dX7_canLend_33 (by decide) ?_ ?_
      · refine sm_iconst (x := (0 : Int32)) hG 41 rfl dX7_canLend_40 rfl ?_
        exact sm_bret hG hT ⟨Nat.zero_le _, Nat.zero_le _⟩ dX7_canLend_41 rfl
      · refine sm_iconst (x := (1 : Int32)) hG 37 rfl dX7_canLend_36 rfl ?_
        refine sm_goto hG 41 dX7_canLend_37 (by decide) ?_
        exact sm_bret hG hT ⟨Nat.zero_le _, Nat.zero_le _⟩ dX7_canLend_41 rfl
abbrev rmX7_lends : Room := { frames := 1, cells := 0, slots := 0, locals := 23 }
set_option maxRecDepth 100000 in
set_option maxHeartbeats 4000000 in
theorem c_X7_lends {Λ : jL Nat} (hM : LM Λ) {x1 : Int32} {x2 : Int32} {x3 : Int32}  {l : Launch} {v : mM} {r : (Int32 × mM)} (hr_ : f_X7_lends x1 x2 x3 v = some r) : Ct l yX7_lends wsX7_lends rmX7_lends Λ [.ref (Λ.2.2.2.1 0), .int x1, .int x2, .int x3] v (some (.int r.1)) r.2 := by
  refine ct_of (cc := cX7_lends) (maxL := 4) (ret := (some .int)) (fun (q : Int32 × mM) => (some (Value.int q.1), q.2)) hM.1 hr_ (by decide) rfl (Nat.le_of_ble_eq_true rfl) (fun Γ hG hT hN hl => ?_)
  subst hl
  have f7 : Cond.fieldLink RX7 7 "ChoirRegisterModel" "now" "[I" ∈ wsX7_lends := by decide +kernel
  have u7 : ∀ w ∈ wsX70, w ∈ wsX7_lends := by decide +kernel
  show Sm Γ Λ (0, 0) 0 [(0, .ref (Λ.2.2.2.1 0)), (1, .int x1), (2, .int x2), (3, .int x3)] [] v _
  unfold f_X7_lends
  refine sm_aload_n hG 1 rfl dX7_lends_0 rfl 0 rfl ?_
  refine sm_iload_n hG 2 rfl dX7_lends_1 rfl 1 rfl ?_
  refine sm_bipush (x := (10 : Int32)) hG 4 rfl dX7_lends_2 rfl ?_
  refine sm_aload_n hG 5 rfl dX7_lends_4 rfl 0 rfl ?_
  refine gM0_0 hG hM  8 rfl u7 f7 dX7_lends_5 ?_
  refine sm_iconst (x := (0 : Int32)) hG 9 rfl dX7_lends_8 rfl ?_
  refine lA hG (ia_1 hM) 10 rfl dX7_lends_9 ?_
  refine sm_iload_n hG 11 rfl dX7_lends_10 rfl 3 rfl ?_
  refine sm_iadd hG 12 rfl dX7_lends_11 ?_
  refine sm_callV hG (fun (w : mM) => ((none : Option Value), w)) 0 [.int x1, .int (10 : Int32), .int ((v 1 (ix (0 : Int32))) + x3)] 15 rfl (okm hM (by decide)) (me_0 hM _) (ci := 7) rfl (fun r_ hr_ => c_X7_lay hM   hr_) gX7_lends_X7_lay rfl (by decide) (by decide) (n := 3) rfl (Nat.le_of_ble_eq_true rfl) (by decide) ⟨Nat.zero_le _, Nat.zero_le _⟩ rfl dX7_lends_12 (fun r_12 => ?_)
  refine sm_aload_n hG 16 rfl dX7_lends_15 rfl 0 rfl ?_
  refine gM0_0 hG hM  19 rfl u7 f7 dX7_lends_16 ?_
  refine sm_bipush (x := (8 : Int32)) hG 21 rfl dX7_lends_19 rfl ?_
  refine sm_iload_n hG 22 rfl dX7_lends_21 rfl 2 rfl ?_
  refine sm_iadd hG 23 rfl dX7_lends_22 ?_
  refine sm_dup2 hG 24 rfl dX7_lends_23 rfl rfl ?_
  refine lA hG (ia_1 hM) 25 rfl dX7_lends_24 ?_
  refine sm_iconst (x := (1 : Int32)) hG 26 rfl dX7_lends_25 rfl ?_
  refine sm_iadd hG 27 rfl dX7_lends_26 ?_
  refine sm_nmi (fun y26_1 => ?_)
  refine sA hG (ia_1 hM) 28 rfl dX7_lends_27 ?_
  refine sm_nmv (fun w27_2 => ?_)
  refine sm_aload_n hG 29 rfl dX7_lends_28 rfl 0 rfl ?_
  refine gM0_0 hG hM  32 rfl u7 f7 dX7_lends_29 ?_
  refine sm_iconst (x := (5 : Int32)) hG 33 rfl dX7_lends_32 rfl ?_
  refine sm_dup2 hG 34 rfl dX7_lends_33 rfl rfl ?_
  refine lA hG (ia_1 hM) 35 rfl dX7_lends_34 ?_
  refine sm_iconst (x := (2 : Int32)) hG 36 rfl dX7_lends_35 rfl ?_
  refine sm_iload_n hG 37 rfl dX7_lends_36 rfl 3 rfl ?_
  refine sm_imul hG 38 rfl dX7_lends_37 ?_
  refine sm_iadd hG 39 rfl dX7_lends_38 ?_
  refine sm_nmi (fun y38_3 => ?_)
  refine sA hG (ia_1 hM) 40 rfl dX7_lends_39 ?_
  refine sm_nmv (fun w39_4 => ?_)
  refine sm_aload_n hG 41 rfl dX7_lends_40 rfl 0 rfl ?_
  refine gM0_0 hG hM  44 rfl u7 f7 dX7_lends_41 ?_
  refine sm_iconst (x := (0 : Int32)) hG 45 rfl dX7_lends_44 rfl ?_
  refine lA hG (ia_1 hM) 46 rfl dX7_lends_45 ?_
  refine sm_iload_n hG 47 rfl dX7_lends_46 rfl 3 rfl ?_
  refine sm_iadd hG 48 rfl dX7_lends_47 ?_
  exact sm_iret hG hT ⟨Nat.zero_le _, Nat.zero_le _⟩ dX7_lends_48 rfl
abbrev rmX7_areDays : Room := { frames := 0, cells := 0, slots := 0, locals := 0 }
set_option maxRecDepth 100000 in
set_option maxHeartbeats 4000000 in
theorem c_X7_areDays {Λ : jL Nat} (hM : LM Λ) {x1 : Int32} {x2 : Int32}  {l : Launch} {v : mM} {r : Int32} (hr_ : f_X7_areDays x1 x2 v = some r) : Ct l yX7_areDays wsX7_areDays rmX7_areDays Λ [.ref (Λ.2.2.2.1 0), .int x1, .int x2] v (some (.int r)) v := by
  refine ct_of (cc := cX7_areDays) (maxL := 3) (ret := (some .boolean)) (fun (q : Int32) => (some (Value.int q), v)) hM.1 hr_ (by decide) rfl (Nat.le_of_ble_eq_true rfl) (fun Γ hG hT hN hl => ?_)
  subst hl
  have f7 : Cond.fieldLink RX7 7 "ChoirRegisterModel" "now" "[I" ∈ wsX7_areDays := by decide +kernel
  have u7 : ∀ w ∈ wsX70, w ∈ wsX7_areDays := by decide +kernel
  show Sm Γ Λ (0, 0) 0 [(0, .ref (Λ.2.2.2.1 0)), (1, .int x1), (2, .int x2)] [] v _
  unfold f_X7_areDays
  refine sm_iload_n hG 1 rfl dX7_areDays_0 rfl 1 rfl ?_
  refine sm_aload_n hG 2 rfl dX7_areDays_1 rfl 0 rfl ?_
  refine gM0_0 hG hM  5 rfl u7 f7 dX7_areDays_2 ?_
  refine sm_iconst (x := (0 : Int32)) hG 6 rfl dX7_areDays_5 rfl ?_
  refine lA hG (ia_1 hM) 7 rfl dX7_areDays_6 ?_
  refine sm_icmp_le hG 34 10 rfl dX7_areDays_7 (by decide) ?_ ?_
  · refine sm_iconst (x := (0 : Int32)) hG 35 rfl dX7_areDays_34 rfl ?_
    exact sm_bret hG hT ⟨Nat.zero_le _, Nat.zero_le _⟩ dX7_areDays_35 rfl
  · refine sm_iload_n hG 11 rfl dX7_areDays_10 rfl 1 rfl ?_
    refine sm_sipush (x := (9999 : Int32)) hG 14 rfl dX7_areDays_11 rfl ?_
    refine sm_icmp_gt hG 34 17 rfl dX7_areDays_14 (by decide) ?_ ?_
    · refine sm_iconst (x := (0 : Int32)) hG 35 rfl dX7_areDays_34 rfl ?_
      exact sm_bret hG hT ⟨Nat.zero_le _, Nat.zero_le _⟩ dX7_areDays_35 rfl
    · refine sm_iload_n hG 18 rfl dX7_areDays_17 rfl 2 rfl ?_
      refine sm_iload_n hG 19 rfl dX7_areDays_18 rfl 1 rfl ?_
      refine sm_icmp_lt hG 34 22 rfl dX7_areDays_19 (by decide) ?_ ?_
      · refine sm_iconst (x := (0 : Int32)) hG 35 rfl dX7_areDays_34 rfl ?_
        exact sm_bret hG hT ⟨Nat.zero_le _, Nat.zero_le _⟩ dX7_areDays_35 rfl
      · refine sm_iload_n hG 23 rfl dX7_areDays_22 rfl 2 rfl ?_
        refine sm_iload_n hG 24 rfl dX7_areDays_23 rfl 1 rfl ?_
        refine sm_isub hG 25 rfl dX7_areDays_24 ?_
        refine sm_bipush (x := (60 : Int32)) hG 27 rfl dX7_areDays_25 rfl ?_
        refine sm_icmp_gt hG 34 30 rfl dX7_areDays_27 (by decide) ?_ ?_
        · refine sm_iconst (x := (0 : Int32)) hG 35 rfl dX7_areDays_34 rfl ?_
          exact sm_bret hG hT ⟨Nat.zero_le _, Nat.zero_le _⟩ dX7_areDays_35 rfl
        · refine sm_iconst (x := (1 : Int32)) hG 31 rfl dX7_areDays_30 rfl ?_
          refine sm_goto hG 35 dX7_areDays_31 (by decide) ?_
          exact sm_bret hG hT ⟨Nat.zero_le _, Nat.zero_le _⟩ dX7_areDays_35 rfl
abbrev rmX7_notes : Room := { frames := 0, cells := 0, slots := 0, locals := 0 }
set_option maxRecDepth 100000 in
set_option maxHeartbeats 4000000 in
theorem c_X7_notes {Λ : jL Nat} (hM : LM Λ) {x1 : Int32} {x2 : Int32} {x3 : Int32}  {l : Launch} {v : mM} {r : Int32} (hr_ : f_X7_notes x1 x2 x3 v = some r) : Ct l yX7_notes wsX7_notes rmX7_notes Λ [.ref (Λ.2.2.2.1 0), .int x1, .int x2, .int x3] v (some (.int r)) v := by
  refine ct_of (cc := cX7_notes) (maxL := 7) (ret := (some .int)) (fun (q : Int32) => (some (Value.int q), v)) hM.1 hr_ (by decide) rfl (Nat.le_of_ble_eq_true rfl) (fun Γ hG hT hN hl => ?_)
  subst hl
  have f7 : Cond.fieldLink RX7 7 "ChoirRegisterModel" "now" "[I" ∈ wsX7_notes := by decide +kernel
  have u7 : ∀ w ∈ wsX70, w ∈ wsX7_notes := by decide +kernel
  show Sm Γ Λ (0, 0) 0 [(0, .ref (Λ.2.2.2.1 0)), (1, .int x1), (2, .int x2), (3, .int x3)] [] v _
  unfold f_X7_notes
  refine sm_iconst (x := (0 : Int32)) hG 1 rfl dX7_notes_0 rfl ?_
  refine sm_istore hG 3 rfl dX7_notes_1 (jlt hN rfl) [(4, .int (0 : Int32)), (0, .ref (Λ.2.2.2.1 0)), (1, .int x1), (2, .int x2), (3, .int x3)] rfl ?_
  refine sm_iconst (x := (0 : Int32)) hG 4 rfl dX7_notes_3 rfl ?_
  refine sm_istore hG 6 rfl dX7_notes_4 (jlt hN rfl) [(5, .int (0 : Int32)), (4, .int (0 : Int32)), (0, .ref (Λ.2.2.2.1 0)), (1, .int x1), (2, .int x2), (3, .int x3)] rfl ?_
  refine sm_loc [2, 3, 4, 5, 1, 0] [(0, .ref (Λ.2.2.2.1 0)), (1, .int x1), (2, .int x2), (3, .int x3), (4, .int (0 : Int32)), (5, .int (0 : Int32))] rfl ?_
  refine lp_ind (fun (X6 : Int32 → Int32 → Option Int32) => ∀ (x4_6 : Int32) (x5_6 : Int32), Sm Γ Λ (0, 0) 6 [(0, .ref (Λ.2.2.2.1 0)), (1, .int x1), (2, .int x2), (3, .int x3), (4, .int x4_6), (5, .int x5_6)] [] v (X6 x4_6 x5_6)) (fun _ _ => sm_none) (fun self6 hs6 x4_6 x5_6 => ?_) 8192 _ _
  refine sm_iload hG 8 rfl dX7_notes_6 5 rfl ?_
  refine sm_aload_n hG 9 rfl dX7_notes_8 rfl 0 rfl ?_
  refine gM0_0 hG hM  12 rfl u7 f7 dX7_notes_9 ?_
  refine sm_iconst (x := (2 : Int32)) hG 13 rfl dX7_notes_12 rfl ?_
  refine lA hG (ia_1 hM) 14 rfl dX7_notes_13 ?_
  refine sm_icmp_ge hG 80 17 rfl dX7_notes_14 (by decide) ?_ ?_
  · refine sm_iload hG 82 rfl dX7_notes_80 4 rfl ?_
    exact sm_iret hG hT ⟨Nat.zero_le _, Nat.zero_le _⟩ dX7_notes_82 rfl
  · refine sm_sipush (x := (403 : Int32)) hG 20 rfl dX7_notes_17 rfl ?_
    refine sm_iconst (x := (3 : Int32)) hG 21 rfl dX7_notes_20 rfl ?_
    refine sm_iload hG 23 rfl dX7_notes_21 5 rfl ?_
    refine sm_imul hG 24 rfl dX7_notes_23 ?_
    refine sm_iadd hG 25 rfl dX7_notes_24 ?_
    refine sm_istore hG 27 rfl dX7_notes_25 (jlt hN rfl) [(6, .int ((403 : Int32) + ((3 : Int32) * x5_6))), (0, .ref (Λ.2.2.2.1 0)), (1, .int x1), (2, .int x2), (3, .int x3), (4, .int x4_6), (5, .int x5_6)] rfl ?_
    refine sm_iload hG 29 rfl dX7_notes_27 5 rfl ?_
    refine sm_aload_n hG 30 rfl dX7_notes_29 rfl 1 rfl ?_
    refine gM0_0 hG hM  33 rfl u7 f7 dX7_notes_30 ?_
    refine sm_iload hG 35 rfl dX7_notes_33 0 rfl ?_
    refine lA hG (ia_1 hM) 36 rfl dX7_notes_35 ?_
    refine sm_nmi (fun y35_1 => ?_)
    refine sm_iload_n hG 37 rfl dX7_notes_36 rfl 2 rfl ?_
    refine sm_icmp_ne hG 70 40 rfl dX7_notes_37 (by decide) ?_ ?_
    · refine sm_iconst (x := (0 : Int32)) hG 71 rfl dX7_notes_70 rfl ?_
      refine sm_iadd hG 72 rfl dX7_notes_71 ?_
      refine sm_istore hG 74 rfl dX7_notes_72 (jlt hN rfl) [(4, .int (x4_6 + (0 : Int32))), (6, .int ((403 : Int32) + ((3 : Int32) * x5_6))), (0, .ref (Λ.2.2.2.1 0)), (1, .int x1), (2, .int x2), (3, .int x3), (5, .int x5_6)] rfl ?_
      refine sm_iinc hG 77 rfl dX7_notes_74 (j := 6) rfl rfl (jlt hN rfl) [(5, .int (x5_6 + (1 : Int32))), (4, .int (x4_6 + (0 : Int32))), (6, .int ((403 : Int32) + ((3 : Int32) * x5_6))), (0, .ref (Λ.2.2.2.1 0)), (1, .int x1), (2, .int x2), (3, .int x3)] rfl ?_
      refine sm_goto hG 6 dX7_notes_77 (by decide) ?_
      refine sm_loc [3, 4, 5, 6, 1, 0] [(0, .ref (Λ.2.2.2.1 0)), (1, .int x1), (2, .int x2), (3, .int x3), (4, .int (x4_6 + (0 : Int32))), (5, .int (x5_6 + (1 : Int32)))] rfl ?_
      exact hs6 _ _
    · refine sm_aload_n hG 41 rfl dX7_notes_40 rfl 1 rfl ?_
      refine gM0_0 hG hM  44 rfl u7 f7 dX7_notes_41 ?_
      refine sm_iload hG 46 rfl dX7_notes_44 0 rfl ?_
      refine sm_iconst (x := (1 : Int32)) hG 47 rfl dX7_notes_46 rfl ?_
      refine sm_iadd hG 48 rfl dX7_notes_47 ?_
      refine sm_nmi (fun y47_2 => ?_)
      refine lA hG (ia_1 hM) 49 rfl dX7_notes_48 ?_
      refine sm_iload_n hG 50 rfl dX7_notes_49 rfl 4 rfl ?_
      refine sm_icmp_gt hG 70 53 rfl dX7_notes_50 (by decide) ?_ ?_
      · refine sm_iconst (x := (0 : Int32)) hG 71 rfl dX7_notes_70 rfl ?_
        refine sm_iadd hG 72 rfl dX7_notes_71 ?_
        refine sm_istore hG 74 rfl dX7_notes_72 (jlt hN rfl) [(4, .int (x4_6 + (0 : Int32))), (6, .int ((403 : Int32) + ((3 : Int32) * x5_6))), (0, .ref (Λ.2.2.2.1 0)), (1, .int x1), (2, .int x2), (3, .int x3), (5, .int x5_6)] rfl ?_
        refine sm_iinc hG 77 rfl dX7_notes_74 (j := 6) rfl rfl (jlt hN rfl) [(5, .int (x5_6 + (1 : Int32))), (4, .int (x4_6 + (0 : Int32))), (6, .int ((403 : Int32) + ((3 : Int32) * x5_6))), (0, .ref (Λ.2.2.2.1 0)), (1, .int x1), (2, .int x2), (3, .int x3)] rfl ?_
        refine sm_goto hG 6 dX7_notes_77 (by decide) ?_
        refine sm_loc [3, 4, 5, 6, 1, 0] [(0, .ref (Λ.2.2.2.1 0)), (1, .int x1), (2, .int x2), (3, .int x3), (4, .int (x4_6 + (0 : Int32))), (5, .int (x5_6 + (1 : Int32)))] rfl ?_
        exact hs6 _ _
      · refine sm_aload_n hG 54 rfl dX7_notes_53 rfl 1 rfl ?_
        refine gM0_0 hG hM  57 rfl u7 f7 dX7_notes_54 ?_
        refine sm_iload hG 59 rfl dX7_notes_57 0 rfl ?_
        refine sm_iconst (x := (2 : Int32)) hG 60 rfl dX7_notes_59 rfl ?_
        refine sm_iadd hG 61 rfl dX7_notes_60 ?_
        refine sm_nmi (fun y60_3 => ?_)
        refine lA hG (ia_1 hM) 62 rfl dX7_notes_61 ?_
        refine sm_iload_n hG 63 rfl dX7_notes_62 rfl 3 rfl ?_
        refine sm_icmp_lt hG 70 66 rfl dX7_notes_63 (by decide) ?_ ?_
        · refine sm_iconst (x := (0 : Int32)) hG 71 rfl dX7_notes_70 rfl ?_
          refine sm_iadd hG 72 rfl dX7_notes_71 ?_
          refine sm_istore hG 74 rfl dX7_notes_72 (jlt hN rfl) [(4, .int (x4_6 + (0 : Int32))), (6, .int ((403 : Int32) + ((3 : Int32) * x5_6))), (0, .ref (Λ.2.2.2.1 0)), (1, .int x1), (2, .int x2), (3, .int x3), (5, .int x5_6)] rfl ?_
          refine sm_iinc hG 77 rfl dX7_notes_74 (j := 6) rfl rfl (jlt hN rfl) [(5, .int (x5_6 + (1 : Int32))), (4, .int (x4_6 + (0 : Int32))), (6, .int ((403 : Int32) + ((3 : Int32) * x5_6))), (0, .ref (Λ.2.2.2.1 0)), (1, .int x1), (2, .int x2), (3, .int x3)] rfl ?_
          refine sm_goto hG 6 dX7_notes_77 (by decide) ?_
          refine sm_loc [3, 4, 5, 6, 1, 0] [(0, .ref (Λ.2.2.2.1 0)), (1, .int x1), (2, .int x2), (3, .int x3), (4, .int (x4_6 + (0 : Int32))), (5, .int (x5_6 + (1 : Int32)))] rfl ?_
          exact hs6 _ _
        · refine sm_iconst (x := (1 : Int32)) hG 67 rfl dX7_notes_66 rfl ?_
          refine sm_goto hG 71 dX7_notes_67 (by decide) ?_
          refine sm_iadd hG 72 rfl dX7_notes_71 ?_
          refine sm_istore hG 74 rfl dX7_notes_72 (jlt hN rfl) [(4, .int (x4_6 + (1 : Int32))), (6, .int ((403 : Int32) + ((3 : Int32) * x5_6))), (0, .ref (Λ.2.2.2.1 0)), (1, .int x1), (2, .int x2), (3, .int x3), (5, .int x5_6)] rfl ?_
          refine sm_iinc hG 77 rfl dX7_notes_74 (j := 6) rfl rfl (jlt hN rfl) [(5, .int (x5_6 + (1 : Int32))), (4, .int (x4_6 + (1 : Int32))), (6, .int ((403 : Int32) + ((3 : Int32) * x5_6))), (0, .ref (Λ.2.2.2.1 0)), (1, .int x1), (2, .int x2), (3, .int x3)] rfl ?_
          refine sm_goto hG 6 dX7_notes_77 (by decide) ?_
          refine sm_loc [3, 4, 5, 6, 1, 0] [(0, .ref (Λ.2.2.2.1 0)), (1, .int x1), (2, .int x2), (3, .int x3), (4, .int (x4_6 + (1 : Int32))), (5, .int (x5_6 + (1 : Int32)))] rfl ?_
          exact hs6 _ _
abbrev rmX7_canExcuse : Room := { frames := 1, cells := 0, slots := 0, locals := 26 }
set_option maxRecDepth 100000 in
set_option maxHeartbeats 4000000 in
theorem c_X7_canExcuse {Λ : jL Nat} (hM : LM Λ) {x1 : Int32} {x2 : Int32} {x3 : Int32}  {l : Launch} {v : mM} {r : Int32} (hr_ : f_X7_canExcuse x1 x2 x3 v = some r) : Ct l yX7_canExcuse wsX7_canExcuse rmX7_canExcuse Λ [.ref (Λ.2.2.2.1 0), .int x1, .int x2, .int x3] v (some (.int r)) v := by
  refine ct_of (cc := cX7_canExcuse) (maxL := 4) (ret := (some .boolean)) (fun (q : Int32) => (some (Value.int q), v)) hM.1 hr_ (by decide) rfl (Nat.le_of_ble_eq_true rfl) (fun Γ hG hT hN hl => ?_)
  subst hl
  have f7 : Cond.fieldLink RX7 7 "ChoirRegisterModel" "now" "[I" ∈ wsX7_canExcuse := by decide +kernel
  have u7 : ∀ w ∈ wsX70, w ∈ wsX7_canExcuse := by decide +kernel
  show Sm Γ Λ (0, 0) 0 [(0, .ref (Λ.2.2.2.1 0)), (1, .int x1), (2, .int x2), (3, .int x3)] [] v _
  unfold f_X7_canExcuse
  refine sm_aload_n hG 1 rfl dX7_canExcuse_0 rfl 0 rfl ?_
  refine sm_iload_n hG 2 rfl dX7_canExcuse_1 rfl 1 rfl ?_
  refine sm_bipush (x := (7 : Int32)) hG 4 rfl dX7_canExcuse_2 rfl ?_
  refine sm_callV hG (fun (q : Int32) => (some (Value.int q), v)) 0 [.int x1, .int (7 : Int32)] 7 rfl (okm hM (by decide)) (me_0 hM _) (ci := 7) rfl (fun r_ hr_ => c_X7_its hM   hr_) gX7_canExcuse_X7_its rfl (by decide) (by decide) (n := 2) rfl (Nat.le_of_ble_eq_true rfl) (by decide) ⟨Nat.zero_le _, Nat.zero_le _⟩ rfl dX7_canExcuse_4 (fun r_4 => ?_)
  refine sm_if_ne hG 35 10 rfl dX7_canExcuse_7 (by decide) ?_ ?_
  · refine sm_iconst (x := (0 : Int32)) hG 36 rfl dX7_canExcuse_35 rfl ?_
    exact sm_bret hG hT ⟨Nat.zero_le _, Nat.zero_le _⟩ dX7_canExcuse_36 rfl
  · refine sm_aload_n hG 11 rfl dX7_canExcuse_10 rfl 0 rfl ?_
    refine sm_iload_n hG 12 rfl dX7_canExcuse_11 rfl 1 rfl ?_
    refine sm_iload_n hG 13 rfl dX7_canExcuse_12 rfl 2 rfl ?_
    refine sm_iload_n hG 14 rfl dX7_canExcuse_13 rfl 3 rfl ?_
    refine sm_callV hG (fun (q : Int32) => (some (Value.int q), v)) 0 [.int x1, .int x2, .int x3] 17 rfl (okm hM (by decide)) (me_0 hM _) (ci := 7) rfl (fun r_ hr_ => c_X7_notes hM   hr_) gX7_canExcuse_X7_notes rfl (by decide) (by decide) (n := 3) rfl (Nat.le_of_ble_eq_true rfl) (by decide) ⟨Nat.zero_le _, Nat.zero_le _⟩ rfl dX7_canExcuse_14 (fun r_14 => ?_)
    refine sm_if_ne hG 35 20 rfl dX7_canExcuse_17 (by decide) ?_ ?_
    · refine sm_iconst (x := (0 : Int32)) hG 36 rfl dX7_canExcuse_35 rfl ?_
      exact sm_bret hG hT ⟨Nat.zero_le _, Nat.zero_le _⟩ dX7_canExcuse_36 rfl
    · refine sm_aload_n hG 21 rfl dX7_canExcuse_20 rfl 0 rfl ?_
      refine gM0_0 hG hM  24 rfl u7 f7 dX7_canExcuse_21 ?_
      refine sm_iconst (x := (2 : Int32)) hG 25 rfl dX7_canExcuse_24 rfl ?_
      refine lA hG (ia_1 hM) 26 rfl dX7_canExcuse_25 ?_
      refine sm_bipush (x := (60 : Int32)) hG 28 rfl dX7_canExcuse_26 rfl ?_
      refine sm_icmp_ge hG 35 31 rfl dX7_canExcuse_28 (by decide) ?_ ?_
      · refine sm_iconst (x := (0 : Int32)) hG 36 rfl dX7_canExcuse_35 rfl ?_
        exact sm_bret hG hT ⟨Nat.zero_le _, Nat.zero_le _⟩ dX7_canExcuse_36 rfl
      · refine sm_iconst (x := (1 : Int32)) hG 32 rfl dX7_canExcuse_31 rfl ?_
        refine sm_goto hG 36 dX7_canExcuse_32 (by decide) ?_
        exact sm_bret hG hT ⟨Nat.zero_le _, Nat.zero_le _⟩ dX7_canExcuse_36 rfl
abbrev rmX7_excuses : Room := { frames := 1, cells := 0, slots := 0, locals := 26 }
set_option maxRecDepth 100000 in
set_option maxHeartbeats 4000000 in
theorem c_X7_excuses {Λ : jL Nat} (hM : LM Λ) {x1 : Int32} {x2 : Int32} {x3 : Int32}  {l : Launch} {v : mM} {r : (Int32 × mM)} (hr_ : f_X7_excuses x1 x2 x3 v = some r) : Ct l yX7_excuses wsX7_excuses rmX7_excuses Λ [.ref (Λ.2.2.2.1 0), .int x1, .int x2, .int x3] v (some (.int r.1)) r.2 := by
  refine ct_of (cc := cX7_excuses) (maxL := 5) (ret := (some .int)) (fun (q : Int32 × mM) => (some (Value.int q.1), q.2)) hM.1 hr_ (by decide) rfl (Nat.le_of_ble_eq_true rfl) (fun Γ hG hT hN hl => ?_)
  subst hl
  have f7 : Cond.fieldLink RX7 7 "ChoirRegisterModel" "now" "[I" ∈ wsX7_excuses := by decide +kernel
  have fk82 : Cond.constant RX7 82 (99999 : Int32) ∈ wsX7_excuses := by decide +kernel
  have u7 : ∀ w ∈ wsX70, w ∈ wsX7_excuses := by decide +kernel
  show Sm Γ Λ (0, 0) 0 [(0, .ref (Λ.2.2.2.1 0)), (1, .int x1), (2, .int x2), (3, .int x3)] [] v _
  unfold f_X7_excuses
  refine sm_sipush (x := (403 : Int32)) hG 3 rfl dX7_excuses_0 rfl ?_
  refine sm_iconst (x := (3 : Int32)) hG 4 rfl dX7_excuses_3 rfl ?_
  refine sm_aload_n hG 5 rfl dX7_excuses_4 rfl 0 rfl ?_
  refine gM0_0 hG hM  8 rfl u7 f7 dX7_excuses_5 ?_
  refine sm_iconst (x := (2 : Int32)) hG 9 rfl dX7_excuses_8 rfl ?_
  refine lA hG (ia_1 hM) 10 rfl dX7_excuses_9 ?_
  refine sm_imul hG 11 rfl dX7_excuses_10 ?_
  refine sm_iadd hG 12 rfl dX7_excuses_11 ?_
  refine sm_nmi (fun y11_1 => ?_)
  refine sm_istore hG 14 rfl dX7_excuses_12 (jlt hN rfl) [(4, .int y11_1), (0, .ref (Λ.2.2.2.1 0)), (1, .int x1), (2, .int x2), (3, .int x3)] rfl ?_
  refine sm_aload_n hG 15 rfl dX7_excuses_14 rfl 1 rfl ?_
  refine gM0_0 hG hM  18 rfl u7 f7 dX7_excuses_15 ?_
  refine sm_iload hG 20 rfl dX7_excuses_18 0 rfl ?_
  refine sm_iload_n hG 21 rfl dX7_excuses_20 rfl 2 rfl ?_
  refine sA hG (ia_1 hM) 22 rfl dX7_excuses_21 ?_
  refine sm_nmv (fun w21_2 => ?_)
  refine sm_aload_n hG 23 rfl dX7_excuses_22 rfl 1 rfl ?_
  refine gM0_0 hG hM  26 rfl u7 f7 dX7_excuses_23 ?_
  refine sm_iload hG 28 rfl dX7_excuses_26 0 rfl ?_
  refine sm_iconst (x := (1 : Int32)) hG 29 rfl dX7_excuses_28 rfl ?_
  refine sm_iadd hG 30 rfl dX7_excuses_29 ?_
  refine sm_iload_n hG 31 rfl dX7_excuses_30 rfl 3 rfl ?_
  refine sA hG (ia_1 hM) 32 rfl dX7_excuses_31 ?_
  refine sm_nmv (fun w31_3 => ?_)
  refine sm_aload_n hG 33 rfl dX7_excuses_32 rfl 1 rfl ?_
  refine gM0_0 hG hM  36 rfl u7 f7 dX7_excuses_33 ?_
  refine sm_iload hG 38 rfl dX7_excuses_36 0 rfl ?_
  refine sm_iconst (x := (2 : Int32)) hG 39 rfl dX7_excuses_38 rfl ?_
  refine sm_iadd hG 40 rfl dX7_excuses_39 ?_
  refine sm_iload_n hG 41 rfl dX7_excuses_40 rfl 4 rfl ?_
  refine sA hG (ia_1 hM) 42 rfl dX7_excuses_41 ?_
  refine sm_nmv (fun w41_4 => ?_)
  refine sm_aload_n hG 43 rfl dX7_excuses_42 rfl 1 rfl ?_
  refine gM0_0 hG hM  46 rfl u7 f7 dX7_excuses_43 ?_
  refine sm_iconst (x := (2 : Int32)) hG 47 rfl dX7_excuses_46 rfl ?_
  refine sm_dup2 hG 48 rfl dX7_excuses_47 rfl rfl ?_
  refine lA hG (ia_1 hM) 49 rfl dX7_excuses_48 ?_
  refine sm_iconst (x := (1 : Int32)) hG 50 rfl dX7_excuses_49 rfl ?_
  refine sm_iadd hG 51 rfl dX7_excuses_50 ?_
  refine sA hG (ia_1 hM) 52 rfl dX7_excuses_51 ?_
  refine sm_nmv (fun w51_5 => ?_)
  refine sm_aload_n hG 53 rfl dX7_excuses_52 rfl 1 rfl ?_
  refine sm_iload_n hG 54 rfl dX7_excuses_53 rfl 2 rfl ?_
  refine sm_iconst (x := (0 : Int32)) hG 55 rfl dX7_excuses_54 rfl ?_
  refine sm_ldc (x := (99999 : Int32)) hG 57 rfl dX7_excuses_55 fk82 ?_
  refine sm_callV hG (fun (q : Int32) => (some (Value.int q), w51_5)) 0 [.int x1, .int (0 : Int32), .int (99999 : Int32)] 60 rfl (okm hM (by decide)) (me_0 hM _) (ci := 7) rfl (fun r_ hr_ => c_X7_notes hM   hr_) gX7_excuses_X7_notes rfl (by decide) (by decide) (n := 3) rfl (Nat.le_of_ble_eq_true rfl) (by decide) ⟨Nat.zero_le _, Nat.zero_le _⟩ rfl dX7_excuses_57 (fun r_57 => ?_)
  exact sm_iret hG hT ⟨Nat.zero_le _, Nat.zero_le _⟩ dX7_excuses_60 rfl
abbrev rmX7_lower : Room := { frames := 1, cells := 0, slots := 0, locals := 22 }
set_option maxRecDepth 100000 in
set_option maxHeartbeats 4000000 in
theorem c_X7_lower {Λ : jL Nat} (hM : LM Λ) {x1 : Int32} {x2 : Int32}  {l : Launch} {v : mM} {r : Int32} (hr_ : f_X7_lower x1 x2 v = some r) : Ct l yX7_lower wsX7_lower rmX7_lower Λ [.ref (Λ.2.2.2.1 0), .int x1, .int x2] v (some (.int r)) v := by
  refine ct_of (cc := cX7_lower) (maxL := 4) (ret := (some .int)) (fun (q : Int32) => (some (Value.int q), v)) hM.1 hr_ (by decide) rfl (Nat.le_of_ble_eq_true rfl) (fun Γ hG hT hN hl => ?_)
  subst hl
  show Sm Γ Λ (0, 0) 0 [(0, .ref (Λ.2.2.2.1 0)), (1, .int x1), (2, .int x2)] [] v _
  unfold f_X7_lower
  refine sm_aload_n hG 1 rfl dX7_lower_0 rfl 0 rfl ?_
  refine sm_iload_n hG 2 rfl dX7_lower_1 rfl 1 rfl ?_
  refine sm_bipush (x := (6 : Int32)) hG 4 rfl dX7_lower_2 rfl ?_
  refine sm_callV hG (fun (q : Int32) => (some (Value.int q), v)) 0 [.int x1, .int (6 : Int32)] 7 rfl (okm hM (by decide)) (me_0 hM _) (ci := 7) rfl (fun r_ hr_ => c_X7_its hM   hr_) gX7_lower_X7_its rfl (by decide) (by decide) (n := 2) rfl (Nat.le_of_ble_eq_true rfl) (by decide) ⟨Nat.zero_le _, Nat.zero_le _⟩ rfl dX7_lower_4 (fun r_4 => ?_)
  refine sm_istore_n hG 8 rfl dX7_lower_7 rfl (jlt hN rfl) [(3, .int r_4), (0, .ref (Λ.2.2.2.1 0)), (1, .int x1), (2, .int x2)] rfl ?_
  refine sm_iload_n hG 9 rfl dX7_lower_8 rfl 0 rfl ?_
  refine sm_iconst (x := (-1 : Int32)) hG 10 rfl dX7_lower_9 rfl ?_
  refine sm_icmp_eq hG 26 13 rfl dX7_lower_10 (by decide) ?_ ?_
  · refine sm_iconst (x := (0 : Int32)) hG 27 rfl dX7_lower_26 rfl ?_
    exact sm_iret hG hT ⟨Nat.zero_le _, Nat.zero_le _⟩ dX7_lower_27 rfl
  · refine sm_iload_n hG 14 rfl dX7_lower_13 rfl 3 rfl ?_
    refine sm_iload_n hG 15 rfl dX7_lower_14 rfl 0 rfl ?_
    refine sm_bipush (x := (89 : Int32)) hG 17 rfl dX7_lower_15 rfl ?_
    refine sm_iadd hG 18 rfl dX7_lower_17 ?_
    refine sm_icmp_le hG 26 21 rfl dX7_lower_18 (by decide) ?_ ?_
    · refine sm_iconst (x := (0 : Int32)) hG 27 rfl dX7_lower_26 rfl ?_
      exact sm_iret hG hT ⟨Nat.zero_le _, Nat.zero_le _⟩ dX7_lower_27 rfl
    · refine sm_bipush (x := (12 : Int32)) hG 23 rfl dX7_lower_21 rfl ?_
      refine sm_goto hG 27 dX7_lower_23 (by decide) ?_
      exact sm_iret hG hT ⟨Nat.zero_le _, Nat.zero_le _⟩ dX7_lower_27 rfl
abbrev rmX7_note : Room := { frames := 2, cells := 0, slots := 0, locals := 45 }
set_option maxRecDepth 100000 in
set_option maxHeartbeats 4000000 in
theorem c_X7_note {Λ : jL Nat} (hM : LM Λ) {x1 : Int32} {x2 : Int32} {x3 : Int32}  {l : Launch} {v : mM} {r : Int32} (hr_ : f_X7_note x1 x2 x3 v = some r) : Ct l yX7_note wsX7_note rmX7_note Λ [.ref (Λ.2.2.2.1 0), .int x1, .int x2, .int x3] v (some (.int r)) v := by
  refine ct_of (cc := cX7_note) (maxL := 5) (ret := (some .int)) (fun (q : Int32) => (some (Value.int q), v)) hM.1 hr_ (by decide) rfl (Nat.le_of_ble_eq_true rfl) (fun Γ hG hT hN hl => ?_)
  subst hl
  show Sm Γ Λ (0, 0) 0 [(0, .ref (Λ.2.2.2.1 0)), (1, .int x1), (2, .int x2), (3, .int x3)] [] v _
  unfold f_X7_note
  refine sm_aload_n hG 1 rfl dX7_note_0 rfl 0 rfl ?_
  refine sm_iload_n hG 2 rfl dX7_note_1 rfl 1 rfl ?_
  refine sm_iload_n hG 3 rfl dX7_note_2 rfl 2 rfl ?_
  refine sm_callV hG (fun (q : Int32) => (some (Value.int q), v)) 0 [.int x1, .int x2] 6 rfl (okm hM (by decide)) (me_0 hM _) (ci := 7) rfl (fun r_ hr_ => c_X7_its hM   hr_) gX7_note_X7_its rfl (by decide) (by decide) (n := 2) rfl (Nat.le_of_ble_eq_true rfl) (by decide) ⟨Nat.zero_le _, Nat.zero_le _⟩ rfl dX7_note_3 (fun r_3 => ?_)
  refine sm_aload_n hG 7 rfl dX7_note_6 rfl 0 rfl ?_
  refine sm_iload_n hG 8 rfl dX7_note_7 rfl 1 rfl ?_
  refine sm_iload_n hG 9 rfl dX7_note_8 rfl 3 rfl ?_
  refine sm_callV hG (fun (q : Int32) => (some (Value.int q), v)) 0 [.int x1, .int x3] 12 rfl (okm hM (by decide)) (me_0 hM _) (ci := 7) rfl (fun r_ hr_ => c_X7_lower hM   hr_) gX7_note_X7_lower rfl (by decide) (by decide) (n := 2) rfl (Nat.le_of_ble_eq_true rfl) (by decide) ⟨Nat.zero_le _, Nat.zero_le _⟩ rfl dX7_note_9 (fun r_9 => ?_)
  refine sm_isub hG 13 rfl dX7_note_12 ?_
  refine sm_istore hG 15 rfl dX7_note_13 (jlt hN rfl) [(4, .int (r_3 - r_9)), (0, .ref (Λ.2.2.2.1 0)), (1, .int x1), (2, .int x2), (3, .int x3)] rfl ?_
  refine sm_iload hG 17 rfl dX7_note_15 0 rfl ?_
  refine sm_if_ge hG 24 20 rfl dX7_note_17 (by decide) ?_ ?_
  · refine sm_iload hG 26 rfl dX7_note_24 0 rfl ?_
    exact sm_iret hG hT ⟨Nat.zero_le _, Nat.zero_le _⟩ dX7_note_26 rfl
  · refine sm_iconst (x := (0 : Int32)) hG 21 rfl dX7_note_20 rfl ?_
    refine sm_goto hG 26 dX7_note_21 (by decide) ?_
    exact sm_iret hG hT ⟨Nat.zero_le _, Nat.zero_le _⟩ dX7_note_26 rfl
abbrev rmX7_isBreaking : Room := { frames := 1, cells := 0, slots := 0, locals := 22 }
set_option maxRecDepth 100000 in
set_option maxHeartbeats 4000000 in
theorem c_X7_isBreaking {Λ : jL Nat} (hM : LM Λ) {x1 : Int32} {x2 : Int32}  {l : Launch} {v : mM} {r : Int32} (hr_ : f_X7_isBreaking x1 x2 v = some r) : Ct l yX7_isBreaking wsX7_isBreaking rmX7_isBreaking Λ [.ref (Λ.2.2.2.1 0), .int x1, .int x2] v (some (.int r)) v := by
  refine ct_of (cc := cX7_isBreaking) (maxL := 4) (ret := (some .boolean)) (fun (q : Int32) => (some (Value.int q), v)) hM.1 hr_ (by decide) rfl (Nat.le_of_ble_eq_true rfl) (fun Γ hG hT hN hl => ?_)
  subst hl
  show Sm Γ Λ (0, 0) 0 [(0, .ref (Λ.2.2.2.1 0)), (1, .int x1), (2, .int x2)] [] v _
  unfold f_X7_isBreaking
  refine sm_aload_n hG 1 rfl dX7_isBreaking_0 rfl 0 rfl ?_
  refine sm_iload_n hG 2 rfl dX7_isBreaking_1 rfl 1 rfl ?_
  refine sm_bipush (x := (6 : Int32)) hG 4 rfl dX7_isBreaking_2 rfl ?_
  refine sm_callV hG (fun (q : Int32) => (some (Value.int q), v)) 0 [.int x1, .int (6 : Int32)] 7 rfl (okm hM (by decide)) (me_0 hM _) (ci := 7) rfl (fun r_ hr_ => c_X7_its hM   hr_) gX7_isBreaking_X7_its rfl (by decide) (by decide) (n := 2) rfl (Nat.le_of_ble_eq_true rfl) (by decide) ⟨Nat.zero_le _, Nat.zero_le _⟩ rfl dX7_isBreaking_4 (fun r_4 => ?_)
  refine sm_istore_n hG 8 rfl dX7_isBreaking_7 rfl (jlt hN rfl) [(3, .int r_4), (0, .ref (Λ.2.2.2.1 0)), (1, .int x1), (2, .int x2)] rfl ?_
  refine sm_iload_n hG 9 rfl dX7_isBreaking_8 rfl 0 rfl ?_
  refine sm_iconst (x := (-1 : Int32)) hG 10 rfl dX7_isBreaking_9 rfl ?_
  refine sm_icmp_eq hG 29 13 rfl dX7_isBreaking_10 (by decide) ?_ ?_
  · refine sm_iconst (x := (0 : Int32)) hG 30 rfl dX7_isBreaking_29 rfl ?_
    exact sm_bret hG hT ⟨Nat.zero_le _, Nat.zero_le _⟩ dX7_isBreaking_30 rfl
  · refine sm_iload_n hG 14 rfl dX7_isBreaking_13 rfl 3 rfl ?_
    refine sm_iload_n hG 15 rfl dX7_isBreaking_14 rfl 0 rfl ?_
    refine sm_iload_n hG 16 rfl dX7_isBreaking_15 rfl 0 rfl ?_
    refine sm_bipush (x := (89 : Int32)) hG 18 rfl dX7_isBreaking_16 rfl ?_
    refine sm_iadd hG 19 rfl dX7_isBreaking_18 ?_
    refine sm_callS hG (fun (q : Int32) => (some (Value.int q), v)) [.int x2, .int r_4, .int (r_4 + (89 : Int32))] 22 rfl (fun r_ hr_ => c_X7_in hM   hr_) gX7_isBreaking_X7_in rfl (by decide) (by decide) (n := 3) rfl (Nat.le_of_ble_eq_true rfl) (by decide) ⟨Nat.zero_le _, Nat.zero_le _⟩ rfl dX7_isBreaking_19 (fun r_19 => ?_)
    refine sm_if_eq hG 29 25 rfl dX7_isBreaking_22 (by decide) ?_ ?_
    · refine sm_iconst (x := (0 : Int32)) hG 30 rfl dX7_isBreaking_29 rfl ?_
      exact sm_bret hG hT ⟨Nat.zero_le _, Nat.zero_le _⟩ dX7_isBreaking_30 rfl
    · refine sm_iconst (x := (1 : Int32)) hG 26 rfl dX7_isBreaking_25 rfl ?_
      refine sm_goto hG 30 dX7_isBreaking_26 (by decide) ?_
      exact sm_bret hG hT ⟨Nat.zero_le _, Nat.zero_le _⟩ dX7_isBreaking_30 rfl
abbrev rmX7_willHaveLeft : Room := { frames := 1, cells := 0, slots := 0, locals := 22 }
set_option maxRecDepth 100000 in
set_option maxHeartbeats 4000000 in
theorem c_X7_willHaveLeft {Λ : jL Nat} (hM : LM Λ) {x1 : Int32} {x2 : Int32}  {l : Launch} {v : mM} {r : Int32} (hr_ : f_X7_willHaveLeft x1 x2 v = some r) : Ct l yX7_willHaveLeft wsX7_willHaveLeft rmX7_willHaveLeft Λ [.ref (Λ.2.2.2.1 0), .int x1, .int x2] v (some (.int r)) v := by
  refine ct_of (cc := cX7_willHaveLeft) (maxL := 3) (ret := (some .boolean)) (fun (q : Int32) => (some (Value.int q), v)) hM.1 hr_ (by decide) rfl (Nat.le_of_ble_eq_true rfl) (fun Γ hG hT hN hl => ?_)
  subst hl
  show Sm Γ Λ (0, 0) 0 [(0, .ref (Λ.2.2.2.1 0)), (1, .int x1), (2, .int x2)] [] v _
  unfold f_X7_willHaveLeft
  refine sm_aload_n hG 1 rfl dX7_willHaveLeft_0 rfl 0 rfl ?_
  refine sm_iload_n hG 2 rfl dX7_willHaveLeft_1 rfl 1 rfl ?_
  refine sm_bipush (x := (7 : Int32)) hG 4 rfl dX7_willHaveLeft_2 rfl ?_
  refine sm_callV hG (fun (q : Int32) => (some (Value.int q), v)) 0 [.int x1, .int (7 : Int32)] 7 rfl (okm hM (by decide)) (me_0 hM _) (ci := 7) rfl (fun r_ hr_ => c_X7_its hM   hr_) gX7_willHaveLeft_X7_its rfl (by decide) (by decide) (n := 2) rfl (Nat.le_of_ble_eq_true rfl) (by decide) ⟨Nat.zero_le _, Nat.zero_le _⟩ rfl dX7_willHaveLeft_4 (fun r_4 => ?_)
  refine sm_iconst (x := (1 : Int32)) hG 8 rfl dX7_willHaveLeft_7 rfl ?_
  refine sm_icmp_eq hG 32 11 rfl dX7_willHaveLeft_8 (by decide) ?_ ?_
  · refine sm_iconst (x := (1 : Int32)) hG 33 rfl dX7_willHaveLeft_32 rfl ?_
    refine sm_goto hG 37 dX7_willHaveLeft_33 (by decide) ?_
    exact sm_bret hG hT ⟨Nat.zero_le _, Nat.zero_le _⟩ dX7_willHaveLeft_37 rfl
  · refine sm_aload_n hG 12 rfl dX7_willHaveLeft_11 rfl 0 rfl ?_
    refine sm_iload_n hG 13 rfl dX7_willHaveLeft_12 rfl 1 rfl ?_
    refine sm_iconst (x := (0 : Int32)) hG 14 rfl dX7_willHaveLeft_13 rfl ?_
    refine sm_callV hG (fun (q : Int32) => (some (Value.int q), v)) 0 [.int x1, .int (0 : Int32)] 17 rfl (okm hM (by decide)) (me_0 hM _) (ci := 7) rfl (fun r_ hr_ => c_X7_its hM   hr_) gX7_willHaveLeft_X7_its rfl (by decide) (by decide) (n := 2) rfl (Nat.le_of_ble_eq_true rfl) (by decide) ⟨Nat.zero_le _, Nat.zero_le _⟩ rfl dX7_willHaveLeft_14 (fun r_14 => ?_)
    refine sm_iconst (x := (-1 : Int32)) hG 18 rfl dX7_willHaveLeft_17 rfl ?_
    refine sm_icmp_eq hG 36 21 rfl dX7_willHaveLeft_18 (by decide) ?_ ?_
    · refine sm_iconst (x := (0 : Int32)) hG 37 rfl dX7_willHaveLeft_36 rfl ?_
      exact sm_bret hG hT ⟨Nat.zero_le _, Nat.zero_le _⟩ dX7_willHaveLeft_37 rfl
    · refine sm_iload_n hG 22 rfl dX7_willHaveLeft_21 rfl 2 rfl ?_
      refine sm_aload_n hG 23 rfl dX7_willHaveLeft_22 rfl 0 rfl ?_
      refine sm_iload_n hG 24 rfl dX7_willHaveLeft_23 rfl 1 rfl ?_
      refine sm_bipush (x := (8 : Int32)) hG 26 rfl dX7_willHaveLeft_24 rfl ?_
      refine sm_callV hG (fun (q : Int32) => (some (Value.int q), v)) 0 [.int x1, .int (8 : Int32)] 29 rfl (okm hM (by decide)) (me_0 hM _) (ci := 7) rfl (fun r_ hr_ => c_X7_its hM   hr_) gX7_willHaveLeft_X7_its rfl (by decide) (by decide) (n := 2) rfl (Nat.le_of_ble_eq_true rfl) (by decide) ⟨Nat.zero_le _, Nat.zero_le _⟩ rfl dX7_willHaveLeft_26 (fun r_26 => ?_)
      refine sm_icmp_le hG 36 32 rfl dX7_willHaveLeft_29 (by decide) ?_ ?_
      · refine sm_iconst (x := (0 : Int32)) hG 37 rfl dX7_willHaveLeft_36 rfl ?_
        exact sm_bret hG hT ⟨Nat.zero_le _, Nat.zero_le _⟩ dX7_willHaveLeft_37 rfl
      · refine sm_iconst (x := (1 : Int32)) hG 33 rfl dX7_willHaveLeft_32 rfl ?_
        refine sm_goto hG 37 dX7_willHaveLeft_33 (by decide) ?_
        exact sm_bret hG hT ⟨Nat.zero_le _, Nat.zero_le _⟩ dX7_willHaveLeft_37 rfl
abbrev rmX7_isFeast : Room := { frames := 1, cells := 0, slots := 0, locals := 22 }
set_option maxRecDepth 100000 in
set_option maxHeartbeats 4000000 in
theorem c_X7_isFeast {Λ : jL Nat} (hM : LM Λ) {x1 : Int32}  {l : Launch} {v : mM} {r : Int32} (hr_ : f_X7_isFeast x1 v = some r) : Ct l yX7_isFeast wsX7_isFeast rmX7_isFeast Λ [.ref (Λ.2.2.2.1 0), .int x1] v (some (.int r)) v := by
  refine ct_of (cc := cX7_isFeast) (maxL := 2) (ret := (some .boolean)) (fun (q : Int32) => (some (Value.int q), v)) hM.1 hr_ (by decide) rfl (Nat.le_of_ble_eq_true rfl) (fun Γ hG hT hN hl => ?_)
  subst hl
  have f7 : Cond.fieldLink RX7 7 "ChoirRegisterModel" "now" "[I" ∈ wsX7_isFeast := by decide +kernel
  have u7 : ∀ w ∈ wsX70, w ∈ wsX7_isFeast := by decide +kernel
  show Sm Γ Λ (0, 0) 0 [(0, .ref (Λ.2.2.2.1 0)), (1, .int x1)] [] v _
  unfold f_X7_isFeast
  refine sm_iload_n hG 1 rfl dX7_isFeast_0 rfl 1 rfl ?_
  refine sm_iconst (x := (0 : Int32)) hG 2 rfl dX7_isFeast_1 rfl ?_
  refine sm_aload_n hG 3 rfl dX7_isFeast_2 rfl 0 rfl ?_
  refine gM0_0 hG hM  6 rfl u7 f7 dX7_isFeast_3 ?_
  refine sm_iconst (x := (3 : Int32)) hG 7 rfl dX7_isFeast_6 rfl ?_
  refine lA hG (ia_1 hM) 8 rfl dX7_isFeast_7 ?_
  refine sm_iconst (x := (1 : Int32)) hG 9 rfl dX7_isFeast_8 rfl ?_
  refine sm_isub hG 10 rfl dX7_isFeast_9 ?_
  refine sm_callS hG (fun (q : Int32) => (some (Value.int q), v)) [.int x1, .int (0 : Int32), .int ((v 1 (ix (3 : Int32))) - (1 : Int32))] 13 rfl (fun r_ hr_ => c_X7_in hM   hr_) gX7_isFeast_X7_in rfl (by decide) (by decide) (n := 3) rfl (Nat.le_of_ble_eq_true rfl) (by decide) ⟨Nat.zero_le _, Nat.zero_le _⟩ rfl dX7_isFeast_10 (fun r_10 => ?_)
  exact sm_bret hG hT ⟨Nat.zero_le _, Nat.zero_le _⟩ dX7_isFeast_13 rfl
abbrev rmX7_isLine : Room := { frames := 1, cells := 0, slots := 0, locals := 22 }
set_option maxRecDepth 100000 in
set_option maxHeartbeats 4000000 in
theorem c_X7_isLine {Λ : jL Nat} (hM : LM Λ) {x0 : Int32}  {l : Launch} {v : mM} {r : Int32} (hr_ : f_X7_isLine x0 v = some r) : Ct l yX7_isLine wsX7_isLine rmX7_isLine Λ [.int x0] v (some (.int r)) v := by
  refine ct_of (cc := cX7_isLine) (maxL := 1) (ret := (some .boolean)) (fun (q : Int32) => (some (Value.int q), v)) hM.1 hr_ (by decide) rfl (Nat.le_of_ble_eq_true rfl) (fun Γ hG hT hN hl => ?_)
  subst hl
  show Sm Γ Λ (0, 0) 0 [(0, .int x0)] [] v _
  unfold f_X7_isLine
  refine sm_iload_n hG 1 rfl dX7_isLine_0 rfl 0 rfl ?_
  refine sm_iconst (x := (0 : Int32)) hG 2 rfl dX7_isLine_1 rfl ?_
  refine sm_iconst (x := (3 : Int32)) hG 3 rfl dX7_isLine_2 rfl ?_
  refine sm_callS hG (fun (q : Int32) => (some (Value.int q), v)) [.int x0, .int (0 : Int32), .int (3 : Int32)] 6 rfl (fun r_ hr_ => c_X7_in hM   hr_) gX7_isLine_X7_in rfl (by decide) (by decide) (n := 3) rfl (Nat.le_of_ble_eq_true rfl) (by decide) ⟨Nat.zero_le _, Nat.zero_le _⟩ rfl dX7_isLine_3 (fun r_3 => ?_)
  exact sm_bret hG hT ⟨Nat.zero_le _, Nat.zero_le _⟩ dX7_isLine_6 rfl
abbrev rmX7_dayAt : Room := { frames := 0, cells := 0, slots := 0, locals := 0 }
set_option maxRecDepth 100000 in
set_option maxHeartbeats 4000000 in
theorem c_X7_dayAt {Λ : jL Nat} (hM : LM Λ) {x1 : Int32}  {l : Launch} {v : mM} {r : Int32} (hr_ : f_X7_dayAt x1 v = some r) : Ct l yX7_dayAt wsX7_dayAt rmX7_dayAt Λ [.ref (Λ.2.2.2.1 0), .int x1] v (some (.int r)) v := by
  refine ct_of (cc := cX7_dayAt) (maxL := 2) (ret := (some .int)) (fun (q : Int32) => (some (Value.int q), v)) hM.1 hr_ (by decide) rfl (Nat.le_of_ble_eq_true rfl) (fun Γ hG hT hN hl => ?_)
  subst hl
  have f7 : Cond.fieldLink RX7 7 "ChoirRegisterModel" "now" "[I" ∈ wsX7_dayAt := by decide +kernel
  have u7 : ∀ w ∈ wsX70, w ∈ wsX7_dayAt := by decide +kernel
  show Sm Γ Λ (0, 0) 0 [(0, .ref (Λ.2.2.2.1 0)), (1, .int x1)] [] v _
  unfold f_X7_dayAt
  refine sm_aload_n hG 1 rfl dX7_dayAt_0 rfl 0 rfl ?_
  refine gM0_0 hG hM  4 rfl u7 f7 dX7_dayAt_1 ?_
  refine sm_sipush (x := (583 : Int32)) hG 7 rfl dX7_dayAt_4 rfl ?_
  refine sm_bipush (x := (45 : Int32)) hG 9 rfl dX7_dayAt_7 rfl ?_
  refine sm_iload_n hG 10 rfl dX7_dayAt_9 rfl 1 rfl ?_
  refine sm_imul hG 11 rfl dX7_dayAt_10 ?_
  refine sm_iadd hG 12 rfl dX7_dayAt_11 ?_
  refine lA hG (ia_1 hM) 13 rfl dX7_dayAt_12 ?_
  refine sm_nmi (fun y12_1 => ?_)
  exact sm_iret hG hT ⟨Nat.zero_le _, Nat.zero_le _⟩ dX7_dayAt_13 rfl
abbrev rmX7_held : Room := { frames := 1, cells := 0, slots := 0, locals := 21 }
set_option maxRecDepth 100000 in
set_option maxHeartbeats 4000000 in
theorem c_X7_held {Λ : jL Nat} (hM : LM Λ) {x1 : Int32}  {l : Launch} {v : mM} {r : Int32} (hr_ : f_X7_held x1 v = some r) : Ct l yX7_held wsX7_held rmX7_held Λ [.ref (Λ.2.2.2.1 0), .int x1] v (some (.int r)) v := by
  refine ct_of (cc := cX7_held) (maxL := 2) (ret := (some .boolean)) (fun (q : Int32) => (some (Value.int q), v)) hM.1 hr_ (by decide) rfl (Nat.le_of_ble_eq_true rfl) (fun Γ hG hT hN hl => ?_)
  subst hl
  have f7 : Cond.fieldLink RX7 7 "ChoirRegisterModel" "now" "[I" ∈ wsX7_held := by decide +kernel
  have u7 : ∀ w ∈ wsX70, w ∈ wsX7_held := by decide +kernel
  show Sm Γ Λ (0, 0) 0 [(0, .ref (Λ.2.2.2.1 0)), (1, .int x1)] [] v _
  unfold f_X7_held
  refine sm_aload_n hG 1 rfl dX7_held_0 rfl 0 rfl ?_
  refine sm_iload_n hG 2 rfl dX7_held_1 rfl 1 rfl ?_
  refine sm_callV hG (fun (q : Int32) => (some (Value.int q), v)) 0 [.int x1] 5 rfl (okm hM (by decide)) (me_0 hM _) (ci := 7) rfl (fun r_ hr_ => c_X7_dayAt hM   hr_) gX7_held_X7_dayAt rfl (by decide) (by decide) (n := 1) rfl (Nat.le_of_ble_eq_true rfl) (by decide) ⟨Nat.zero_le _, Nat.zero_le _⟩ rfl dX7_held_2 (fun r_2 => ?_)
  refine sm_aload_n hG 6 rfl dX7_held_5 rfl 0 rfl ?_
  refine gM0_0 hG hM  9 rfl u7 f7 dX7_held_6 ?_
  refine sm_iconst (x := (0 : Int32)) hG 10 rfl dX7_held_9 rfl ?_
  refine lA hG (ia_1 hM) 11 rfl dX7_held_10 ?_
  refine sm_icmp_gt hG 18 14 rfl dX7_held_11 (by decide) ?_ ?_
  · refine sm_iconst (x := (0 : Int32)) hG 19 rfl dX7_held_18 rfl ?_
    exact sm_bret hG hT ⟨Nat.zero_le _, Nat.zero_le _⟩ dX7_held_19 rfl
  · refine sm_iconst (x := (1 : Int32)) hG 15 rfl dX7_held_14 rfl ?_
    refine sm_goto hG 19 dX7_held_15 (by decide) ?_
    exact sm_bret hG hT ⟨Nat.zero_le _, Nat.zero_le _⟩ dX7_held_19 rfl
abbrev rmX7_places : Room := { frames := 0, cells := 0, slots := 0, locals := 0 }
set_option maxRecDepth 100000 in
set_option maxHeartbeats 4000000 in
theorem c_X7_places {Λ : jL Nat} (hM : LM Λ) {x1 : Int32} {x2 : Int32}  {l : Launch} {v : mM} {r : Int32} (hr_ : f_X7_places x1 x2 v = some r) : Ct l yX7_places wsX7_places rmX7_places Λ [.ref (Λ.2.2.2.1 0), .int x1, .int x2] v (some (.int r)) v := by
  refine ct_of (cc := cX7_places) (maxL := 3) (ret := (some .int)) (fun (q : Int32) => (some (Value.int q), v)) hM.1 hr_ (by decide) rfl (Nat.le_of_ble_eq_true rfl) (fun Γ hG hT hN hl => ?_)
  subst hl
  have f7 : Cond.fieldLink RX7 7 "ChoirRegisterModel" "now" "[I" ∈ wsX7_places := by decide +kernel
  have u7 : ∀ w ∈ wsX70, w ∈ wsX7_places := by decide +kernel
  show Sm Γ Λ (0, 0) 0 [(0, .ref (Λ.2.2.2.1 0)), (1, .int x1), (2, .int x2)] [] v _
  unfold f_X7_places
  refine sm_aload_n hG 1 rfl dX7_places_0 rfl 0 rfl ?_
  refine gM0_0 hG hM  4 rfl u7 f7 dX7_places_1 ?_
  refine sm_sipush (x := (583 : Int32)) hG 7 rfl dX7_places_4 rfl ?_
  refine sm_bipush (x := (45 : Int32)) hG 9 rfl dX7_places_7 rfl ?_
  refine sm_iload_n hG 10 rfl dX7_places_9 rfl 1 rfl ?_
  refine sm_imul hG 11 rfl dX7_places_10 ?_
  refine sm_iadd hG 12 rfl dX7_places_11 ?_
  refine sm_iconst (x := (2 : Int32)) hG 13 rfl dX7_places_12 rfl ?_
  refine sm_iadd hG 14 rfl dX7_places_13 ?_
  refine sm_nmi (fun y13_1 => ?_)
  refine sm_iconst (x := (3 : Int32)) hG 15 rfl dX7_places_14 rfl ?_
  refine sm_iload_n hG 16 rfl dX7_places_15 rfl 2 rfl ?_
  refine sm_imul hG 17 rfl dX7_places_16 ?_
  refine sm_iadd hG 18 rfl dX7_places_17 ?_
  refine lA hG (ia_1 hM) 19 rfl dX7_places_18 ?_
  exact sm_iret hG hT ⟨Nat.zero_le _, Nat.zero_le _⟩ dX7_places_19 rfl
abbrev rmX7_allPlaces : Room := { frames := 1, cells := 0, slots := 0, locals := 22 }
set_option maxRecDepth 100000 in
set_option maxHeartbeats 4000000 in
theorem c_X7_allPlaces {Λ : jL Nat} (hM : LM Λ) {x1 : Int32}  {l : Launch} {v : mM} {r : Int32} (hr_ : f_X7_allPlaces x1 v = some r) : Ct l yX7_allPlaces wsX7_allPlaces rmX7_allPlaces Λ [.ref (Λ.2.2.2.1 0), .int x1] v (some (.int r)) v := by
  refine ct_of (cc := cX7_allPlaces) (maxL := 2) (ret := (some .int)) (fun (q : Int32) => (some (Value.int q), v)) hM.1 hr_ (by decide) rfl (Nat.le_of_ble_eq_true rfl) (fun Γ hG hT hN hl => ?_)
  subst hl
  show Sm Γ Λ (0, 0) 0 [(0, .ref (Λ.2.2.2.1 0)), (1, .int x1)] [] v _
  unfold f_X7_allPlaces
  refine sm_aload_n hG 1 rfl dX7_allPlaces_0 rfl 0 rfl ?_
  refine sm_iload_n hG 2 rfl dX7_allPlaces_1 rfl 1 rfl ?_
  refine sm_iconst (x := (0 : Int32)) hG 3 rfl dX7_allPlaces_2 rfl ?_
  refine sm_callV hG (fun (q : Int32) => (some (Value.int q), v)) 0 [.int x1, .int (0 : Int32)] 6 rfl (okm hM (by decide)) (me_0 hM _) (ci := 7) rfl (fun r_ hr_ => c_X7_places hM   hr_) gX7_allPlaces_X7_places rfl (by decide) (by decide) (n := 2) rfl (Nat.le_of_ble_eq_true rfl) (by decide) ⟨Nat.zero_le _, Nat.zero_le _⟩ rfl dX7_allPlaces_3 (fun r_3 => ?_)
  refine sm_aload_n hG 7 rfl dX7_allPlaces_6 rfl 0 rfl ?_
  refine sm_iload_n hG 8 rfl dX7_allPlaces_7 rfl 1 rfl ?_
  refine sm_iconst (x := (1 : Int32)) hG 9 rfl dX7_allPlaces_8 rfl ?_
  refine sm_callV hG (fun (q : Int32) => (some (Value.int q), v)) 0 [.int x1, .int (1 : Int32)] 12 rfl (okm hM (by decide)) (me_0 hM _) (ci := 7) rfl (fun r_ hr_ => c_X7_places hM   hr_) gX7_allPlaces_X7_places rfl (by decide) (by decide) (n := 2) rfl (Nat.le_of_ble_eq_true rfl) (by decide) ⟨Nat.zero_le _, Nat.zero_le _⟩ rfl dX7_allPlaces_9 (fun r_9 => ?_)
  refine sm_iadd hG 13 rfl dX7_allPlaces_12 ?_
  refine sm_aload_n hG 14 rfl dX7_allPlaces_13 rfl 0 rfl ?_
  refine sm_iload_n hG 15 rfl dX7_allPlaces_14 rfl 1 rfl ?_
  refine sm_iconst (x := (2 : Int32)) hG 16 rfl dX7_allPlaces_15 rfl ?_
  refine sm_callV hG (fun (q : Int32) => (some (Value.int q), v)) 0 [.int x1, .int (2 : Int32)] 19 rfl (okm hM (by decide)) (me_0 hM _) (ci := 7) rfl (fun r_ hr_ => c_X7_places hM   hr_) gX7_allPlaces_X7_places rfl (by decide) (by decide) (n := 2) rfl (Nat.le_of_ble_eq_true rfl) (by decide) ⟨Nat.zero_le _, Nat.zero_le _⟩ rfl dX7_allPlaces_16 (fun r_16 => ?_)
  refine sm_iadd hG 20 rfl dX7_allPlaces_19 ?_
  refine sm_aload_n hG 21 rfl dX7_allPlaces_20 rfl 0 rfl ?_
  refine sm_iload_n hG 22 rfl dX7_allPlaces_21 rfl 1 rfl ?_
  refine sm_iconst (x := (3 : Int32)) hG 23 rfl dX7_allPlaces_22 rfl ?_
  refine sm_callV hG (fun (q : Int32) => (some (Value.int q), v)) 0 [.int x1, .int (3 : Int32)] 26 rfl (okm hM (by decide)) (me_0 hM _) (ci := 7) rfl (fun r_ hr_ => c_X7_places hM   hr_) gX7_allPlaces_X7_places rfl (by decide) (by decide) (n := 2) rfl (Nat.le_of_ble_eq_true rfl) (by decide) ⟨Nat.zero_le _, Nat.zero_le _⟩ rfl dX7_allPlaces_23 (fun r_23 => ?_)
  refine sm_iadd hG 27 rfl dX7_allPlaces_26 ?_
  exact sm_iret hG hT ⟨Nat.zero_le _, Nat.zero_le _⟩ dX7_allPlaces_27 rfl
abbrev rmX7_why : Room := { frames := 3, cells := 0, slots := 0, locals := 69 }
set_option maxRecDepth 100000 in
set_option maxHeartbeats 4000000 in
theorem c_X7_why {Λ : jL Nat} (hM : LM Λ) {x1 : Int32} {x2 : Int32} {x3 : Int32}  {l : Launch} {v : mM} {r : Int32} (hr_ : f_X7_why x1 x2 x3 v = some r) : Ct l yX7_why wsX7_why rmX7_why Λ [.ref (Λ.2.2.2.1 0), .int x1, .int x2, .int x3] v (some (.int r)) v := by
  refine ct_of (cc := cX7_why) (maxL := 6) (ret := (some .int)) (fun (q : Int32) => (some (Value.int q), v)) hM.1 hr_ (by decide) rfl (Nat.le_of_ble_eq_true rfl) (fun Γ hG hT hN hl => ?_)
  subst hl
  have f7 : Cond.fieldLink RX7 7 "ChoirRegisterModel" "now" "[I" ∈ wsX7_why := by decide +kernel
  have u7 : ∀ w ∈ wsX70, w ∈ wsX7_why := by decide +kernel
  show Sm Γ Λ (0, 0) 0 [(0, .ref (Λ.2.2.2.1 0)), (1, .int x1), (2, .int x2), (3, .int x3)] [] v _
  unfold f_X7_why
  refine sm_aload_n hG 1 rfl dX7_why_0 rfl 0 rfl ?_
  refine sm_iload_n hG 2 rfl dX7_why_1 rfl 1 rfl ?_
  refine sm_callV hG (fun (q : Int32) => (some (Value.int q), v)) 0 [.int x1] 5 rfl (okm hM (by decide)) (me_0 hM _) (ci := 7) rfl (fun r_ hr_ => c_X7_dayAt hM   hr_) gX7_why_X7_dayAt rfl (by decide) (by decide) (n := 1) rfl (Nat.le_of_ble_eq_true rfl) (by decide) ⟨Nat.zero_le _, Nat.zero_le _⟩ rfl dX7_why_2 (fun r_2 => ?_)
  refine sm_istore hG 7 rfl dX7_why_5 (jlt hN rfl) [(4, .int r_2), (0, .ref (Λ.2.2.2.1 0)), (1, .int x1), (2, .int x2), (3, .int x3)] rfl ?_
  refine sm_sipush (x := (583 : Int32)) hG 10 rfl dX7_why_7 rfl ?_
  refine sm_bipush (x := (45 : Int32)) hG 12 rfl dX7_why_10 rfl ?_
  refine sm_iload_n hG 13 rfl dX7_why_12 rfl 2 rfl ?_
  refine sm_imul hG 14 rfl dX7_why_13 ?_
  refine sm_iadd hG 15 rfl dX7_why_14 ?_
  refine sm_iconst (x := (2 : Int32)) hG 16 rfl dX7_why_15 rfl ?_
  refine sm_iadd hG 17 rfl dX7_why_16 ?_
  refine sm_nmi (fun y16_1 => ?_)
  refine sm_iconst (x := (3 : Int32)) hG 18 rfl dX7_why_17 rfl ?_
  refine sm_iload_n hG 19 rfl dX7_why_18 rfl 4 rfl ?_
  refine sm_imul hG 20 rfl dX7_why_19 ?_
  refine sm_iadd hG 21 rfl dX7_why_20 ?_
  refine sm_istore hG 23 rfl dX7_why_21 (jlt hN rfl) [(5, .int (y16_1 + ((3 : Int32) * x3))), (4, .int r_2), (0, .ref (Λ.2.2.2.1 0)), (1, .int x1), (2, .int x2), (3, .int x3)] rfl ?_
  refine sm_aload_n hG 24 rfl dX7_why_23 rfl 2 rfl ?_
  refine sm_iload_n hG 25 rfl dX7_why_24 rfl 4 rfl ?_
  refine sm_iload hG 27 rfl dX7_why_25 1 rfl ?_
  refine sm_callV hG (fun (q : Int32) => (some (Value.int q), v)) 0 [.int x2, .int r_2] 30 rfl (okm hM (by decide)) (me_0 hM _) (ci := 7) rfl (fun r_ hr_ => c_X7_willHaveLeft hM   hr_) gX7_why_X7_willHaveLeft rfl (by decide) (by decide) (n := 2) rfl (Nat.le_of_ble_eq_true rfl) (by decide) ⟨Nat.zero_le _, Nat.zero_le _⟩ rfl dX7_why_27 (fun r_27 => ?_)
  refine sm_if_eq hG 35 33 rfl dX7_why_30 (by decide) ?_ ?_
  · refine sm_aload_n hG 36 rfl dX7_why_35 rfl 2 rfl ?_
    refine sm_iload_n hG 37 rfl dX7_why_36 rfl 4 rfl ?_
    refine sm_bipush (x := (10 : Int32)) hG 39 rfl dX7_why_37 rfl ?_
    refine sm_callV hG (fun (q : Int32) => (some (Value.int q), v)) 0 [.int x2, .int (10 : Int32)] 42 rfl (okm hM (by decide)) (me_0 hM _) (ci := 7) rfl (fun r_ hr_ => c_X7_its hM   hr_) gX7_why_X7_its rfl (by decide) (by decide) (n := 2) rfl (Nat.le_of_ble_eq_true rfl) (by decide) ⟨Nat.zero_le _, Nat.zero_le _⟩ rfl dX7_why_39 (fun r_39 => ?_)
    refine sm_iload hG 44 rfl dX7_why_42 1 rfl ?_
    refine sm_icmp_lt hG 49 47 rfl dX7_why_44 (by decide) ?_ ?_
    · refine sm_aload_n hG 50 rfl dX7_why_49 rfl 2 rfl ?_
      refine sm_iload_n hG 51 rfl dX7_why_50 rfl 4 rfl ?_
      refine sm_iload hG 53 rfl dX7_why_51 1 rfl ?_
      refine sm_iload hG 55 rfl dX7_why_53 1 rfl ?_
      refine sm_callV hG (fun (q : Int32) => (some (Value.int q), v)) 0 [.int x2, .int r_2, .int r_2] 58 rfl (okm hM (by decide)) (me_0 hM _) (ci := 7) rfl (fun r_ hr_ => c_X7_notes hM   hr_) gX7_why_X7_notes rfl (by decide) (by decide) (n := 3) rfl (Nat.le_of_ble_eq_true rfl) (by decide) ⟨Nat.zero_le _, Nat.zero_le _⟩ rfl dX7_why_55 (fun r_55 => ?_)
      refine sm_if_le hG 63 61 rfl dX7_why_58 (by decide) ?_ ?_
      · refine sm_aload_n hG 64 rfl dX7_why_63 rfl 2 rfl ?_
        refine sm_iload_n hG 65 rfl dX7_why_64 rfl 4 rfl ?_
        refine sm_iload hG 67 rfl dX7_why_65 1 rfl ?_
        refine sm_callV hG (fun (q : Int32) => (some (Value.int q), v)) 0 [.int x2, .int r_2] 70 rfl (okm hM (by decide)) (me_0 hM _) (ci := 7) rfl (fun r_ hr_ => c_X7_isBreaking hM   hr_) gX7_why_X7_isBreaking rfl (by decide) (by decide) (n := 2) rfl (Nat.le_of_ble_eq_true rfl) (by decide) ⟨Nat.zero_le _, Nat.zero_le _⟩ rfl dX7_why_67 (fun r_67 => ?_)
        refine sm_if_eq hG 75 73 rfl dX7_why_70 (by decide) ?_ ?_
        · refine sm_aload_n hG 76 rfl dX7_why_75 rfl 2 rfl ?_
          refine gM0_0 hG hM  79 rfl u7 f7 dX7_why_76 ?_
          refine sm_iload hG 81 rfl dX7_why_79 0 rfl ?_
          refine sm_iconst (x := (1 : Int32)) hG 82 rfl dX7_why_81 rfl ?_
          refine sm_iadd hG 83 rfl dX7_why_82 ?_
          refine lA hG (ia_1 hM) 84 rfl dX7_why_83 ?_
          refine sm_nmi (fun y83_2 => ?_)
          refine sm_aload_n hG 85 rfl dX7_why_84 rfl 2 rfl ?_
          refine sm_iload_n hG 86 rfl dX7_why_85 rfl 4 rfl ?_
          refine sm_iconst (x := (4 : Int32)) hG 87 rfl dX7_why_86 rfl ?_
          refine sm_iload hG 89 rfl dX7_why_87 1 rfl ?_
          refine sm_callV hG (fun (q : Int32) => (some (Value.int q), v)) 0 [.int x2, .int (4 : Int32), .int r_2] 92 rfl (okm hM (by decide)) (me_0 hM _) (ci := 7) rfl (fun r_ hr_ => c_X7_note hM   hr_) gX7_why_X7_note rfl (by decide) (by decide) (n := 3) rfl (Nat.le_of_ble_eq_true rfl) (by decide) ⟨Nat.zero_le _, Nat.zero_le _⟩ rfl dX7_why_89 (fun r_89 => ?_)
          refine sm_icmp_ge hG 97 95 rfl dX7_why_92 (by decide) ?_ ?_
          · refine sm_aload_n hG 98 rfl dX7_why_97 rfl 2 rfl ?_
            refine gM0_0 hG hM  101 rfl u7 f7 dX7_why_98 ?_
            refine sm_iload hG 103 rfl dX7_why_101 0 rfl ?_
            refine sm_iconst (x := (2 : Int32)) hG 104 rfl dX7_why_103 rfl ?_
            refine sm_iadd hG 105 rfl dX7_why_104 ?_
            refine lA hG (ia_1 hM) 106 rfl dX7_why_105 ?_
            refine sm_nmi (fun y105_3 => ?_)
            refine sm_aload_n hG 107 rfl dX7_why_106 rfl 2 rfl ?_
            refine sm_iload_n hG 108 rfl dX7_why_107 rfl 4 rfl ?_
            refine sm_iconst (x := (5 : Int32)) hG 109 rfl dX7_why_108 rfl ?_
            refine sm_iload hG 111 rfl dX7_why_109 1 rfl ?_
            refine sm_callV hG (fun (q : Int32) => (some (Value.int q), v)) 0 [.int x2, .int (5 : Int32), .int r_2] 114 rfl (okm hM (by decide)) (me_0 hM _) (ci := 7) rfl (fun r_ hr_ => c_X7_note hM   hr_) gX7_why_X7_note rfl (by decide) (by decide) (n := 3) rfl (Nat.le_of_ble_eq_true rfl) (by decide) ⟨Nat.zero_le _, Nat.zero_le _⟩ rfl dX7_why_111 (fun r_111 => ?_)
            refine sm_icmp_le hG 122 117 rfl dX7_why_114 (by decide) ?_ ?_
            · refine sm_iconst (x := (0 : Int32)) hG 123 rfl dX7_why_122 rfl ?_
              exact sm_iret hG hT ⟨Nat.zero_le _, Nat.zero_le _⟩ dX7_why_123 rfl
            · refine sm_bipush (x := (6 : Int32)) hG 119 rfl dX7_why_117 rfl ?_
              refine sm_goto hG 123 dX7_why_119 (by decide) ?_
              exact sm_iret hG hT ⟨Nat.zero_le _, Nat.zero_le _⟩ dX7_why_123 rfl
          · refine sm_iconst (x := (5 : Int32)) hG 96 rfl dX7_why_95 rfl ?_
            exact sm_iret hG hT ⟨Nat.zero_le _, Nat.zero_le _⟩ dX7_why_96 rfl
        · refine sm_iconst (x := (4 : Int32)) hG 74 rfl dX7_why_73 rfl ?_
          exact sm_iret hG hT ⟨Nat.zero_le _, Nat.zero_le _⟩ dX7_why_74 rfl
      · refine sm_iconst (x := (3 : Int32)) hG 62 rfl dX7_why_61 rfl ?_
        exact sm_iret hG hT ⟨Nat.zero_le _, Nat.zero_le _⟩ dX7_why_62 rfl
    · refine sm_iconst (x := (2 : Int32)) hG 48 rfl dX7_why_47 rfl ?_
      exact sm_iret hG hT ⟨Nat.zero_le _, Nat.zero_le _⟩ dX7_why_48 rfl
  · refine sm_iconst (x := (1 : Int32)) hG 34 rfl dX7_why_33 rfl ?_
    exact sm_iret hG hT ⟨Nat.zero_le _, Nat.zero_le _⟩ dX7_why_34 rfl
abbrev rmX7_set : Room := { frames := 4, cells := 0, slots := 0, locals := 94 }
set_option maxRecDepth 100000 in
set_option maxHeartbeats 4000000 in
theorem c_X7_set {Λ : jL Nat} (hM : LM Λ) {x1 : Int32} {x2 : Int32}  {l : Launch} {v : mM} {r : Int32} (hr_ : f_X7_set x1 x2 v = some r) : Ct l yX7_set wsX7_set rmX7_set Λ [.ref (Λ.2.2.2.1 0), .int x1, .int x2] v (some (.int r)) v := by
  refine ct_of (cc := cX7_set) (maxL := 5) (ret := (some .int)) (fun (q : Int32) => (some (Value.int q), v)) hM.1 hr_ (by decide) rfl (Nat.le_of_ble_eq_true rfl) (fun Γ hG hT hN hl => ?_)
  subst hl
  show Sm Γ Λ (0, 0) 0 [(0, .ref (Λ.2.2.2.1 0)), (1, .int x1), (2, .int x2)] [] v _
  unfold f_X7_set
  refine sm_iconst (x := (0 : Int32)) hG 1 rfl dX7_set_0 rfl ?_
  refine sm_istore_n hG 2 rfl dX7_set_1 rfl (jlt hN rfl) [(3, .int (0 : Int32)), (0, .ref (Λ.2.2.2.1 0)), (1, .int x1), (2, .int x2)] rfl ?_
  refine sm_iconst (x := (0 : Int32)) hG 3 rfl dX7_set_2 rfl ?_
  refine sm_istore hG 5 rfl dX7_set_3 (jlt hN rfl) [(4, .int (0 : Int32)), (3, .int (0 : Int32)), (0, .ref (Λ.2.2.2.1 0)), (1, .int x1), (2, .int x2)] rfl ?_
  refine sm_loc [2, 3, 4, 1, 0] [(0, .ref (Λ.2.2.2.1 0)), (1, .int x1), (2, .int x2), (3, .int (0 : Int32)), (4, .int (0 : Int32))] rfl ?_
  refine lp_ind (fun (X5 : Int32 → Int32 → Option Int32) => ∀ (x3_5 : Int32) (x4_5 : Int32), Sm Γ Λ (0, 0) 5 [(0, .ref (Λ.2.2.2.1 0)), (1, .int x1), (2, .int x2), (3, .int x3_5), (4, .int x4_5)] [] v (X5 x3_5 x4_5)) (fun _ _ => sm_none) (fun self5 hs5 x3_5 x4_5 => ?_) 8192 _ _
  refine sm_iload hG 7 rfl dX7_set_5 4 rfl ?_
  refine sm_iconst (x := (4 : Int32)) hG 8 rfl dX7_set_7 rfl ?_
  refine sm_icmp_ge hG 39 11 rfl dX7_set_8 (by decide) ?_ ?_
  · refine sm_iload_n hG 40 rfl dX7_set_39 rfl 3 rfl ?_
    exact sm_iret hG hT ⟨Nat.zero_le _, Nat.zero_le _⟩ dX7_set_40 rfl
  · refine sm_iload_n hG 12 rfl dX7_set_11 rfl 3 rfl ?_
    refine sm_aload_n hG 13 rfl dX7_set_12 rfl 0 rfl ?_
    refine sm_iload_n hG 14 rfl dX7_set_13 rfl 1 rfl ?_
    refine sm_iload_n hG 15 rfl dX7_set_14 rfl 2 rfl ?_
    refine sm_iload hG 17 rfl dX7_set_15 4 rfl ?_
    refine sm_callV hG (fun (q : Int32) => (some (Value.int q), v)) 0 [.int x1, .int x2, .int x4_5] 20 rfl (okm hM (by decide)) (me_0 hM _) (ci := 7) rfl (fun r_ hr_ => c_X7_why hM   hr_) gX7_set_X7_why rfl (by decide) (by decide) (n := 3) rfl (Nat.le_of_ble_eq_true rfl) (by decide) ⟨Nat.zero_le _, Nat.zero_le _⟩ rfl dX7_set_17 (fun r_17 => ?_)
    refine sm_if_ne hG 30 23 rfl dX7_set_20 (by decide) ?_ ?_
    · refine sm_iconst (x := (0 : Int32)) hG 31 rfl dX7_set_30 rfl ?_
      refine sm_ior hG 32 rfl dX7_set_31 ?_
      refine sm_istore_n hG 33 rfl dX7_set_32 rfl (jlt hN rfl) [(3, .int (x3_5 ||| (0 : Int32))), (0, .ref (Λ.2.2.2.1 0)), (1, .int x1), (2, .int x2), (4, .int x4_5)] rfl ?_
      refine sm_iinc hG 36 rfl dX7_set_33 (j := 4) rfl rfl (jlt hN rfl) [(4, .int (x4_5 + (1 : Int32))), (3, .int (x3_5 ||| (0 : Int32))), (0, .ref (Λ.2.2.2.1 0)), (1, .int x1), (2, .int x2)] rfl ?_
      refine sm_goto hG 5 dX7_set_36 (by decide) ?_
      refine sm_loc [2, 3, 4, 1, 0] [(0, .ref (Λ.2.2.2.1 0)), (1, .int x1), (2, .int x2), (3, .int (x3_5 ||| (0 : Int32))), (4, .int (x4_5 + (1 : Int32)))] rfl ?_
      exact hs5 _ _
    · refine sm_iconst (x := (1 : Int32)) hG 24 rfl dX7_set_23 rfl ?_
      refine sm_iload hG 26 rfl dX7_set_24 4 rfl ?_
      refine sm_ishl hG 27 rfl dX7_set_26 ?_
      refine sm_goto hG 31 dX7_set_27 (by decide) ?_
      refine sm_ior hG 32 rfl dX7_set_31 ?_
      refine sm_istore_n hG 33 rfl dX7_set_32 rfl (jlt hN rfl) [(3, .int (x3_5 ||| ((1 : Int32) <<< (x4_5 &&& 31)))), (0, .ref (Λ.2.2.2.1 0)), (1, .int x1), (2, .int x2), (4, .int x4_5)] rfl ?_
      refine sm_iinc hG 36 rfl dX7_set_33 (j := 4) rfl rfl (jlt hN rfl) [(4, .int (x4_5 + (1 : Int32))), (3, .int (x3_5 ||| ((1 : Int32) <<< (x4_5 &&& 31)))), (0, .ref (Λ.2.2.2.1 0)), (1, .int x1), (2, .int x2)] rfl ?_
      refine sm_goto hG 5 dX7_set_36 (by decide) ?_
      refine sm_loc [2, 3, 4, 1, 0] [(0, .ref (Λ.2.2.2.1 0)), (1, .int x1), (2, .int x2), (3, .int (x3_5 ||| ((1 : Int32) <<< (x4_5 &&& 31)))), (4, .int (x4_5 + (1 : Int32)))] rfl ?_
      exact hs5 _ _
abbrev rmX7_able : Room := { frames := 0, cells := 0, slots := 0, locals := 0 }
set_option maxRecDepth 100000 in
set_option maxHeartbeats 4000000 in
theorem c_X7_able {Λ : jL Nat} (hM : LM Λ) {x1 : Int32}  {l : Launch} {v : mM} {r : Int32} (hr_ : f_X7_able x1 v = some r) : Ct l yX7_able wsX7_able rmX7_able Λ [.ref (Λ.2.2.2.1 0), .int x1] v (some (.int r)) v := by
  refine ct_of (cc := cX7_able) (maxL := 4) (ret := (some .int)) (fun (q : Int32) => (some (Value.int q), v)) hM.1 hr_ (by decide) rfl (Nat.le_of_ble_eq_true rfl) (fun Γ hG hT hN hl => ?_)
  subst hl
  have f28 : Cond.fieldLink RX7 28 "ChoirRegisterModel" "counts" "[I" ∈ wsX7_able := by decide +kernel
  have u7 : ∀ w ∈ wsX70, w ∈ wsX7_able := by decide +kernel
  show Sm Γ Λ (0, 0) 0 [(0, .ref (Λ.2.2.2.1 0)), (1, .int x1)] [] v _
  unfold f_X7_able
  refine sm_iconst (x := (0 : Int32)) hG 1 rfl dX7_able_0 rfl ?_
  refine sm_istore_n hG 2 rfl dX7_able_1 rfl (jlt hN rfl) [(2, .int (0 : Int32)), (0, .ref (Λ.2.2.2.1 0)), (1, .int x1)] rfl ?_
  refine sm_iconst (x := (1 : Int32)) hG 3 rfl dX7_able_2 rfl ?_
  refine sm_istore_n hG 4 rfl dX7_able_3 rfl (jlt hN rfl) [(3, .int (1 : Int32)), (2, .int (0 : Int32)), (0, .ref (Λ.2.2.2.1 0)), (1, .int x1)] rfl ?_
  refine sm_loc [2, 3, 1, 0] [(0, .ref (Λ.2.2.2.1 0)), (1, .int x1), (2, .int (0 : Int32)), (3, .int (1 : Int32))] rfl ?_
  refine lp_ind (fun (X4 : Int32 → Int32 → Option Int32) => ∀ (x2_4 : Int32) (x3_4 : Int32), Sm Γ Λ (0, 0) 4 [(0, .ref (Λ.2.2.2.1 0)), (1, .int x1), (2, .int x2_4), (3, .int x3_4)] [] v (X4 x2_4 x3_4)) (fun _ _ => sm_none) (fun self4 hs4 x2_4 x3_4 => ?_) 8192 _ _
  refine sm_iload_n hG 5 rfl dX7_able_4 rfl 3 rfl ?_
  refine sm_bipush (x := (16 : Int32)) hG 7 rfl dX7_able_5 rfl ?_
  refine sm_icmp_ge hG 35 10 rfl dX7_able_7 (by decide) ?_ ?_
  · refine sm_iload_n hG 36 rfl dX7_able_35 rfl 2 rfl ?_
    exact sm_iret hG hT ⟨Nat.zero_le _, Nat.zero_le _⟩ dX7_able_36 rfl
  · refine sm_iload_n hG 11 rfl dX7_able_10 rfl 2 rfl ?_
    refine sm_iload_n hG 12 rfl dX7_able_11 rfl 3 rfl ?_
    refine sm_iload_n hG 13 rfl dX7_able_12 rfl 1 rfl ?_
    refine sm_iand hG 14 rfl dX7_able_13 ?_
    refine sm_if_eq hG 26 17 rfl dX7_able_14 (by decide) ?_ ?_
    · refine sm_iconst (x := (0 : Int32)) hG 27 rfl dX7_able_26 rfl ?_
      refine sm_iadd hG 28 rfl dX7_able_27 ?_
      refine sm_istore_n hG 29 rfl dX7_able_28 rfl (jlt hN rfl) [(2, .int (x2_4 + (0 : Int32))), (0, .ref (Λ.2.2.2.1 0)), (1, .int x1), (3, .int x3_4)] rfl ?_
      refine sm_iinc hG 32 rfl dX7_able_29 (j := 3) rfl rfl (jlt hN rfl) [(3, .int (x3_4 + (1 : Int32))), (2, .int (x2_4 + (0 : Int32))), (0, .ref (Λ.2.2.2.1 0)), (1, .int x1)] rfl ?_
      refine sm_goto hG 4 dX7_able_32 (by decide) ?_
      refine sm_loc [2, 3, 1, 0] [(0, .ref (Λ.2.2.2.1 0)), (1, .int x1), (2, .int (x2_4 + (0 : Int32))), (3, .int (x3_4 + (1 : Int32)))] rfl ?_
      exact hs4 _ _
    · refine sm_aload_n hG 18 rfl dX7_able_17 rfl 0 rfl ?_
      refine gM0_8 hG hM  21 rfl u7 f28 dX7_able_18 ?_
      refine sm_iload_n hG 22 rfl dX7_able_21 rfl 3 rfl ?_
      refine lA hG (ia_7 hM) 23 rfl dX7_able_22 ?_
      refine sm_goto hG 27 dX7_able_23 (by decide) ?_
      refine sm_iadd hG 28 rfl dX7_able_27 ?_
      refine sm_istore_n hG 29 rfl dX7_able_28 rfl (jlt hN rfl) [(2, .int (x2_4 + (v 7 (ix x3_4)))), (0, .ref (Λ.2.2.2.1 0)), (1, .int x1), (3, .int x3_4)] rfl ?_
      refine sm_iinc hG 32 rfl dX7_able_29 (j := 3) rfl rfl (jlt hN rfl) [(3, .int (x3_4 + (1 : Int32))), (2, .int (x2_4 + (v 7 (ix x3_4)))), (0, .ref (Λ.2.2.2.1 0)), (1, .int x1)] rfl ?_
      refine sm_goto hG 4 dX7_able_32 (by decide) ?_
      refine sm_loc [2, 3, 1, 0] [(0, .ref (Λ.2.2.2.1 0)), (1, .int x1), (2, .int (x2_4 + (v 7 (ix x3_4)))), (3, .int (x3_4 + (1 : Int32)))] rfl ?_
      exact hs4 _ _
abbrev rmX7_openIn : Room := { frames := 0, cells := 0, slots := 0, locals := 0 }
set_option maxRecDepth 100000 in
set_option maxHeartbeats 4000000 in
theorem c_X7_openIn {Λ : jL Nat} (hM : LM Λ) {x1 : Int32}  {l : Launch} {v : mM} {r : Int32} (hr_ : f_X7_openIn x1 v = some r) : Ct l yX7_openIn wsX7_openIn rmX7_openIn Λ [.ref (Λ.2.2.2.1 0), .int x1] v (some (.int r)) v := by
  refine ct_of (cc := cX7_openIn) (maxL := 4) (ret := (some .int)) (fun (q : Int32) => (some (Value.int q), v)) hM.1 hr_ (by decide) rfl (Nat.le_of_ble_eq_true rfl) (fun Γ hG hT hN hl => ?_)
  subst hl
  have f25 : Cond.fieldLink RX7 25 "ChoirRegisterModel" "open" "[I" ∈ wsX7_openIn := by decide +kernel
  have u7 : ∀ w ∈ wsX70, w ∈ wsX7_openIn := by decide +kernel
  show Sm Γ Λ (0, 0) 0 [(0, .ref (Λ.2.2.2.1 0)), (1, .int x1)] [] v _
  unfold f_X7_openIn
  refine sm_iconst (x := (0 : Int32)) hG 1 rfl dX7_openIn_0 rfl ?_
  refine sm_istore_n hG 2 rfl dX7_openIn_1 rfl (jlt hN rfl) [(2, .int (0 : Int32)), (0, .ref (Λ.2.2.2.1 0)), (1, .int x1)] rfl ?_
  refine sm_iconst (x := (0 : Int32)) hG 3 rfl dX7_openIn_2 rfl ?_
  refine sm_istore_n hG 4 rfl dX7_openIn_3 rfl (jlt hN rfl) [(3, .int (0 : Int32)), (2, .int (0 : Int32)), (0, .ref (Λ.2.2.2.1 0)), (1, .int x1)] rfl ?_
  refine sm_loc [2, 3, 1, 0] [(0, .ref (Λ.2.2.2.1 0)), (1, .int x1), (2, .int (0 : Int32)), (3, .int (0 : Int32))] rfl ?_
  refine lp_ind (fun (X4 : Int32 → Int32 → Option Int32) => ∀ (x2_4 : Int32) (x3_4 : Int32), Sm Γ Λ (0, 0) 4 [(0, .ref (Λ.2.2.2.1 0)), (1, .int x1), (2, .int x2_4), (3, .int x3_4)] [] v (X4 x2_4 x3_4)) (fun _ _ => sm_none) (fun self4 hs4 x2_4 x3_4 => ?_) 8192 _ _
  refine sm_iload_n hG 5 rfl dX7_openIn_4 rfl 3 rfl ?_
  refine sm_iconst (x := (4 : Int32)) hG 6 rfl dX7_openIn_5 rfl ?_
  refine sm_icmp_ge hG 37 9 rfl dX7_openIn_6 (by decide) ?_ ?_
  · refine sm_iload_n hG 38 rfl dX7_openIn_37 rfl 2 rfl ?_
    exact sm_iret hG hT ⟨Nat.zero_le _, Nat.zero_le _⟩ dX7_openIn_38 rfl
  · refine sm_iload_n hG 10 rfl dX7_openIn_9 rfl 2 rfl ?_
    refine sm_iload_n hG 11 rfl dX7_openIn_10 rfl 1 rfl ?_
    refine sm_iload_n hG 12 rfl dX7_openIn_11 rfl 3 rfl ?_
    refine sm_ishr hG 13 rfl dX7_openIn_12 ?_
    refine sm_iconst (x := (1 : Int32)) hG 14 rfl dX7_openIn_13 rfl ?_
    refine sm_iand hG 15 rfl dX7_openIn_14 ?_
    refine sm_iconst (x := (1 : Int32)) hG 16 rfl dX7_openIn_15 rfl ?_
    refine sm_icmp_ne hG 28 19 rfl dX7_openIn_16 (by decide) ?_ ?_
    · refine sm_iconst (x := (0 : Int32)) hG 29 rfl dX7_openIn_28 rfl ?_
      refine sm_iadd hG 30 rfl dX7_openIn_29 ?_
      refine sm_istore_n hG 31 rfl dX7_openIn_30 rfl (jlt hN rfl) [(2, .int (x2_4 + (0 : Int32))), (0, .ref (Λ.2.2.2.1 0)), (1, .int x1), (3, .int x3_4)] rfl ?_
      refine sm_iinc hG 34 rfl dX7_openIn_31 (j := 3) rfl rfl (jlt hN rfl) [(3, .int (x3_4 + (1 : Int32))), (2, .int (x2_4 + (0 : Int32))), (0, .ref (Λ.2.2.2.1 0)), (1, .int x1)] rfl ?_
      refine sm_goto hG 4 dX7_openIn_34 (by decide) ?_
      refine sm_loc [2, 3, 1, 0] [(0, .ref (Λ.2.2.2.1 0)), (1, .int x1), (2, .int (x2_4 + (0 : Int32))), (3, .int (x3_4 + (1 : Int32)))] rfl ?_
      exact hs4 _ _
    · refine sm_aload_n hG 20 rfl dX7_openIn_19 rfl 0 rfl ?_
      refine gM0_7 hG hM  23 rfl u7 f25 dX7_openIn_20 ?_
      refine sm_iload_n hG 24 rfl dX7_openIn_23 rfl 3 rfl ?_
      refine lA hG (ia_6 hM) 25 rfl dX7_openIn_24 ?_
      refine sm_goto hG 29 dX7_openIn_25 (by decide) ?_
      refine sm_iadd hG 30 rfl dX7_openIn_29 ?_
      refine sm_istore_n hG 31 rfl dX7_openIn_30 rfl (jlt hN rfl) [(2, .int (x2_4 + (v 6 (ix x3_4)))), (0, .ref (Λ.2.2.2.1 0)), (1, .int x1), (3, .int x3_4)] rfl ?_
      refine sm_iinc hG 34 rfl dX7_openIn_31 (j := 3) rfl rfl (jlt hN rfl) [(3, .int (x3_4 + (1 : Int32))), (2, .int (x2_4 + (v 6 (ix x3_4)))), (0, .ref (Λ.2.2.2.1 0)), (1, .int x1)] rfl ?_
      refine sm_goto hG 4 dX7_openIn_34 (by decide) ?_
      refine sm_loc [2, 3, 1, 0] [(0, .ref (Λ.2.2.2.1 0)), (1, .int x1), (2, .int (x2_4 + (v 6 (ix x3_4)))), (3, .int (x3_4 + (1 : Int32)))] rfl ?_
      exact hs4 _ _
abbrev rmX7_fillable : Room := { frames := 1, cells := 0, slots := 0, locals := 23 }
set_option maxRecDepth 100000 in
set_option maxHeartbeats 4000000 in
theorem c_X7_fillable {Λ : jL Nat} (hM : LM Λ)   {l : Launch} {v : mM} {r : Int32} (hr_ : f_X7_fillable v = some r) : Ct l yX7_fillable wsX7_fillable rmX7_fillable Λ [.ref (Λ.2.2.2.1 0)] v (some (.int r)) v := by
  refine ct_of (cc := cX7_fillable) (maxL := 4) (ret := (some .int)) (fun (q : Int32) => (some (Value.int q), v)) hM.1 hr_ (by decide) rfl (Nat.le_of_ble_eq_true rfl) (fun Γ hG hT hN hl => ?_)
  subst hl
  show Sm Γ Λ (0, 0) 0 [(0, .ref (Λ.2.2.2.1 0))] [] v _
  unfold f_X7_fillable
  refine sm_bipush (x := (99 : Int32)) hG 2 rfl dX7_fillable_0 rfl ?_
  refine sm_istore_n hG 3 rfl dX7_fillable_2 rfl (jlt hN rfl) [(1, .int (99 : Int32)), (0, .ref (Λ.2.2.2.1 0))] rfl ?_
  refine sm_iconst (x := (0 : Int32)) hG 4 rfl dX7_fillable_3 rfl ?_
  refine sm_istore_n hG 5 rfl dX7_fillable_4 rfl (jlt hN rfl) [(2, .int (0 : Int32)), (1, .int (99 : Int32)), (0, .ref (Λ.2.2.2.1 0))] rfl ?_
  refine sm_loc [2, 1, 0] [(0, .ref (Λ.2.2.2.1 0)), (1, .int (99 : Int32)), (2, .int (0 : Int32))] rfl ?_
  refine lp_ind (fun (X5 : Int32 → Int32 → Option Int32) => ∀ (x1_5 : Int32) (x2_5 : Int32), Sm Γ Λ (0, 0) 5 [(0, .ref (Λ.2.2.2.1 0)), (1, .int x1_5), (2, .int x2_5)] [] v (X5 x1_5 x2_5)) (fun _ _ => sm_none) (fun self5 hs5 x1_5 x2_5 => ?_) 8192 _ _
  refine sm_iload_n hG 6 rfl dX7_fillable_5 rfl 2 rfl ?_
  refine sm_bipush (x := (16 : Int32)) hG 8 rfl dX7_fillable_6 rfl ?_
  refine sm_icmp_ge hG 43 11 rfl dX7_fillable_8 (by decide) ?_ ?_
  · refine sm_iload_n hG 44 rfl dX7_fillable_43 rfl 1 rfl ?_
    exact sm_iret hG hT ⟨Nat.zero_le _, Nat.zero_le _⟩ dX7_fillable_44 rfl
  · refine sm_aload_n hG 12 rfl dX7_fillable_11 rfl 0 rfl ?_
    refine sm_bipush (x := (15 : Int32)) hG 14 rfl dX7_fillable_12 rfl ?_
    refine sm_iload_n hG 15 rfl dX7_fillable_14 rfl 2 rfl ?_
    refine sm_isub hG 16 rfl dX7_fillable_15 ?_
    refine sm_callV hG (fun (q : Int32) => (some (Value.int q), v)) 0 [.int ((15 : Int32) - x2_5)] 19 rfl (okm hM (by decide)) (me_0 hM _) (ci := 7) rfl (fun r_ hr_ => c_X7_openIn hM   hr_) gX7_fillable_X7_openIn rfl (by decide) (by decide) (n := 1) rfl (Nat.le_of_ble_eq_true rfl) (by decide) ⟨Nat.zero_le _, Nat.zero_le _⟩ rfl dX7_fillable_16 (fun r_16 => ?_)
    refine sm_aload_n hG 20 rfl dX7_fillable_19 rfl 0 rfl ?_
    refine sm_iload_n hG 21 rfl dX7_fillable_20 rfl 2 rfl ?_
    refine sm_callV hG (fun (q : Int32) => (some (Value.int q), v)) 0 [.int x2_5] 24 rfl (okm hM (by decide)) (me_0 hM _) (ci := 7) rfl (fun r_ hr_ => c_X7_able hM   hr_) gX7_fillable_X7_able rfl (by decide) (by decide) (n := 1) rfl (Nat.le_of_ble_eq_true rfl) (by decide) ⟨Nat.zero_le _, Nat.zero_le _⟩ rfl dX7_fillable_21 (fun r_21 => ?_)
    refine sm_iadd hG 25 rfl dX7_fillable_24 ?_
    refine sm_istore_n hG 26 rfl dX7_fillable_25 rfl (jlt hN rfl) [(3, .int (r_16 + r_21)), (0, .ref (Λ.2.2.2.1 0)), (1, .int x1_5), (2, .int x2_5)] rfl ?_
    refine sm_iload_n hG 27 rfl dX7_fillable_26 rfl 0 rfl ?_
    refine sm_iload_n hG 28 rfl dX7_fillable_27 rfl 2 rfl ?_
    refine sm_icmp_ge hG 35 31 rfl dX7_fillable_28 (by decide) ?_ ?_
    · refine sm_iload_n hG 36 rfl dX7_fillable_35 rfl 2 rfl ?_
      refine sm_istore_n hG 37 rfl dX7_fillable_36 rfl (jlt hN rfl) [(1, .int x1_5), (3, .int (r_16 + r_21)), (0, .ref (Λ.2.2.2.1 0)), (2, .int x2_5)] rfl ?_
      refine sm_iinc hG 40 rfl dX7_fillable_37 (j := 3) rfl rfl (jlt hN rfl) [(2, .int (x2_5 + (1 : Int32))), (1, .int x1_5), (3, .int (r_16 + r_21)), (0, .ref (Λ.2.2.2.1 0))] rfl ?_
      refine sm_goto hG 5 dX7_fillable_40 (by decide) ?_
      refine sm_loc [3, 1, 0] [(0, .ref (Λ.2.2.2.1 0)), (1, .int x1_5), (2, .int (x2_5 + (1 : Int32)))] rfl ?_
      exact hs5 _ _
    · refine sm_iload_n hG 32 rfl dX7_fillable_31 rfl 0 rfl ?_
      refine sm_goto hG 36 dX7_fillable_32 (by decide) ?_
      refine sm_istore_n hG 37 rfl dX7_fillable_36 rfl (jlt hN rfl) [(1, .int (r_16 + r_21)), (3, .int (r_16 + r_21)), (0, .ref (Λ.2.2.2.1 0)), (2, .int x2_5)] rfl ?_
      refine sm_iinc hG 40 rfl dX7_fillable_37 (j := 3) rfl rfl (jlt hN rfl) [(2, .int (x2_5 + (1 : Int32))), (1, .int (r_16 + r_21)), (3, .int (r_16 + r_21)), (0, .ref (Λ.2.2.2.1 0))] rfl ?_
      refine sm_goto hG 5 dX7_fillable_40 (by decide) ?_
      refine sm_loc [3, 1, 0] [(0, .ref (Λ.2.2.2.1 0)), (1, .int (r_16 + r_21)), (2, .int (x2_5 + (1 : Int32)))] rfl ?_
      exact hs5 _ _
abbrev rmX7_counts : Room := { frames := 5, cells := 0, slots := 0, locals := 118 }
set_option maxRecDepth 100000 in
set_option maxHeartbeats 4000000 in
theorem c_X7_counts {Λ : jL Nat} (hM : LM Λ) {x1 : Int32}  {l : Launch} {v : mM} {r : mM} (hr_ : f_X7_counts x1 v = some r) : Ct l yX7_counts wsX7_counts rmX7_counts Λ [.ref (Λ.2.2.2.1 0), .int x1] v none r := by
  refine ct_of (cc := cX7_counts) (maxL := 3) (ret := none) (fun (w : mM) => ((none : Option Value), w)) hM.1 hr_ (by decide) rfl (Nat.le_of_ble_eq_true rfl) (fun Γ hG hT hN hl => ?_)
  subst hl
  have f25 : Cond.fieldLink RX7 25 "ChoirRegisterModel" "open" "[I" ∈ wsX7_counts := by decide +kernel
  have f28 : Cond.fieldLink RX7 28 "ChoirRegisterModel" "counts" "[I" ∈ wsX7_counts := by decide +kernel
  have f7 : Cond.fieldLink RX7 7 "ChoirRegisterModel" "now" "[I" ∈ wsX7_counts := by decide +kernel
  have u7 : ∀ w ∈ wsX70, w ∈ wsX7_counts := by decide +kernel
  show Sm Γ Λ (0, 0) 0 [(0, .ref (Λ.2.2.2.1 0)), (1, .int x1)] [] v _
  unfold f_X7_counts
  refine sm_iconst (x := (0 : Int32)) hG 1 rfl dX7_counts_0 rfl ?_
  refine sm_istore_n hG 2 rfl dX7_counts_1 rfl (jlt hN rfl) [(2, .int (0 : Int32)), (0, .ref (Λ.2.2.2.1 0)), (1, .int x1)] rfl ?_
  refine sm_loc [1, 2, 0] [(0, .ref (Λ.2.2.2.1 0)), (1, .int x1), (2, .int (0 : Int32))] rfl ?_
  refine lp_ind (fun (X2 : Int32 → mM → Option mM) => ∀ (x2_2 : Int32) (v_2 : mM), Sm Γ Λ (0, 0) 2 [(0, .ref (Λ.2.2.2.1 0)), (1, .int x1), (2, .int x2_2)] [] v_2 (X2 x2_2 v_2)) (fun _ _ => sm_none) (fun self2 hs2 x2_2 v_2 => ?_) 8192 _ _
  refine sm_iload_n hG 3 rfl dX7_counts_2 rfl 2 rfl ?_
  refine sm_bipush (x := (16 : Int32)) hG 5 rfl dX7_counts_3 rfl ?_
  refine sm_icmp_ge hG 21 8 rfl dX7_counts_5 (by decide) ?_ ?_
  · refine sm_iconst (x := (0 : Int32)) hG 22 rfl dX7_counts_21 rfl ?_
    refine sm_istore_n hG 23 rfl dX7_counts_22 rfl (jlt hN rfl) [(2, .int (0 : Int32)), (0, .ref (Λ.2.2.2.1 0)), (1, .int x1)] rfl ?_
    refine sm_loc [1, 2, 0] [(0, .ref (Λ.2.2.2.1 0)), (1, .int x1), (2, .int (0 : Int32))] rfl ?_
    refine lp_ind (fun (X23 : Int32 → mM → Option mM) => ∀ (x2_23 : Int32) (v_23 : mM), Sm Γ Λ (0, 0) 23 [(0, .ref (Λ.2.2.2.1 0)), (1, .int x1), (2, .int x2_23)] [] v_23 (X23 x2_23 v_23)) (fun _ _ => sm_none) (fun self23 hs23 x2_23 v_23 => ?_) 8192 _ _
    refine sm_iload_n hG 24 rfl dX7_counts_23 rfl 2 rfl ?_
    refine sm_iconst (x := (4 : Int32)) hG 25 rfl dX7_counts_24 rfl ?_
    refine sm_icmp_ge hG 46 28 rfl dX7_counts_25 (by decide) ?_ ?_
    · refine sm_iconst (x := (0 : Int32)) hG 47 rfl dX7_counts_46 rfl ?_
      refine sm_istore_n hG 48 rfl dX7_counts_47 rfl (jlt hN rfl) [(2, .int (0 : Int32)), (0, .ref (Λ.2.2.2.1 0)), (1, .int x1)] rfl ?_
      refine sm_loc [1, 2, 0] [(0, .ref (Λ.2.2.2.1 0)), (1, .int x1), (2, .int (0 : Int32))] rfl ?_
      refine lp_ind (fun (X48 : Int32 → mM → Option mM) => ∀ (x2_48 : Int32) (v_48 : mM), Sm Γ Λ (0, 0) 48 [(0, .ref (Λ.2.2.2.1 0)), (1, .int x1), (2, .int x2_48)] [] v_48 (X48 x2_48 v_48)) (fun _ _ => sm_none) (fun self48 hs48 x2_48 v_48 => ?_) 8192 _ _
      refine sm_iload_n hG 49 rfl dX7_counts_48 rfl 2 rfl ?_
      refine sm_aload_n hG 50 rfl dX7_counts_49 rfl 0 rfl ?_
      refine gM0_0 hG hM  53 rfl u7 f7 dX7_counts_50 ?_
      refine sm_iconst (x := (1 : Int32)) hG 54 rfl dX7_counts_53 rfl ?_
      refine lA hG (ia_1 hM) 55 rfl dX7_counts_54 ?_
      refine sm_icmp_ge hG 79 58 rfl dX7_counts_55 (by decide) ?_ ?_
      · exact sm_vret hG hT ⟨Nat.zero_le _, Nat.zero_le _⟩ dX7_counts_79 rfl
      · refine sm_aload_n hG 59 rfl dX7_counts_58 rfl 0 rfl ?_
        refine gM0_8 hG hM  62 rfl u7 f28 dX7_counts_59 ?_
        refine sm_aload_n hG 63 rfl dX7_counts_62 rfl 0 rfl ?_
        refine sm_iload_n hG 64 rfl dX7_counts_63 rfl 1 rfl ?_
        refine sm_iload_n hG 65 rfl dX7_counts_64 rfl 2 rfl ?_
        refine sm_callV hG (fun (q : Int32) => (some (Value.int q), v_48)) 0 [.int x1, .int x2_48] 68 rfl (okm hM (by decide)) (me_0 hM _) (ci := 7) rfl (fun r_ hr_ => c_X7_set hM   hr_) gX7_counts_X7_set rfl (by decide) (by decide) (n := 2) rfl (Nat.le_of_ble_eq_true rfl) (by decide) ⟨Nat.zero_le _, Nat.zero_le _⟩ rfl dX7_counts_65 (fun r_65 => ?_)
        refine sm_dup2 hG 69 rfl dX7_counts_68 rfl rfl ?_
        refine lA hG (ia_7 hM) 70 rfl dX7_counts_69 ?_
        refine sm_iconst (x := (1 : Int32)) hG 71 rfl dX7_counts_70 rfl ?_
        refine sm_iadd hG 72 rfl dX7_counts_71 ?_
        refine sA hG (ia_7 hM) 73 rfl dX7_counts_72 ?_
        refine sm_nmv (fun w72_1 => ?_)
        refine sm_iinc hG 76 rfl dX7_counts_73 (j := 2) rfl rfl (jlt hN rfl) [(2, .int (x2_48 + (1 : Int32))), (0, .ref (Λ.2.2.2.1 0)), (1, .int x1)] rfl ?_
        refine sm_goto hG 48 dX7_counts_76 (by decide) ?_
        refine sm_loc [1, 2, 0] [(0, .ref (Λ.2.2.2.1 0)), (1, .int x1), (2, .int (x2_48 + (1 : Int32)))] rfl ?_
        exact hs48 _ _
    · refine sm_aload_n hG 29 rfl dX7_counts_28 rfl 0 rfl ?_
      refine gM0_7 hG hM  32 rfl u7 f25 dX7_counts_29 ?_
      refine sm_iload_n hG 33 rfl dX7_counts_32 rfl 2 rfl ?_
      refine sm_aload_n hG 34 rfl dX7_counts_33 rfl 0 rfl ?_
      refine sm_iload_n hG 35 rfl dX7_counts_34 rfl 1 rfl ?_
      refine sm_iload_n hG 36 rfl dX7_counts_35 rfl 2 rfl ?_
      refine sm_callV hG (fun (q : Int32) => (some (Value.int q), v_23)) 0 [.int x1, .int x2_23] 39 rfl (okm hM (by decide)) (me_0 hM _) (ci := 7) rfl (fun r_ hr_ => c_X7_places hM   hr_) gX7_counts_X7_places rfl (by decide) (by decide) (n := 2) rfl (Nat.le_of_ble_eq_true rfl) (by decide) ⟨Nat.zero_le _, Nat.zero_le _⟩ rfl dX7_counts_36 (fun r_36 => ?_)
      refine sA hG (ia_6 hM) 40 rfl dX7_counts_39 ?_
      refine sm_nmv (fun w39_2 => ?_)
      refine sm_iinc hG 43 rfl dX7_counts_40 (j := 2) rfl rfl (jlt hN rfl) [(2, .int (x2_23 + (1 : Int32))), (0, .ref (Λ.2.2.2.1 0)), (1, .int x1)] rfl ?_
      refine sm_goto hG 23 dX7_counts_43 (by decide) ?_
      refine sm_loc [1, 2, 0] [(0, .ref (Λ.2.2.2.1 0)), (1, .int x1), (2, .int (x2_23 + (1 : Int32)))] rfl ?_
      exact hs23 _ _
  · refine sm_aload_n hG 9 rfl dX7_counts_8 rfl 0 rfl ?_
    refine gM0_8 hG hM  12 rfl u7 f28 dX7_counts_9 ?_
    refine sm_iload_n hG 13 rfl dX7_counts_12 rfl 2 rfl ?_
    refine sm_iconst (x := (0 : Int32)) hG 14 rfl dX7_counts_13 rfl ?_
    refine sA hG (ia_7 hM) 15 rfl dX7_counts_14 ?_
    refine sm_nmv (fun w14_3 => ?_)
    refine sm_iinc hG 18 rfl dX7_counts_15 (j := 2) rfl rfl (jlt hN rfl) [(2, .int (x2_2 + (1 : Int32))), (0, .ref (Λ.2.2.2.1 0)), (1, .int x1)] rfl ?_
    refine sm_goto hG 2 dX7_counts_18 (by decide) ?_
    refine sm_loc [1, 2, 0] [(0, .ref (Λ.2.2.2.1 0)), (1, .int x1), (2, .int (x2_2 + (1 : Int32)))] rfl ?_
    exact hs2 _ _
