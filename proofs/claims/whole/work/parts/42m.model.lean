/-! printed by wip/whole/jgen.py out of the bytecode: the walks -/
abbrev rmX7_type : Room := { frames := 1, cells := 0, slots := 0, locals := 21 }
set_option maxRecDepth 100000 in
set_option maxHeartbeats 4000000 in
theorem c_X7_type {Λ : jL Nat} (hM : LM Λ) {x1 : Int32}  {l : Launch} {v : mM} {r : (Int32 × mM)} (hr_ : f_X7_type x1 v = some r) : Ct l yX7_type wsX7_type rmX7_type Λ [.ref (Λ.2.2.2.1 0), .int x1] v (some (.int r.1)) r.2 := by
  refine ct_of (cc := cX7_type) (maxL := 2) (ret := (some .int)) (fun (q : Int32 × mM) => (some (Value.int q.1), q.2)) hM.1 hr_ (by decide) rfl (Nat.le_of_ble_eq_true rfl) (fun Γ hG hT hN hl => ?_)
  subst hl
  have f209 : Cond.fieldLink RX7 209 "ChoirRegisterModel" "length" "I" ∈ wsX7_type := by decide +kernel
  have f34 : Cond.fieldLink RX7 34 "ChoirRegisterModel" "text" "[I" ∈ wsX7_type := by decide +kernel
  have f40 : Cond.fieldLink RX7 40 "ChoirRegisterModel" "thrown" "I" ∈ wsX7_type := by decide +kernel
  have u7 : ∀ w ∈ wsX70, w ∈ wsX7_type := by decide +kernel
  show Sm Γ Λ (0, 0) 0 [(0, .ref (Λ.2.2.2.1 0)), (1, .int x1)] [] v _
  unfold f_X7_type
  refine sm_aload_n hG 1 rfl dX7_type_0 rfl 0 rfl ?_
  refine sm_iconst (x := (0 : Int32)) hG 2 rfl dX7_type_1 rfl ?_
  refine pM0_12 hG hM  5 rfl u7 f40 dX7_type_2 ?_
  refine sm_nmv (fun w2_1 => ?_)
  refine sm_aload_n hG 6 rfl dX7_type_5 rfl 0 rfl ?_
  refine gM0_11 hG hM  9 rfl u7 f209 dX7_type_6 ?_
  refine sm_bipush (x := (80 : Int32)) hG 11 rfl dX7_type_9 rfl ?_
  refine sm_icmp_ne hG 20 14 rfl dX7_type_11 (by decide) ?_ ?_
  · refine sm_aload_n hG 21 rfl dX7_type_20 rfl 0 rfl ?_
    refine gM0_10 hG hM  24 rfl u7 f34 dX7_type_21 ?_
    refine sm_aload_n hG 25 rfl dX7_type_24 rfl 0 rfl ?_
    refine gM0_11 hG hM  28 rfl u7 f209 dX7_type_25 ?_
    refine sm_iload_n hG 29 rfl dX7_type_28 rfl 1 rfl ?_
    refine sA hG (ia_9 hM) 30 rfl dX7_type_29 ?_
    refine sm_nmv (fun w29_2 => ?_)
    refine sm_aload_n hG 31 rfl dX7_type_30 rfl 0 rfl ?_
    refine sm_dup hG 32 rfl dX7_type_31 rfl ?_
    refine gM0_11 hG hM  35 rfl u7 f209 dX7_type_32 ?_
    refine sm_iconst (x := (1 : Int32)) hG 36 rfl dX7_type_35 rfl ?_
    refine sm_iadd hG 37 rfl dX7_type_36 ?_
    refine pM0_11 hG hM  40 rfl u7 f209 dX7_type_37 ?_
    refine sm_nmv (fun w37_3 => ?_)
    refine sm_aload_n hG 41 rfl dX7_type_40 rfl 0 rfl ?_
    refine gM0_11 hG hM  44 rfl u7 f209 dX7_type_41 ?_
    exact sm_iret hG hT ⟨Nat.zero_le _, Nat.zero_le _⟩ dX7_type_44 rfl
  · refine sm_aload_n hG 15 rfl dX7_type_14 rfl 0 rfl ?_
    refine sm_iconst (x := (1 : Int32)) hG 16 rfl dX7_type_15 rfl ?_
    refine sm_callV hG (fun (q : Int32 × mM) => (some (Value.int q.1), q.2)) 0 [.int (1 : Int32)] 19 rfl (okm hM (by decide)) (me_0 hM _) (ci := 7) rfl (fun r_ hr_ => c_X7_refuses hM   hr_) gX7_type_X7_refuses rfl (by decide) (by decide) (n := 1) rfl (Nat.le_of_ble_eq_true rfl) (by decide) ⟨Nat.zero_le _, Nat.zero_le _⟩ rfl dX7_type_16 (fun r_16 => ?_)
    exact sm_iret hG hT ⟨Nat.zero_le _, Nat.zero_le _⟩ dX7_type_19 rfl
abbrev rmX7_clearLetter : Room := { frames := 0, cells := 0, slots := 0, locals := 0 }
set_option maxRecDepth 100000 in
set_option maxHeartbeats 4000000 in
theorem c_X7_clearLetter {Λ : jL Nat} (hM : LM Λ)   {l : Launch} {v : mM} {r : (Int32 × mM)} (hr_ : f_X7_clearLetter v = some r) : Ct l yX7_clearLetter wsX7_clearLetter rmX7_clearLetter Λ [.ref (Λ.2.2.2.1 0)] v (some (.int r.1)) r.2 := by
  refine ct_of (cc := cX7_clearLetter) (maxL := 2) (ret := (some .int)) (fun (q : Int32 × mM) => (some (Value.int q.1), q.2)) hM.1 hr_ (by decide) rfl (Nat.le_of_ble_eq_true rfl) (fun Γ hG hT hN hl => ?_)
  subst hl
  have f209 : Cond.fieldLink RX7 209 "ChoirRegisterModel" "length" "I" ∈ wsX7_clearLetter := by decide +kernel
  have f40 : Cond.fieldLink RX7 40 "ChoirRegisterModel" "thrown" "I" ∈ wsX7_clearLetter := by decide +kernel
  have u7 : ∀ w ∈ wsX70, w ∈ wsX7_clearLetter := by decide +kernel
  show Sm Γ Λ (0, 0) 0 [(0, .ref (Λ.2.2.2.1 0))] [] v _
  unfold f_X7_clearLetter
  refine sm_aload_n hG 1 rfl dX7_clearLetter_0 rfl 0 rfl ?_
  refine sm_iconst (x := (0 : Int32)) hG 2 rfl dX7_clearLetter_1 rfl ?_
  refine pM0_12 hG hM  5 rfl u7 f40 dX7_clearLetter_2 ?_
  refine sm_nmv (fun w2_1 => ?_)
  refine sm_aload_n hG 6 rfl dX7_clearLetter_5 rfl 0 rfl ?_
  refine gM0_11 hG hM  9 rfl u7 f209 dX7_clearLetter_6 ?_
  refine sm_istore_n hG 10 rfl dX7_clearLetter_9 rfl (jlt hN rfl) [(1, .int (w2_1 0 11)), (0, .ref (Λ.2.2.2.1 0))] rfl ?_
  refine sm_aload_n hG 11 rfl dX7_clearLetter_10 rfl 1 rfl ?_
  refine sm_iconst (x := (0 : Int32)) hG 12 rfl dX7_clearLetter_11 rfl ?_
  refine pM0_11 hG hM  15 rfl u7 f209 dX7_clearLetter_12 ?_
  refine sm_nmv (fun w12_2 => ?_)
  refine sm_iload_n hG 16 rfl dX7_clearLetter_15 rfl 0 rfl ?_
  exact sm_iret hG hT ⟨Nat.zero_le _, Nat.zero_le _⟩ dX7_clearLetter_16 rfl
abbrev rmX7_takes : Room := { frames := 0, cells := 0, slots := 0, locals := 0 }
set_option maxRecDepth 100000 in
set_option maxHeartbeats 4000000 in
theorem c_X7_takes {Λ : jL Nat} (hM : LM Λ) {x1 : Int32}  {l : Launch} {v : mM} {r : (Int32 × mM)} (hr_ : f_X7_takes x1 v = some r) : Ct l yX7_takes wsX7_takes rmX7_takes Λ [.ref (Λ.2.2.2.1 0), .int x1] v (some (.int r.1)) r.2 := by
  refine ct_of (cc := cX7_takes) (maxL := 3) (ret := (some .boolean)) (fun (q : Int32 × mM) => (some (Value.int q.1), q.2)) hM.1 hr_ (by decide) rfl (Nat.le_of_ble_eq_true rfl) (fun Γ hG hT hN hl => ?_)
  subst hl
  have f209 : Cond.fieldLink RX7 209 "ChoirRegisterModel" "length" "I" ∈ wsX7_takes := by decide +kernel
  have f212 : Cond.fieldLink RX7 212 "ChoirRegisterModel" "spot" "I" ∈ wsX7_takes := by decide +kernel
  have f34 : Cond.fieldLink RX7 34 "ChoirRegisterModel" "text" "[I" ∈ wsX7_takes := by decide +kernel
  have u7 : ∀ w ∈ wsX70, w ∈ wsX7_takes := by decide +kernel
  show Sm Γ Λ (0, 0) 0 [(0, .ref (Λ.2.2.2.1 0)), (1, .int x1)] [] v _
  unfold f_X7_takes
  refine sm_jn (fun (X29 : Int32 → Option (Int32 × mM)) => ∀ (s0_29 : Int32), Sm Γ Λ (0, 0) 29 [(0, .ref (Λ.2.2.2.1 0))] [.int s0_29] v (X29 s0_29)) (fun s0_29 => ?_) (fun j29 hj29 => ?_)
  · refine sm_istore_n hG 30 rfl dX7_takes_29 rfl (jlt hN rfl) [(2, .int s0_29), (0, .ref (Λ.2.2.2.1 0))] rfl ?_
    refine sm_aload_n hG 31 rfl dX7_takes_30 rfl 1 rfl ?_
    refine sm_dup hG 32 rfl dX7_takes_31 rfl ?_
    refine gM0_13 hG hM  35 rfl u7 f212 dX7_takes_32 ?_
    refine sm_iload_n hG 36 rfl dX7_takes_35 rfl 0 rfl ?_
    refine sm_if_eq hG 43 39 rfl dX7_takes_36 (by decide) ?_ ?_
    · refine sm_iconst (x := (0 : Int32)) hG 44 rfl dX7_takes_43 rfl ?_
      refine sm_iadd hG 45 rfl dX7_takes_44 ?_
      refine pM0_13 hG hM  48 rfl u7 f212 dX7_takes_45 ?_
      refine sm_nmv (fun w45_1 => ?_)
      refine sm_iload_n hG 49 rfl dX7_takes_48 rfl 0 rfl ?_
      exact sm_bret hG hT ⟨Nat.zero_le _, Nat.zero_le _⟩ dX7_takes_49 rfl
    · refine sm_iconst (x := (1 : Int32)) hG 40 rfl dX7_takes_39 rfl ?_
      refine sm_goto hG 44 dX7_takes_40 (by decide) ?_
      refine sm_iadd hG 45 rfl dX7_takes_44 ?_
      refine pM0_13 hG hM  48 rfl u7 f212 dX7_takes_45 ?_
      refine sm_nmv (fun w45_2 => ?_)
      refine sm_iload_n hG 49 rfl dX7_takes_48 rfl 0 rfl ?_
      exact sm_bret hG hT ⟨Nat.zero_le _, Nat.zero_le _⟩ dX7_takes_49 rfl
  · refine sm_jn (fun (X28 : Unit → Option (Int32 × mM)) => ∀ (u_ : Unit), Sm Γ Λ (0, 0) 28 [(0, .ref (Λ.2.2.2.1 0))] [] v (X28 u_)) (fun u_ => ?_) (fun j28 hj28 => ?_)
    · refine sm_iconst (x := (0 : Int32)) hG 29 rfl dX7_takes_28 rfl ?_
      exact hj29 _
    · refine sm_aload_n hG 1 rfl dX7_takes_0 rfl 0 rfl ?_
      refine gM0_13 hG hM  4 rfl u7 f212 dX7_takes_1 ?_
      refine sm_aload_n hG 5 rfl dX7_takes_4 rfl 0 rfl ?_
      refine gM0_11 hG hM  8 rfl u7 f209 dX7_takes_5 ?_
      refine sm_icmp_ge hG 28 11 rfl dX7_takes_8 (by decide) ?_ ?_
      · refine sm_loc [0] [(0, .ref (Λ.2.2.2.1 0))] rfl ?_
        exact hj28 ()
      · refine sm_aload_n hG 12 rfl dX7_takes_11 rfl 0 rfl ?_
        refine gM0_10 hG hM  15 rfl u7 f34 dX7_takes_12 ?_
        refine sm_aload_n hG 16 rfl dX7_takes_15 rfl 0 rfl ?_
        refine gM0_13 hG hM  19 rfl u7 f212 dX7_takes_16 ?_
        refine lA hG (ia_9 hM) 20 rfl dX7_takes_19 ?_
        refine sm_iload_n hG 21 rfl dX7_takes_20 rfl 1 rfl ?_
        refine sm_icmp_ne hG 28 24 rfl dX7_takes_21 (by decide) ?_ ?_
        · refine sm_loc [0] [(0, .ref (Λ.2.2.2.1 0))] rfl ?_
          exact hj28 ()
        · refine sm_iconst (x := (1 : Int32)) hG 25 rfl dX7_takes_24 rfl ?_
          refine sm_goto hG 29 dX7_takes_25 (by decide) ?_
          refine sm_loc [0] [(0, .ref (Λ.2.2.2.1 0))] rfl ?_
          exact hj29 _
abbrev rmX7_begins : Room := { frames := 0, cells := 0, slots := 0, locals := 0 }
set_option maxRecDepth 100000 in
set_option maxHeartbeats 4000000 in
theorem c_X7_begins {Λ : jL Nat} (hM : LM Λ) {x0 : Int32} {x1 : Int32} {x2 : Int32}  {l : Launch} {v : mM} {r : Int32} (hr_ : f_X7_begins x0 x1 x2 v = some r) : Ct l yX7_begins wsX7_begins rmX7_begins Λ [.int x0, .int x1, .int x2] v (some (.int r)) v := by
  refine ct_of (cc := cX7_begins) (maxL := 7) (ret := (some .boolean)) (fun (q : Int32) => (some (Value.int q), v)) hM.1 hr_ (by decide) rfl (Nat.le_of_ble_eq_true rfl) (fun Γ hG hT hN hl => ?_)
  subst hl
  show Sm Γ Λ (0, 0) 0 [(0, .int x0), (1, .int x1), (2, .int x2)] [] v _
  unfold f_X7_begins
  refine sm_iconst (x := (0 : Int32)) hG 1 rfl dX7_begins_0 rfl ?_
  refine sm_istore_n hG 2 rfl dX7_begins_1 rfl (jlt hN rfl) [(3, .int (0 : Int32)), (0, .int x0), (1, .int x1), (2, .int x2)] rfl ?_
  refine sm_iload_n hG 3 rfl dX7_begins_2 rfl 1 rfl ?_
  refine sm_istore hG 5 rfl dX7_begins_3 (jlt hN rfl) [(4, .int x0), (3, .int (0 : Int32)), (0, .int x0), (1, .int x1), (2, .int x2)] rfl ?_
  refine sm_iload_n hG 6 rfl dX7_begins_5 rfl 2 rfl ?_
  refine sm_istore hG 8 rfl dX7_begins_6 (jlt hN rfl) [(5, .int x0), (4, .int x0), (3, .int (0 : Int32)), (0, .int x0), (1, .int x1), (2, .int x2)] rfl ?_
  refine sm_iconst (x := (0 : Int32)) hG 9 rfl dX7_begins_8 rfl ?_
  refine sm_istore hG 11 rfl dX7_begins_9 (jlt hN rfl) [(6, .int (0 : Int32)), (5, .int x0), (4, .int x0), (3, .int (0 : Int32)), (0, .int x0), (1, .int x1), (2, .int x2)] rfl ?_
  refine sm_loc [4, 5, 6, 3, 2, 1, 0] [(0, .int x0), (1, .int x1), (2, .int x2), (3, .int (0 : Int32)), (4, .int x0), (5, .int x0), (6, .int (0 : Int32))] rfl ?_
  refine lp_ind (fun (X11 : Int32 → Int32 → Int32 → Int32 → Option Int32) => ∀ (x3_11 : Int32) (x4_11 : Int32) (x5_11 : Int32) (x6_11 : Int32), Sm Γ Λ (0, 0) 11 [(0, .int x0), (1, .int x1), (2, .int x2), (3, .int x3_11), (4, .int x4_11), (5, .int x5_11), (6, .int x6_11)] [] v (X11 x3_11 x4_11 x5_11 x6_11)) (fun _ _ _ _ => sm_none) (fun self11 hs11 x3_11 x4_11 x5_11 x6_11 => ?_) 8192 _ _ _ _
  refine sm_iload hG 13 rfl dX7_begins_11 6 rfl ?_
  refine sm_iconst (x := (4 : Int32)) hG 14 rfl dX7_begins_13 rfl ?_
  refine sm_icmp_ge hG 62 17 rfl dX7_begins_14 (by decide) ?_ ?_
  · refine sm_iload_n hG 63 rfl dX7_begins_62 rfl 0 rfl ?_
    refine sm_if_ne hG 78 66 rfl dX7_begins_63 (by decide) ?_ ?_
    · refine sm_iload_n hG 79 rfl dX7_begins_78 rfl 3 rfl ?_
      exact sm_bret hG hT ⟨Nat.zero_le _, Nat.zero_le _⟩ dX7_begins_79 rfl
    · refine sm_iload_n hG 67 rfl dX7_begins_66 rfl 1 rfl ?_
      refine sm_if_ne hG 74 70 rfl dX7_begins_67 (by decide) ?_ ?_
      · refine sm_iconst (x := (0 : Int32)) hG 75 rfl dX7_begins_74 rfl ?_
        refine sm_goto hG 79 dX7_begins_75 (by decide) ?_
        exact sm_bret hG hT ⟨Nat.zero_le _, Nat.zero_le _⟩ dX7_begins_79 rfl
      · refine sm_iconst (x := (1 : Int32)) hG 71 rfl dX7_begins_70 rfl ?_
        refine sm_goto hG 79 dX7_begins_71 (by decide) ?_
        exact sm_bret hG hT ⟨Nat.zero_le _, Nat.zero_le _⟩ dX7_begins_79 rfl
  · refine sm_jn (fun (X38 : Int32 → Option Int32) => ∀ (s0_38 : Int32), Sm Γ Λ (0, 0) 38 [(0, .int x0), (1, .int x1), (2, .int x2), (4, .int x4_11), (5, .int x5_11), (6, .int x6_11)] [.int s0_38] v (X38 s0_38)) (fun s0_38 => ?_) (fun j38 hj38 => ?_)
    · refine sm_istore_n hG 39 rfl dX7_begins_38 rfl (jlt hN rfl) [(3, .int s0_38), (0, .int x0), (1, .int x1), (2, .int x2), (4, .int x4_11), (5, .int x5_11), (6, .int x6_11)] rfl ?_
      refine sm_bipush (x := (10 : Int32)) hG 41 rfl dX7_begins_39 rfl ?_
      refine sm_iload hG 43 rfl dX7_begins_41 4 rfl ?_
      refine sm_imul hG 44 rfl dX7_begins_43 ?_
      refine sm_istore hG 46 rfl dX7_begins_44 (jlt hN rfl) [(4, .int ((10 : Int32) * x4_11)), (3, .int s0_38), (0, .int x0), (1, .int x1), (2, .int x2), (5, .int x5_11), (6, .int x6_11)] rfl ?_
      refine sm_bipush (x := (10 : Int32)) hG 48 rfl dX7_begins_46 rfl ?_
      refine sm_iload hG 50 rfl dX7_begins_48 5 rfl ?_
      refine sm_imul hG 51 rfl dX7_begins_50 ?_
      refine sm_bipush (x := (9 : Int32)) hG 53 rfl dX7_begins_51 rfl ?_
      refine sm_iadd hG 54 rfl dX7_begins_53 ?_
      refine sm_istore hG 56 rfl dX7_begins_54 (jlt hN rfl) [(5, .int (((10 : Int32) * x5_11) + (9 : Int32))), (4, .int ((10 : Int32) * x4_11)), (3, .int s0_38), (0, .int x0), (1, .int x1), (2, .int x2), (6, .int x6_11)] rfl ?_
      refine sm_iinc hG 59 rfl dX7_begins_56 (j := 6) rfl rfl (jlt hN rfl) [(6, .int (x6_11 + (1 : Int32))), (5, .int (((10 : Int32) * x5_11) + (9 : Int32))), (4, .int ((10 : Int32) * x4_11)), (3, .int s0_38), (0, .int x0), (1, .int x1), (2, .int x2)] rfl ?_
      refine sm_goto hG 11 dX7_begins_59 (by decide) ?_
      refine sm_loc [4, 5, 6, 3, 2, 1, 0] [(0, .int x0), (1, .int x1), (2, .int x2), (3, .int s0_38), (4, .int ((10 : Int32) * x4_11)), (5, .int (((10 : Int32) * x5_11) + (9 : Int32))), (6, .int (x6_11 + (1 : Int32)))] rfl ?_
      exact hs11 _ _ _ _
    · refine sm_jn (fun (X33 : Unit → Option Int32) => ∀ (u_ : Unit), Sm Γ Λ (0, 0) 33 [(0, .int x0), (1, .int x1), (2, .int x2), (4, .int x4_11), (5, .int x5_11), (6, .int x6_11)] [] v (X33 u_)) (fun u_ => ?_) (fun j33 hj33 => ?_)
      · refine sm_iconst (x := (1 : Int32)) hG 34 rfl dX7_begins_33 rfl ?_
        refine sm_goto hG 38 dX7_begins_34 (by decide) ?_
        exact hj38 _
      · refine sm_iload_n hG 18 rfl dX7_begins_17 rfl 3 rfl ?_
        refine sm_if_ne hG 33 21 rfl dX7_begins_18 (by decide) ?_ ?_
        · refine sm_loc [0, 1, 2, 4, 5, 6] [(0, .int x0), (1, .int x1), (2, .int x2), (4, .int x4_11), (5, .int x5_11), (6, .int x6_11)] rfl ?_
          exact hj33 ()
        · refine sm_jn (fun (X37 : Unit → Option Int32) => ∀ (u_ : Unit), Sm Γ Λ (0, 0) 37 [(0, .int x0), (1, .int x1), (2, .int x2), (4, .int x4_11), (5, .int x5_11), (6, .int x6_11)] [] v (X37 u_)) (fun u_ => ?_) (fun j37 hj37 => ?_)
          · refine sm_iconst (x := (0 : Int32)) hG 38 rfl dX7_begins_37 rfl ?_
            exact hj38 _
          · refine sm_iload hG 23 rfl dX7_begins_21 4 rfl ?_
            refine sm_iload_n hG 24 rfl dX7_begins_23 rfl 2 rfl ?_
            refine sm_icmp_gt hG 37 27 rfl dX7_begins_24 (by decide) ?_ ?_
            · refine sm_loc [0, 1, 2, 4, 5, 6] [(0, .int x0), (1, .int x1), (2, .int x2), (4, .int x4_11), (5, .int x5_11), (6, .int x6_11)] rfl ?_
              exact hj37 ()
            · refine sm_iload hG 29 rfl dX7_begins_27 5 rfl ?_
              refine sm_iload_n hG 30 rfl dX7_begins_29 rfl 1 rfl ?_
              refine sm_icmp_lt hG 37 33 rfl dX7_begins_30 (by decide) ?_ ?_
              · refine sm_loc [0, 1, 2, 4, 5, 6] [(0, .int x0), (1, .int x1), (2, .int x2), (4, .int x4_11), (5, .int x5_11), (6, .int x6_11)] rfl ?_
                exact hj37 ()
              · refine sm_loc [0, 1, 2, 4, 5, 6] [(0, .int x0), (1, .int x1), (2, .int x2), (4, .int x4_11), (5, .int x5_11), (6, .int x6_11)] rfl ?_
                exact hj33 ()
abbrev rmX7_isNumber : Room := { frames := 1, cells := 0, slots := 0, locals := 26 }
set_option maxRecDepth 100000 in
set_option maxHeartbeats 4000000 in
theorem c_X7_isNumber {Λ : jL Nat} (hM : LM Λ) {x1 : Int32} {x2 : Int32} {x3 : Int32}  {l : Launch} {v : mM} {r : (Int32 × mM)} (hr_ : f_X7_isNumber x1 x2 x3 v = some r) : Ct l yX7_isNumber wsX7_isNumber rmX7_isNumber Λ [.ref (Λ.2.2.2.1 0), .int x1, .int x2, .int x3] v (some (.int r.1)) r.2 := by
  refine ct_of (cc := cX7_isNumber) (maxL := 9) (ret := (some .boolean)) (fun (q : Int32 × mM) => (some (Value.int q.1), q.2)) hM.1 hr_ (by decide) rfl (Nat.le_of_ble_eq_true rfl) (fun Γ hG hT hN hl => ?_)
  subst hl
  have f209 : Cond.fieldLink RX7 209 "ChoirRegisterModel" "length" "I" ∈ wsX7_isNumber := by decide +kernel
  have f212 : Cond.fieldLink RX7 212 "ChoirRegisterModel" "spot" "I" ∈ wsX7_isNumber := by decide +kernel
  have f218 : Cond.fieldLink RX7 218 "ChoirRegisterModel" "toldMany" "I" ∈ wsX7_isNumber := by decide +kernel
  have f34 : Cond.fieldLink RX7 34 "ChoirRegisterModel" "text" "[I" ∈ wsX7_isNumber := by decide +kernel
  have f37 : Cond.fieldLink RX7 37 "ChoirRegisterModel" "told" "[I" ∈ wsX7_isNumber := by decide +kernel
  have u7 : ∀ w ∈ wsX70, w ∈ wsX7_isNumber := by decide +kernel
  show Sm Γ Λ (0, 0) 0 [(0, .ref (Λ.2.2.2.1 0)), (1, .int x1), (2, .int x2), (3, .int x3)] [] v _
  unfold f_X7_isNumber
  refine sm_iconst (x := (0 : Int32)) hG 1 rfl dX7_isNumber_0 rfl ?_
  refine sm_istore hG 3 rfl dX7_isNumber_1 (jlt hN rfl) [(4, .int (0 : Int32)), (0, .ref (Λ.2.2.2.1 0)), (1, .int x1), (2, .int x2), (3, .int x3)] rfl ?_
  refine sm_iconst (x := (0 : Int32)) hG 4 rfl dX7_isNumber_3 rfl ?_
  refine sm_istore hG 6 rfl dX7_isNumber_4 (jlt hN rfl) [(5, .int (0 : Int32)), (4, .int (0 : Int32)), (0, .ref (Λ.2.2.2.1 0)), (1, .int x1), (2, .int x2), (3, .int x3)] rfl ?_
  refine sm_iconst (x := (1 : Int32)) hG 7 rfl dX7_isNumber_6 rfl ?_
  refine sm_istore hG 9 rfl dX7_isNumber_7 (jlt hN rfl) [(6, .int (1 : Int32)), (5, .int (0 : Int32)), (4, .int (0 : Int32)), (0, .ref (Λ.2.2.2.1 0)), (1, .int x1), (2, .int x2), (3, .int x3)] rfl ?_
  refine sm_loc [3, 4, 5, 6, 2, 1, 0] [(0, .ref (Λ.2.2.2.1 0)), (1, .int x1), (2, .int x2), (3, .int x3), (4, .int (0 : Int32)), (5, .int (0 : Int32)), (6, .int (1 : Int32))] rfl ?_
  refine lp_ind (fun (X9 : Int32 → Int32 → Int32 → mM → Option (Int32 × mM)) => ∀ (x4_9 : Int32) (x5_9 : Int32) (x6_9 : Int32) (v_9 : mM), Sm Γ Λ (0, 0) 9 [(0, .ref (Λ.2.2.2.1 0)), (1, .int x1), (2, .int x2), (3, .int x3), (4, .int x4_9), (5, .int x5_9), (6, .int x6_9)] [] v_9 (X9 x4_9 x5_9 x6_9 v_9)) (fun _ _ _ _ => sm_none) (fun self9 hs9 x4_9 x5_9 x6_9 v_9 => ?_) 8192 _ _ _ _
  refine sm_iload hG 11 rfl dX7_isNumber_9 6 rfl ?_
  refine sm_if_eq hG 163 14 rfl dX7_isNumber_11 (by decide) ?_ ?_
  · refine sm_aload_n hG 164 rfl dX7_isNumber_163 rfl 0 rfl ?_
    refine gM0_14 hG hM  167 rfl u7 f37 dX7_isNumber_164 ?_
    refine sm_bipush (x := (6 : Int32)) hG 169 rfl dX7_isNumber_167 rfl ?_
    refine sm_aload_n hG 170 rfl dX7_isNumber_169 rfl 0 rfl ?_
    refine gM0_15 hG hM  173 rfl u7 f218 dX7_isNumber_170 ?_
    refine sm_imul hG 174 rfl dX7_isNumber_173 ?_
    refine sm_iload_n hG 175 rfl dX7_isNumber_174 rfl 1 rfl ?_
    refine sm_iadd hG 176 rfl dX7_isNumber_175 ?_
    refine sm_iload hG 178 rfl dX7_isNumber_176 4 rfl ?_
    refine sA hG (ia_10 hM) 179 rfl dX7_isNumber_178 ?_
    refine sm_nmv (fun w178_1 => ?_)
    refine sm_iload hG 181 rfl dX7_isNumber_179 5 rfl ?_
    refine sm_if_le hG 198 184 rfl dX7_isNumber_181 (by decide) ?_ ?_
    · refine sm_iconst (x := (0 : Int32)) hG 199 rfl dX7_isNumber_198 rfl ?_
      exact sm_bret hG hT ⟨Nat.zero_le _, Nat.zero_le _⟩ dX7_isNumber_199 rfl
    · refine sm_iload hG 186 rfl dX7_isNumber_184 4 rfl ?_
      refine sm_iload_n hG 187 rfl dX7_isNumber_186 rfl 2 rfl ?_
      refine sm_iload_n hG 188 rfl dX7_isNumber_187 rfl 3 rfl ?_
      refine sm_callS hG (fun (q : Int32) => (some (Value.int q), w178_1)) [.int x4_9, .int x2, .int x3] 191 rfl (fun r_ hr_ => c_X7_in hM   hr_) gX7_isNumber_X7_in rfl (by decide) (by decide) (n := 3) rfl (Nat.le_of_ble_eq_true rfl) (by decide) ⟨Nat.zero_le _, Nat.zero_le _⟩ rfl dX7_isNumber_188 (fun r_188 => ?_)
      refine sm_if_eq hG 198 194 rfl dX7_isNumber_191 (by decide) ?_ ?_
      · refine sm_iconst (x := (0 : Int32)) hG 199 rfl dX7_isNumber_198 rfl ?_
        exact sm_bret hG hT ⟨Nat.zero_le _, Nat.zero_le _⟩ dX7_isNumber_199 rfl
      · refine sm_iconst (x := (1 : Int32)) hG 195 rfl dX7_isNumber_194 rfl ?_
        refine sm_goto hG 199 dX7_isNumber_195 (by decide) ?_
        exact sm_bret hG hT ⟨Nat.zero_le _, Nat.zero_le _⟩ dX7_isNumber_199 rfl
  · refine sm_jn (fun (X59 : Int32 → Option (Int32 × mM)) => ∀ (s0_59 : Int32), Sm Γ Λ (0, 0) 59 [(0, .ref (Λ.2.2.2.1 0)), (1, .int x1), (2, .int x2), (3, .int x3), (4, .int x4_9), (5, .int x5_9)] [.int s0_59] v_9 (X59 s0_59)) (fun s0_59 => ?_) (fun j59 hj59 => ?_)
    · refine sm_jn (fun (X88 : Int32 → Int32 → Option (Int32 × mM)) => ∀ (x7_88 : Int32) (s0_88 : Int32), Sm Γ Λ (0, 0) 88 [(0, .ref (Λ.2.2.2.1 0)), (1, .int x1), (2, .int x2), (3, .int x3), (4, .int x4_9), (5, .int x5_9), (7, .int x7_88)] [.int s0_88] v_9 (X88 x7_88 s0_88)) (fun x7_88 s0_88 => ?_) (fun j88 hj88 => ?_)
      · refine sm_jn (fun (X110 : Int32 → Int32 → Option (Int32 × mM)) => ∀ (x8_110 : Int32) (s0_110 : Int32), Sm Γ Λ (0, 0) 110 [(0, .ref (Λ.2.2.2.1 0)), (1, .int x1), (2, .int x2), (3, .int x3), (4, .int x4_9), (5, .int x5_9), (8, .int x8_110)] [.int s0_110] v_9 (X110 x8_110 s0_110)) (fun x8_110 s0_110 => ?_) (fun j110 hj110 => ?_)
        · refine sm_jn (fun (X124 : Int32 → Int32 → Option (Int32 × mM)) => ∀ (x6_124 : Int32) (s0_124 : Int32), Sm Γ Λ (0, 0) 124 [(0, .ref (Λ.2.2.2.1 0)), (1, .int x1), (2, .int x2), (3, .int x3), (5, .int x5_9), (6, .int x6_124)] [.int s0_124] v_9 (X124 x6_124 s0_124)) (fun x6_124 s0_124 => ?_) (fun j124 hj124 => ?_)
          · refine sm_jn (fun (X138 : Int32 → Int32 → Int32 → Option (Int32 × mM)) => ∀ (x4_138 : Int32) (s0_138 : Int32) (s1_138 : Int32), Sm Γ Λ (0, 0) 138 [(0, .ref (Λ.2.2.2.1 0)), (1, .int x1), (2, .int x2), (3, .int x3), (4, .int x4_138), (6, .int x6_124)] [.int s0_138, .int s1_138] v_9 (X138 x4_138 s0_138 s1_138)) (fun x4_138 s0_138 s1_138 => ?_) (fun j138 hj138 => ?_)
            · refine sm_iadd hG 139 rfl dX7_isNumber_138 ?_
              refine sm_istore hG 141 rfl dX7_isNumber_139 (jlt hN rfl) [(5, .int (s1_138 + s0_138)), (0, .ref (Λ.2.2.2.1 0)), (1, .int x1), (2, .int x2), (3, .int x3), (4, .int x4_138), (6, .int x6_124)] rfl ?_
              refine sm_aload_n hG 142 rfl dX7_isNumber_141 rfl 1 rfl ?_
              refine sm_dup hG 143 rfl dX7_isNumber_142 rfl ?_
              refine gM0_13 hG hM  146 rfl u7 f212 dX7_isNumber_143 ?_
              refine sm_iload hG 148 rfl dX7_isNumber_146 6 rfl ?_
              refine sm_if_eq hG 155 151 rfl dX7_isNumber_148 (by decide) ?_ ?_
              · refine sm_iconst (x := (0 : Int32)) hG 156 rfl dX7_isNumber_155 rfl ?_
                refine sm_iadd hG 157 rfl dX7_isNumber_156 ?_
                refine pM0_13 hG hM  160 rfl u7 f212 dX7_isNumber_157 ?_
                refine sm_nmv (fun w157_3 => ?_)
                refine sm_goto hG 9 dX7_isNumber_160 (by decide) ?_
                refine sm_loc [1, 2, 3, 4, 5, 0, 6] [(0, .ref (Λ.2.2.2.1 0)), (1, .int x1), (2, .int x2), (3, .int x3), (4, .int x4_138), (5, .int (s1_138 + s0_138)), (6, .int x6_124)] rfl ?_
                exact hs9 _ _ _ _
              · refine sm_iconst (x := (1 : Int32)) hG 152 rfl dX7_isNumber_151 rfl ?_
                refine sm_goto hG 156 dX7_isNumber_152 (by decide) ?_
                refine sm_iadd hG 157 rfl dX7_isNumber_156 ?_
                refine pM0_13 hG hM  160 rfl u7 f212 dX7_isNumber_157 ?_
                refine sm_nmv (fun w157_4 => ?_)
                refine sm_goto hG 9 dX7_isNumber_160 (by decide) ?_
                refine sm_loc [1, 2, 3, 4, 5, 0, 6] [(0, .ref (Λ.2.2.2.1 0)), (1, .int x1), (2, .int x2), (3, .int x3), (4, .int x4_138), (5, .int (s1_138 + s0_138)), (6, .int x6_124)] rfl ?_
                exact hs9 _ _ _ _
            · refine sm_istore hG 126 rfl dX7_isNumber_124 (jlt hN rfl) [(4, .int s0_124), (0, .ref (Λ.2.2.2.1 0)), (1, .int x1), (2, .int x2), (3, .int x3), (5, .int x5_9), (6, .int x6_124)] rfl ?_
              refine sm_iload hG 128 rfl dX7_isNumber_126 5 rfl ?_
              refine sm_iload hG 130 rfl dX7_isNumber_128 6 rfl ?_
              refine sm_if_eq hG 137 133 rfl dX7_isNumber_130 (by decide) ?_ ?_
              · refine sm_iconst (x := (0 : Int32)) hG 138 rfl dX7_isNumber_137 rfl ?_
                refine sm_loc [1, 2, 3, 4, 0, 6] [(0, .ref (Λ.2.2.2.1 0)), (1, .int x1), (2, .int x2), (3, .int x3), (4, .int s0_124), (6, .int x6_124)] rfl ?_
                exact hj138 _ _ _
              · refine sm_iconst (x := (1 : Int32)) hG 134 rfl dX7_isNumber_133 rfl ?_
                refine sm_goto hG 138 dX7_isNumber_134 (by decide) ?_
                refine sm_loc [1, 2, 3, 4, 0, 6] [(0, .ref (Λ.2.2.2.1 0)), (1, .int x1), (2, .int x2), (3, .int x3), (4, .int s0_124), (6, .int x6_124)] rfl ?_
                exact hj138 _ _ _
          · refine sm_istore hG 112 rfl dX7_isNumber_110 (jlt hN rfl) [(6, .int s0_110), (0, .ref (Λ.2.2.2.1 0)), (1, .int x1), (2, .int x2), (3, .int x3), (4, .int x4_9), (5, .int x5_9), (8, .int x8_110)] rfl ?_
            refine sm_iload hG 114 rfl dX7_isNumber_112 0 rfl ?_
            refine sm_if_eq hG 122 117 rfl dX7_isNumber_114 (by decide) ?_ ?_
            · refine sm_iload hG 124 rfl dX7_isNumber_122 5 rfl ?_
              refine sm_loc [1, 2, 3, 4, 6, 0] [(0, .ref (Λ.2.2.2.1 0)), (1, .int x1), (2, .int x2), (3, .int x3), (5, .int x5_9), (6, .int s0_110)] rfl ?_
              exact hj124 _ _
            · refine sm_iload hG 119 rfl dX7_isNumber_117 7 rfl ?_
              refine sm_goto hG 124 dX7_isNumber_119 (by decide) ?_
              refine sm_loc [1, 2, 3, 4, 6, 0] [(0, .ref (Λ.2.2.2.1 0)), (1, .int x1), (2, .int x2), (3, .int x3), (5, .int x5_9), (6, .int s0_110)] rfl ?_
              exact hj124 _ _
        · refine sm_jn (fun (X109 : Int32 → Option (Int32 × mM)) => ∀ (x8_109 : Int32), Sm Γ Λ (0, 0) 109 [(0, .ref (Λ.2.2.2.1 0)), (1, .int x1), (2, .int x2), (3, .int x3), (4, .int x4_9), (5, .int x5_9), (8, .int x8_109)] [] v_9 (X109 x8_109)) (fun x8_109 => ?_) (fun j109 hj109 => ?_)
          · refine sm_iconst (x := (0 : Int32)) hG 110 rfl dX7_isNumber_109 rfl ?_
            exact hj110 _ _
          · refine sm_istore hG 90 rfl dX7_isNumber_88 (jlt hN rfl) [(8, .int s0_88), (0, .ref (Λ.2.2.2.1 0)), (1, .int x1), (2, .int x2), (3, .int x3), (4, .int x4_9), (5, .int x5_9), (7, .int x7_88)] rfl ?_
            refine sm_iload hG 92 rfl dX7_isNumber_90 7 rfl ?_
            refine sm_if_eq hG 109 95 rfl dX7_isNumber_92 (by decide) ?_ ?_
            · refine sm_loc [1, 2, 3, 4, 5, 6, 0] [(0, .ref (Λ.2.2.2.1 0)), (1, .int x1), (2, .int x2), (3, .int x3), (4, .int x4_9), (5, .int x5_9), (8, .int s0_88)] rfl ?_
              exact hj109 _
            · refine sm_iload hG 97 rfl dX7_isNumber_95 0 rfl ?_
              refine sm_iload_n hG 98 rfl dX7_isNumber_97 rfl 3 rfl ?_
              refine sm_iload_n hG 99 rfl dX7_isNumber_98 rfl 4 rfl ?_
              refine sm_callS hG (fun (q : Int32) => (some (Value.int q), v_9)) [.int s0_88, .int x2, .int x3] 102 rfl (fun r_ hr_ => c_X7_begins hM   hr_) gX7_isNumber_X7_begins rfl (by decide) (by decide) (n := 3) rfl (Nat.le_of_ble_eq_true rfl) (by decide) ⟨Nat.zero_le _, Nat.zero_le _⟩ rfl dX7_isNumber_99 (fun r_99 => ?_)
              refine sm_if_eq hG 109 105 rfl dX7_isNumber_102 (by decide) ?_ ?_
              · refine sm_loc [1, 2, 3, 4, 5, 6, 0] [(0, .ref (Λ.2.2.2.1 0)), (1, .int x1), (2, .int x2), (3, .int x3), (4, .int x4_9), (5, .int x5_9), (8, .int s0_88)] rfl ?_
                exact hj109 _
              · refine sm_iconst (x := (1 : Int32)) hG 106 rfl dX7_isNumber_105 rfl ?_
                refine sm_goto hG 110 dX7_isNumber_106 (by decide) ?_
                refine sm_loc [1, 2, 3, 4, 5, 6, 0] [(0, .ref (Λ.2.2.2.1 0)), (1, .int x1), (2, .int x2), (3, .int x3), (4, .int x4_9), (5, .int x5_9), (8, .int s0_88)] rfl ?_
                exact hj110 _ _
      · refine sm_istore hG 61 rfl dX7_isNumber_59 (jlt hN rfl) [(7, .int s0_59), (0, .ref (Λ.2.2.2.1 0)), (1, .int x1), (2, .int x2), (3, .int x3), (4, .int x4_9), (5, .int x5_9)] rfl ?_
        refine sm_iload hG 63 rfl dX7_isNumber_61 0 rfl ?_
        refine sm_if_eq hG 87 66 rfl dX7_isNumber_63 (by decide) ?_ ?_
        · refine sm_iconst (x := (0 : Int32)) hG 88 rfl dX7_isNumber_87 rfl ?_
          refine sm_loc [1, 2, 3, 4, 5, 6, 0] [(0, .ref (Λ.2.2.2.1 0)), (1, .int x1), (2, .int x2), (3, .int x3), (4, .int x4_9), (5, .int x5_9), (7, .int s0_59)] rfl ?_
          exact hj88 _ _
        · refine sm_bipush (x := (10 : Int32)) hG 68 rfl dX7_isNumber_66 rfl ?_
          refine sm_iload hG 70 rfl dX7_isNumber_68 5 rfl ?_
          refine sm_imul hG 71 rfl dX7_isNumber_70 ?_
          refine sm_aload_n hG 72 rfl dX7_isNumber_71 rfl 1 rfl ?_
          refine gM0_10 hG hM  75 rfl u7 f34 dX7_isNumber_72 ?_
          refine sm_aload_n hG 76 rfl dX7_isNumber_75 rfl 1 rfl ?_
          refine gM0_13 hG hM  79 rfl u7 f212 dX7_isNumber_76 ?_
          refine lA hG (ia_9 hM) 80 rfl dX7_isNumber_79 ?_
          refine sm_iadd hG 81 rfl dX7_isNumber_80 ?_
          refine sm_nmi (fun y80_2 => ?_)
          refine sm_bipush (x := (48 : Int32)) hG 83 rfl dX7_isNumber_81 rfl ?_
          refine sm_isub hG 84 rfl dX7_isNumber_83 ?_
          refine sm_goto hG 88 dX7_isNumber_84 (by decide) ?_
          refine sm_loc [1, 2, 3, 4, 5, 6, 0] [(0, .ref (Λ.2.2.2.1 0)), (1, .int x1), (2, .int x2), (3, .int x3), (4, .int x4_9), (5, .int x5_9), (7, .int s0_59)] rfl ?_
          exact hj88 _ _
    · refine sm_jn (fun (X58 : Unit → Option (Int32 × mM)) => ∀ (u_ : Unit), Sm Γ Λ (0, 0) 58 [(0, .ref (Λ.2.2.2.1 0)), (1, .int x1), (2, .int x2), (3, .int x3), (4, .int x4_9), (5, .int x5_9)] [] v_9 (X58 u_)) (fun u_ => ?_) (fun j58 hj58 => ?_)
      · refine sm_iconst (x := (0 : Int32)) hG 59 rfl dX7_isNumber_58 rfl ?_
        exact hj59 _
      · refine sm_aload_n hG 15 rfl dX7_isNumber_14 rfl 0 rfl ?_
        refine gM0_13 hG hM  18 rfl u7 f212 dX7_isNumber_15 ?_
        refine sm_aload_n hG 19 rfl dX7_isNumber_18 rfl 0 rfl ?_
        refine gM0_11 hG hM  22 rfl u7 f209 dX7_isNumber_19 ?_
        refine sm_icmp_ge hG 58 25 rfl dX7_isNumber_22 (by decide) ?_ ?_
        · refine sm_loc [0, 1, 2, 3, 4, 5] [(0, .ref (Λ.2.2.2.1 0)), (1, .int x1), (2, .int x2), (3, .int x3), (4, .int x4_9), (5, .int x5_9)] rfl ?_
          exact hj58 ()
        · refine sm_aload_n hG 26 rfl dX7_isNumber_25 rfl 0 rfl ?_
          refine gM0_10 hG hM  29 rfl u7 f34 dX7_isNumber_26 ?_
          refine sm_aload_n hG 30 rfl dX7_isNumber_29 rfl 0 rfl ?_
          refine gM0_13 hG hM  33 rfl u7 f212 dX7_isNumber_30 ?_
          refine lA hG (ia_9 hM) 34 rfl dX7_isNumber_33 ?_
          refine sm_bipush (x := (48 : Int32)) hG 36 rfl dX7_isNumber_34 rfl ?_
          refine sm_bipush (x := (57 : Int32)) hG 38 rfl dX7_isNumber_36 rfl ?_
          refine sm_callS hG (fun (q : Int32) => (some (Value.int q), v_9)) [.int (v_9 9 (ix (v_9 0 13))), .int (48 : Int32), .int (57 : Int32)] 41 rfl (fun r_ hr_ => c_X7_in hM   hr_) gX7_isNumber_X7_in rfl (by decide) (by decide) (n := 3) rfl (Nat.le_of_ble_eq_true rfl) (by decide) ⟨Nat.zero_le _, Nat.zero_le _⟩ rfl dX7_isNumber_38 (fun r_38 => ?_)
          refine sm_if_eq hG 58 44 rfl dX7_isNumber_41 (by decide) ?_ ?_
          · refine sm_loc [0, 1, 2, 3, 4, 5] [(0, .ref (Λ.2.2.2.1 0)), (1, .int x1), (2, .int x2), (3, .int x3), (4, .int x4_9), (5, .int x5_9)] rfl ?_
            exact hj58 ()
          · refine sm_jn (fun (X54 : Unit → Option (Int32 × mM)) => ∀ (u_ : Unit), Sm Γ Λ (0, 0) 54 [(0, .ref (Λ.2.2.2.1 0)), (1, .int x1), (2, .int x2), (3, .int x3), (4, .int x4_9), (5, .int x5_9)] [] v_9 (X54 u_)) (fun u_ => ?_) (fun j54 hj54 => ?_)
            · refine sm_iconst (x := (1 : Int32)) hG 55 rfl dX7_isNumber_54 rfl ?_
              refine sm_goto hG 59 dX7_isNumber_55 (by decide) ?_
              exact hj59 _
            · refine sm_iload hG 46 rfl dX7_isNumber_44 5 rfl ?_
              refine sm_if_eq hG 54 49 rfl dX7_isNumber_46 (by decide) ?_ ?_
              · refine sm_loc [0, 1, 2, 3, 4, 5] [(0, .ref (Λ.2.2.2.1 0)), (1, .int x1), (2, .int x2), (3, .int x3), (4, .int x4_9), (5, .int x5_9)] rfl ?_
                exact hj54 ()
              · refine sm_iload hG 51 rfl dX7_isNumber_49 4 rfl ?_
                refine sm_if_le hG 58 54 rfl dX7_isNumber_51 (by decide) ?_ ?_
                · refine sm_loc [0, 1, 2, 3, 4, 5] [(0, .ref (Λ.2.2.2.1 0)), (1, .int x1), (2, .int x2), (3, .int x3), (4, .int x4_9), (5, .int x5_9)] rfl ?_
                  exact hj58 ()
                · refine sm_loc [0, 1, 2, 3, 4, 5] [(0, .ref (Λ.2.2.2.1 0)), (1, .int x1), (2, .int x2), (3, .int x3), (4, .int x4_9), (5, .int x5_9)] rfl ?_
                  exact hj54 ()
abbrev rmX7_areTold : Room := { frames := 2, cells := 0, slots := 0, locals := 54 }
set_option maxRecDepth 100000 in
set_option maxHeartbeats 4000000 in
theorem c_X7_areTold {Λ : jL Nat} (hM : LM Λ) {x1 : Int32}  {l : Launch} {v : mM} {r : (Int32 × mM)} (hr_ : f_X7_areTold x1 v = some r) : Ct l yX7_areTold wsX7_areTold rmX7_areTold Λ [.ref (Λ.2.2.2.1 0), .int x1] v (some (.int r.1)) r.2 := by
  refine ct_of (cc := cX7_areTold) (maxL := 2) (ret := (some .boolean)) (fun (q : Int32 × mM) => (some (Value.int q.1), q.2)) hM.1 hr_ (by decide) rfl (Nat.le_of_ble_eq_true rfl) (fun Γ hG hT hN hl => ?_)
  subst hl
  show Sm Γ Λ (0, 0) 0 [(0, .ref (Λ.2.2.2.1 0)), (1, .int x1)] [] v _
  unfold f_X7_areTold
  refine sm_aload_n hG 1 rfl dX7_areTold_0 rfl 0 rfl ?_
  refine sm_bipush (x := (114 : Int32)) hG 3 rfl dX7_areTold_1 rfl ?_
  refine sm_callV hG (fun (q : Int32 × mM) => (some (Value.int q.1), q.2)) 0 [.int (114 : Int32)] 6 rfl (okm hM (by decide)) (me_0 hM _) (ci := 7) rfl (fun r_ hr_ => c_X7_takes hM   hr_) gX7_areTold_X7_takes rfl (by decide) (by decide) (n := 1) rfl (Nat.le_of_ble_eq_true rfl) (by decide) ⟨Nat.zero_le _, Nat.zero_le _⟩ rfl dX7_areTold_3 (fun r_3 => ?_)
  refine sm_if_eq hG 46 9 rfl dX7_areTold_6 (by decide) ?_ ?_
  · refine sm_iconst (x := (0 : Int32)) hG 47 rfl dX7_areTold_46 rfl ?_
    exact sm_bret hG hT ⟨Nat.zero_le _, Nat.zero_le _⟩ dX7_areTold_47 rfl
  · refine sm_aload_n hG 10 rfl dX7_areTold_9 rfl 0 rfl ?_
    refine sm_iload_n hG 11 rfl dX7_areTold_10 rfl 1 rfl ?_
    refine sm_iconst (x := (0 : Int32)) hG 12 rfl dX7_areTold_11 rfl ?_
    refine sm_bipush (x := (48 : Int32)) hG 14 rfl dX7_areTold_12 rfl ?_
    refine sm_callV hG (fun (q : Int32 × mM) => (some (Value.int q.1), q.2)) 0 [.int x1, .int (0 : Int32), .int (48 : Int32)] 17 rfl (okm hM (by decide)) (me_0 hM _) (ci := 7) rfl (fun r_ hr_ => c_X7_isNumber hM   hr_) gX7_areTold_X7_isNumber rfl (by decide) (by decide) (n := 3) rfl (Nat.le_of_ble_eq_true rfl) (by decide) ⟨Nat.zero_le _, Nat.zero_le _⟩ rfl dX7_areTold_14 (fun r_14 => ?_)
    refine sm_if_eq hG 46 20 rfl dX7_areTold_17 (by decide) ?_ ?_
    · refine sm_iconst (x := (0 : Int32)) hG 47 rfl dX7_areTold_46 rfl ?_
      exact sm_bret hG hT ⟨Nat.zero_le _, Nat.zero_le _⟩ dX7_areTold_47 rfl
    · refine sm_aload_n hG 21 rfl dX7_areTold_20 rfl 0 rfl ?_
      refine sm_bipush (x := (45 : Int32)) hG 23 rfl dX7_areTold_21 rfl ?_
      refine sm_callV hG (fun (q : Int32 × mM) => (some (Value.int q.1), q.2)) 0 [.int (45 : Int32)] 26 rfl (okm hM (by decide)) (me_0 hM _) (ci := 7) rfl (fun r_ hr_ => c_X7_takes hM   hr_) gX7_areTold_X7_takes rfl (by decide) (by decide) (n := 1) rfl (Nat.le_of_ble_eq_true rfl) (by decide) ⟨Nat.zero_le _, Nat.zero_le _⟩ rfl dX7_areTold_23 (fun r_23 => ?_)
      refine sm_if_eq hG 46 29 rfl dX7_areTold_26 (by decide) ?_ ?_
      · refine sm_iconst (x := (0 : Int32)) hG 47 rfl dX7_areTold_46 rfl ?_
        exact sm_bret hG hT ⟨Nat.zero_le _, Nat.zero_le _⟩ dX7_areTold_47 rfl
      · refine sm_aload_n hG 30 rfl dX7_areTold_29 rfl 0 rfl ?_
        refine sm_iload_n hG 31 rfl dX7_areTold_30 rfl 1 rfl ?_
        refine sm_iconst (x := (1 : Int32)) hG 32 rfl dX7_areTold_31 rfl ?_
        refine sm_iadd hG 33 rfl dX7_areTold_32 ?_
        refine sm_iconst (x := (0 : Int32)) hG 34 rfl dX7_areTold_33 rfl ?_
        refine sm_bipush (x := (48 : Int32)) hG 36 rfl dX7_areTold_34 rfl ?_
        refine sm_callV hG (fun (q : Int32 × mM) => (some (Value.int q.1), q.2)) 0 [.int (x1 + (1 : Int32)), .int (0 : Int32), .int (48 : Int32)] 39 rfl (okm hM (by decide)) (me_0 hM _) (ci := 7) rfl (fun r_ hr_ => c_X7_isNumber hM   hr_) gX7_areTold_X7_isNumber rfl (by decide) (by decide) (n := 3) rfl (Nat.le_of_ble_eq_true rfl) (by decide) ⟨Nat.zero_le _, Nat.zero_le _⟩ rfl dX7_areTold_36 (fun r_36 => ?_)
        refine sm_if_eq hG 46 42 rfl dX7_areTold_39 (by decide) ?_ ?_
        · refine sm_iconst (x := (0 : Int32)) hG 47 rfl dX7_areTold_46 rfl ?_
          exact sm_bret hG hT ⟨Nat.zero_le _, Nat.zero_le _⟩ dX7_areTold_47 rfl
        · refine sm_iconst (x := (1 : Int32)) hG 43 rfl dX7_areTold_42 rfl ?_
          refine sm_goto hG 47 dX7_areTold_43 (by decide) ?_
          exact sm_bret hG hT ⟨Nat.zero_le _, Nat.zero_le _⟩ dX7_areTold_47 rfl
abbrev rmX7_isSingerTold : Room := { frames := 3, cells := 0, slots := 0, locals := 75 }
set_option maxRecDepth 100000 in
set_option maxHeartbeats 4000000 in
theorem c_X7_isSingerTold {Λ : jL Nat} (hM : LM Λ)   {l : Launch} {v : mM} {r : (Int32 × mM)} (hr_ : f_X7_isSingerTold v = some r) : Ct l yX7_isSingerTold wsX7_isSingerTold rmX7_isSingerTold Λ [.ref (Λ.2.2.2.1 0)] v (some (.int r.1)) r.2 := by
  refine ct_of (cc := cX7_isSingerTold) (maxL := 1) (ret := (some .boolean)) (fun (q : Int32 × mM) => (some (Value.int q.1), q.2)) hM.1 hr_ (by decide) rfl (Nat.le_of_ble_eq_true rfl) (fun Γ hG hT hN hl => ?_)
  subst hl
  show Sm Γ Λ (0, 0) 0 [(0, .ref (Λ.2.2.2.1 0))] [] v _
  unfold f_X7_isSingerTold
  refine sm_aload_n hG 1 rfl dX7_isSingerTold_0 rfl 0 rfl ?_
  refine sm_iconst (x := (3 : Int32)) hG 2 rfl dX7_isSingerTold_1 rfl ?_
  refine sm_bipush (x := (7 : Int32)) hG 4 rfl dX7_isSingerTold_2 rfl ?_
  refine sm_bipush (x := (70 : Int32)) hG 6 rfl dX7_isSingerTold_4 rfl ?_
  refine sm_callV hG (fun (q : Int32 × mM) => (some (Value.int q.1), q.2)) 0 [.int (3 : Int32), .int (7 : Int32), .int (70 : Int32)] 9 rfl (okm hM (by decide)) (me_0 hM _) (ci := 7) rfl (fun r_ hr_ => c_X7_isNumber hM   hr_) gX7_isSingerTold_X7_isNumber rfl (by decide) (by decide) (n := 3) rfl (Nat.le_of_ble_eq_true rfl) (by decide) ⟨Nat.zero_le _, Nat.zero_le _⟩ rfl dX7_isSingerTold_6 (fun r_6 => ?_)
  refine sm_if_eq hG 67 12 rfl dX7_isSingerTold_9 (by decide) ?_ ?_
  · refine sm_iconst (x := (0 : Int32)) hG 68 rfl dX7_isSingerTold_67 rfl ?_
    exact sm_bret hG hT ⟨Nat.zero_le _, Nat.zero_le _⟩ dX7_isSingerTold_68 rfl
  · refine sm_aload_n hG 13 rfl dX7_isSingerTold_12 rfl 0 rfl ?_
    refine sm_bipush (x := (104 : Int32)) hG 15 rfl dX7_isSingerTold_13 rfl ?_
    refine sm_callV hG (fun (q : Int32 × mM) => (some (Value.int q.1), q.2)) 0 [.int (104 : Int32)] 18 rfl (okm hM (by decide)) (me_0 hM _) (ci := 7) rfl (fun r_ hr_ => c_X7_takes hM   hr_) gX7_isSingerTold_X7_takes rfl (by decide) (by decide) (n := 1) rfl (Nat.le_of_ble_eq_true rfl) (by decide) ⟨Nat.zero_le _, Nat.zero_le _⟩ rfl dX7_isSingerTold_15 (fun r_15 => ?_)
    refine sm_if_eq hG 67 21 rfl dX7_isSingerTold_18 (by decide) ?_ ?_
    · refine sm_iconst (x := (0 : Int32)) hG 68 rfl dX7_isSingerTold_67 rfl ?_
      exact sm_bret hG hT ⟨Nat.zero_le _, Nat.zero_le _⟩ dX7_isSingerTold_68 rfl
    · refine sm_aload_n hG 22 rfl dX7_isSingerTold_21 rfl 0 rfl ?_
      refine sm_iconst (x := (4 : Int32)) hG 23 rfl dX7_isSingerTold_22 rfl ?_
      refine sm_bipush (x := (90 : Int32)) hG 25 rfl dX7_isSingerTold_23 rfl ?_
      refine sm_sipush (x := (210 : Int32)) hG 28 rfl dX7_isSingerTold_25 rfl ?_
      refine sm_callV hG (fun (q : Int32 × mM) => (some (Value.int q.1), q.2)) 0 [.int (4 : Int32), .int (90 : Int32), .int (210 : Int32)] 31 rfl (okm hM (by decide)) (me_0 hM _) (ci := 7) rfl (fun r_ hr_ => c_X7_isNumber hM   hr_) gX7_isSingerTold_X7_isNumber rfl (by decide) (by decide) (n := 3) rfl (Nat.le_of_ble_eq_true rfl) (by decide) ⟨Nat.zero_le _, Nat.zero_le _⟩ rfl dX7_isSingerTold_28 (fun r_28 => ?_)
      refine sm_if_eq hG 67 34 rfl dX7_isSingerTold_31 (by decide) ?_ ?_
      · refine sm_iconst (x := (0 : Int32)) hG 68 rfl dX7_isSingerTold_67 rfl ?_
        exact sm_bret hG hT ⟨Nat.zero_le _, Nat.zero_le _⟩ dX7_isSingerTold_68 rfl
      · refine sm_aload_n hG 35 rfl dX7_isSingerTold_34 rfl 0 rfl ?_
        refine sm_iconst (x := (1 : Int32)) hG 36 rfl dX7_isSingerTold_35 rfl ?_
        refine sm_callV hG (fun (q : Int32 × mM) => (some (Value.int q.1), q.2)) 0 [.int (1 : Int32)] 39 rfl (okm hM (by decide)) (me_0 hM _) (ci := 7) rfl (fun r_ hr_ => c_X7_areTold hM   hr_) gX7_isSingerTold_X7_areTold rfl (by decide) (by decide) (n := 1) rfl (Nat.le_of_ble_eq_true rfl) (by decide) ⟨Nat.zero_le _, Nat.zero_le _⟩ rfl dX7_isSingerTold_36 (fun r_36 => ?_)
        refine sm_if_eq hG 67 42 rfl dX7_isSingerTold_39 (by decide) ?_ ?_
        · refine sm_iconst (x := (0 : Int32)) hG 68 rfl dX7_isSingerTold_67 rfl ?_
          exact sm_bret hG hT ⟨Nat.zero_le _, Nat.zero_le _⟩ dX7_isSingerTold_68 rfl
        · refine sm_aload_n hG 43 rfl dX7_isSingerTold_42 rfl 0 rfl ?_
          refine sm_bipush (x := (98 : Int32)) hG 45 rfl dX7_isSingerTold_43 rfl ?_
          refine sm_callV hG (fun (q : Int32 × mM) => (some (Value.int q.1), q.2)) 0 [.int (98 : Int32)] 48 rfl (okm hM (by decide)) (me_0 hM _) (ci := 7) rfl (fun r_ hr_ => c_X7_takes hM   hr_) gX7_isSingerTold_X7_takes rfl (by decide) (by decide) (n := 1) rfl (Nat.le_of_ble_eq_true rfl) (by decide) ⟨Nat.zero_le _, Nat.zero_le _⟩ rfl dX7_isSingerTold_45 (fun r_45 => ?_)
          refine sm_if_eq hG 63 51 rfl dX7_isSingerTold_48 (by decide) ?_ ?_
          · refine sm_iconst (x := (1 : Int32)) hG 64 rfl dX7_isSingerTold_63 rfl ?_
            refine sm_goto hG 68 dX7_isSingerTold_64 (by decide) ?_
            exact sm_bret hG hT ⟨Nat.zero_le _, Nat.zero_le _⟩ dX7_isSingerTold_68 rfl
          · refine sm_aload_n hG 52 rfl dX7_isSingerTold_51 rfl 0 rfl ?_
            refine sm_iconst (x := (5 : Int32)) hG 53 rfl dX7_isSingerTold_52 rfl ?_
            refine sm_bipush (x := (12 : Int32)) hG 55 rfl dX7_isSingerTold_53 rfl ?_
            refine sm_bipush (x := (17 : Int32)) hG 57 rfl dX7_isSingerTold_55 rfl ?_
            refine sm_callV hG (fun (q : Int32 × mM) => (some (Value.int q.1), q.2)) 0 [.int (5 : Int32), .int (12 : Int32), .int (17 : Int32)] 60 rfl (okm hM (by decide)) (me_0 hM _) (ci := 7) rfl (fun r_ hr_ => c_X7_isNumber hM   hr_) gX7_isSingerTold_X7_isNumber rfl (by decide) (by decide) (n := 3) rfl (Nat.le_of_ble_eq_true rfl) (by decide) ⟨Nat.zero_le _, Nat.zero_le _⟩ rfl dX7_isSingerTold_57 (fun r_57 => ?_)
            refine sm_if_eq hG 67 63 rfl dX7_isSingerTold_60 (by decide) ?_ ?_
            · refine sm_iconst (x := (0 : Int32)) hG 68 rfl dX7_isSingerTold_67 rfl ?_
              exact sm_bret hG hT ⟨Nat.zero_le _, Nat.zero_le _⟩ dX7_isSingerTold_68 rfl
            · refine sm_iconst (x := (1 : Int32)) hG 64 rfl dX7_isSingerTold_63 rfl ?_
              refine sm_goto hG 68 dX7_isSingerTold_64 (by decide) ?_
              exact sm_bret hG hT ⟨Nat.zero_le _, Nat.zero_le _⟩ dX7_isSingerTold_68 rfl
abbrev rmX7_isOrder : Room := { frames := 4, cells := 0, slots := 0, locals := 95 }
set_option maxRecDepth 100000 in
set_option maxHeartbeats 4000000 in
theorem c_X7_isOrder {Λ : jL Nat} (hM : LM Λ)   {l : Launch} {v : mM} {r : (Int32 × mM)} (hr_ : f_X7_isOrder v = some r) : Ct l yX7_isOrder wsX7_isOrder rmX7_isOrder Λ [.ref (Λ.2.2.2.1 0)] v (some (.int r.1)) r.2 := by
  refine ct_of (cc := cX7_isOrder) (maxL := 2) (ret := (some .boolean)) (fun (q : Int32 × mM) => (some (Value.int q.1), q.2)) hM.1 hr_ (by decide) rfl (Nat.le_of_ble_eq_true rfl) (fun Γ hG hT hN hl => ?_)
  subst hl
  have f209 : Cond.fieldLink RX7 209 "ChoirRegisterModel" "length" "I" ∈ wsX7_isOrder := by decide +kernel
  have f212 : Cond.fieldLink RX7 212 "ChoirRegisterModel" "spot" "I" ∈ wsX7_isOrder := by decide +kernel
  have f218 : Cond.fieldLink RX7 218 "ChoirRegisterModel" "toldMany" "I" ∈ wsX7_isOrder := by decide +kernel
  have f34 : Cond.fieldLink RX7 34 "ChoirRegisterModel" "text" "[I" ∈ wsX7_isOrder := by decide +kernel
  have f37 : Cond.fieldLink RX7 37 "ChoirRegisterModel" "told" "[I" ∈ wsX7_isOrder := by decide +kernel
  have u7 : ∀ w ∈ wsX70, w ∈ wsX7_isOrder := by decide +kernel
  show Sm Γ Λ (0, 0) 0 [(0, .ref (Λ.2.2.2.1 0))] [] v _
  unfold f_X7_isOrder
  refine sm_aload_n hG 1 rfl dX7_isOrder_0 rfl 0 rfl ?_
  refine gM0_13 hG hM  4 rfl u7 f212 dX7_isOrder_1 ?_
  refine sm_aload_n hG 5 rfl dX7_isOrder_4 rfl 0 rfl ?_
  refine gM0_11 hG hM  8 rfl u7 f209 dX7_isOrder_5 ?_
  refine sm_icmp_ne hG 13 11 rfl dX7_isOrder_8 (by decide) ?_ ?_
  · refine sm_aload_n hG 14 rfl dX7_isOrder_13 rfl 0 rfl ?_
    refine gM0_10 hG hM  17 rfl u7 f34 dX7_isOrder_14 ?_
    refine sm_aload_n hG 18 rfl dX7_isOrder_17 rfl 0 rfl ?_
    refine gM0_13 hG hM  21 rfl u7 f212 dX7_isOrder_18 ?_
    refine lA hG (ia_9 hM) 22 rfl dX7_isOrder_21 ?_
    refine sm_istore_n hG 23 rfl dX7_isOrder_22 rfl (jlt hN rfl) [(1, .int (v 9 (ix (v 0 13)))), (0, .ref (Λ.2.2.2.1 0))] rfl ?_
    refine sm_aload_n hG 24 rfl dX7_isOrder_23 rfl 1 rfl ?_
    refine gM0_14 hG hM  27 rfl u7 f37 dX7_isOrder_24 ?_
    refine sm_bipush (x := (6 : Int32)) hG 29 rfl dX7_isOrder_27 rfl ?_
    refine sm_aload_n hG 30 rfl dX7_isOrder_29 rfl 1 rfl ?_
    refine gM0_15 hG hM  33 rfl u7 f218 dX7_isOrder_30 ?_
    refine sm_imul hG 34 rfl dX7_isOrder_33 ?_
    refine sm_iload_n hG 35 rfl dX7_isOrder_34 rfl 0 rfl ?_
    refine sA hG (ia_10 hM) 36 rfl dX7_isOrder_35 ?_
    refine sm_nmv (fun w35_1 => ?_)
    refine sm_aload_n hG 37 rfl dX7_isOrder_36 rfl 1 rfl ?_
    refine gM0_14 hG hM  40 rfl u7 f37 dX7_isOrder_37 ?_
    refine sm_bipush (x := (6 : Int32)) hG 42 rfl dX7_isOrder_40 rfl ?_
    refine sm_aload_n hG 43 rfl dX7_isOrder_42 rfl 1 rfl ?_
    refine gM0_15 hG hM  46 rfl u7 f218 dX7_isOrder_43 ?_
    refine sm_imul hG 47 rfl dX7_isOrder_46 ?_
    refine sm_iconst (x := (5 : Int32)) hG 48 rfl dX7_isOrder_47 rfl ?_
    refine sm_iadd hG 49 rfl dX7_isOrder_48 ?_
    refine sm_iconst (x := (0 : Int32)) hG 50 rfl dX7_isOrder_49 rfl ?_
    refine sA hG (ia_10 hM) 51 rfl dX7_isOrder_50 ?_
    refine sm_nmv (fun w50_2 => ?_)
    refine sm_aload_n hG 52 rfl dX7_isOrder_51 rfl 1 rfl ?_
    refine sm_dup hG 53 rfl dX7_isOrder_52 rfl ?_
    refine gM0_13 hG hM  56 rfl u7 f212 dX7_isOrder_53 ?_
    refine sm_iconst (x := (1 : Int32)) hG 57 rfl dX7_isOrder_56 rfl ?_
    refine sm_iadd hG 58 rfl dX7_isOrder_57 ?_
    refine pM0_13 hG hM  61 rfl u7 f212 dX7_isOrder_58 ?_
    refine sm_nmv (fun w58_3 => ?_)
    refine sm_iload_n hG 62 rfl dX7_isOrder_61 rfl 0 rfl ?_
    refine sm_tsw hG dX7_isOrder_62 ⟨rfl, rfl⟩ ?_ (tgt := 391) rfl ?_
    · refine List.forall_mem_cons.mpr ⟨⟨157, rfl, sm_sn ?_⟩, List.forall_mem_cons.mpr ⟨⟨391, rfl, sm_sn ?_⟩, List.forall_mem_cons.mpr ⟨⟨391, rfl, sm_sn ?_⟩, List.forall_mem_cons.mpr ⟨⟨391, rfl, sm_sn ?_⟩, List.forall_mem_cons.mpr ⟨⟨152, rfl, sm_sn ?_⟩, List.forall_mem_cons.mpr ⟨⟨391, rfl, sm_sn ?_⟩, List.forall_mem_cons.mpr ⟨⟨194, rfl, sm_sn ?_⟩, List.forall_mem_cons.mpr ⟨⟨391, rfl, sm_sn ?_⟩, List.forall_mem_cons.mpr ⟨⟨258, rfl, sm_sn ?_⟩, List.forall_mem_cons.mpr ⟨⟨317, rfl, sm_sn ?_⟩, List.forall_mem_cons.mpr ⟨⟨391, rfl, sm_sn ?_⟩, List.forall_mem_cons.mpr ⟨⟨391, rfl, sm_sn ?_⟩, List.forall_mem_cons.mpr ⟨⟨391, rfl, sm_sn ?_⟩, List.forall_mem_cons.mpr ⟨⟨391, rfl, sm_sn ?_⟩, List.forall_mem_cons.mpr ⟨⟨382, rfl, sm_sn ?_⟩, List.forall_mem_cons.mpr ⟨⟨391, rfl, sm_sn ?_⟩, List.forall_mem_cons.mpr ⟨⟨391, rfl, sm_sn ?_⟩, List.forall_mem_cons.mpr ⟨⟨391, rfl, sm_sn ?_⟩, List.forall_mem_cons.mpr ⟨⟨373, rfl, sm_sn ?_⟩, fun _ h => nomatch h⟩⟩⟩⟩⟩⟩⟩⟩⟩⟩⟩⟩⟩⟩⟩⟩⟩⟩⟩
      · refine sm_aload_n hG 158 rfl dX7_isOrder_157 rfl 1 rfl ?_
        refine sm_iconst (x := (1 : Int32)) hG 159 rfl dX7_isOrder_158 rfl ?_
        refine sm_iconst (x := (1 : Int32)) hG 160 rfl dX7_isOrder_159 rfl ?_
        refine sm_sipush (x := (9999 : Int32)) hG 163 rfl dX7_isOrder_160 rfl ?_
        refine sm_callV hG (fun (q : Int32 × mM) => (some (Value.int q.1), q.2)) 0 [.int (1 : Int32), .int (1 : Int32), .int (9999 : Int32)] 166 rfl (okm hM (by decide)) (me_0 hM _) (ci := 7) rfl (fun r_ hr_ => c_X7_isNumber hM   hr_) gX7_isOrder_X7_isNumber rfl (by decide) (by decide) (n := 3) rfl (Nat.le_of_ble_eq_true rfl) (by decide) ⟨Nat.zero_le _, Nat.zero_le _⟩ rfl dX7_isOrder_163 (fun r_163 => ?_)
        refine sm_if_eq hG 192 169 rfl dX7_isOrder_166 (by decide) ?_ ?_
        · refine sm_iconst (x := (0 : Int32)) hG 193 rfl dX7_isOrder_192 rfl ?_
          exact sm_bret hG hT ⟨Nat.zero_le _, Nat.zero_le _⟩ dX7_isOrder_193 rfl
        · refine sm_aload_n hG 170 rfl dX7_isOrder_169 rfl 1 rfl ?_
          refine sm_bipush (x := (42 : Int32)) hG 172 rfl dX7_isOrder_170 rfl ?_
          refine sm_callV hG (fun (q : Int32 × mM) => (some (Value.int q.1), q.2)) 0 [.int (42 : Int32)] 175 rfl (okm hM (by decide)) (me_0 hM _) (ci := 7) rfl (fun r_ hr_ => c_X7_takes hM   hr_) gX7_isOrder_X7_takes rfl (by decide) (by decide) (n := 1) rfl (Nat.le_of_ble_eq_true rfl) (by decide) ⟨Nat.zero_le _, Nat.zero_le _⟩ rfl dX7_isOrder_172 (fun r_172 => ?_)
          refine sm_if_eq hG 192 178 rfl dX7_isOrder_175 (by decide) ?_ ?_
          · refine sm_iconst (x := (0 : Int32)) hG 193 rfl dX7_isOrder_192 rfl ?_
            exact sm_bret hG hT ⟨Nat.zero_le _, Nat.zero_le _⟩ dX7_isOrder_193 rfl
          · refine sm_aload_n hG 179 rfl dX7_isOrder_178 rfl 1 rfl ?_
            refine sm_iconst (x := (2 : Int32)) hG 180 rfl dX7_isOrder_179 rfl ?_
            refine sm_iconst (x := (1 : Int32)) hG 181 rfl dX7_isOrder_180 rfl ?_
            refine sm_iconst (x := (3 : Int32)) hG 182 rfl dX7_isOrder_181 rfl ?_
            refine sm_callV hG (fun (q : Int32 × mM) => (some (Value.int q.1), q.2)) 0 [.int (2 : Int32), .int (1 : Int32), .int (3 : Int32)] 185 rfl (okm hM (by decide)) (me_0 hM _) (ci := 7) rfl (fun r_ hr_ => c_X7_isNumber hM   hr_) gX7_isOrder_X7_isNumber rfl (by decide) (by decide) (n := 3) rfl (Nat.le_of_ble_eq_true rfl) (by decide) ⟨Nat.zero_le _, Nat.zero_le _⟩ rfl dX7_isOrder_182 (fun r_182 => ?_)
            refine sm_if_eq hG 192 188 rfl dX7_isOrder_185 (by decide) ?_ ?_
            · refine sm_iconst (x := (0 : Int32)) hG 193 rfl dX7_isOrder_192 rfl ?_
              exact sm_bret hG hT ⟨Nat.zero_le _, Nat.zero_le _⟩ dX7_isOrder_193 rfl
            · refine sm_iconst (x := (1 : Int32)) hG 189 rfl dX7_isOrder_188 rfl ?_
              refine sm_goto hG 193 dX7_isOrder_189 (by decide) ?_
              exact sm_bret hG hT ⟨Nat.zero_le _, Nat.zero_le _⟩ dX7_isOrder_193 rfl
      · refine sm_aload_n hG 392 rfl dX7_isOrder_391 rfl 1 rfl ?_
        refine sm_dup hG 393 rfl dX7_isOrder_392 rfl ?_
        refine gM0_13 hG hM  396 rfl u7 f212 dX7_isOrder_393 ?_
        refine sm_iconst (x := (1 : Int32)) hG 397 rfl dX7_isOrder_396 rfl ?_
        refine sm_isub hG 398 rfl dX7_isOrder_397 ?_
        refine pM0_13 hG hM  401 rfl u7 f212 dX7_isOrder_398 ?_
        refine sm_nmv (fun w398_4 => ?_)
        refine sm_iconst (x := (0 : Int32)) hG 402 rfl dX7_isOrder_401 rfl ?_
        exact sm_bret hG hT ⟨Nat.zero_le _, Nat.zero_le _⟩ dX7_isOrder_402 rfl
      · refine sm_aload_n hG 392 rfl dX7_isOrder_391 rfl 1 rfl ?_
        refine sm_dup hG 393 rfl dX7_isOrder_392 rfl ?_
        refine gM0_13 hG hM  396 rfl u7 f212 dX7_isOrder_393 ?_
        refine sm_iconst (x := (1 : Int32)) hG 397 rfl dX7_isOrder_396 rfl ?_
        refine sm_isub hG 398 rfl dX7_isOrder_397 ?_
        refine pM0_13 hG hM  401 rfl u7 f212 dX7_isOrder_398 ?_
        refine sm_nmv (fun w398_5 => ?_)
        refine sm_iconst (x := (0 : Int32)) hG 402 rfl dX7_isOrder_401 rfl ?_
        exact sm_bret hG hT ⟨Nat.zero_le _, Nat.zero_le _⟩ dX7_isOrder_402 rfl
      · refine sm_aload_n hG 392 rfl dX7_isOrder_391 rfl 1 rfl ?_
        refine sm_dup hG 393 rfl dX7_isOrder_392 rfl ?_
        refine gM0_13 hG hM  396 rfl u7 f212 dX7_isOrder_393 ?_
        refine sm_iconst (x := (1 : Int32)) hG 397 rfl dX7_isOrder_396 rfl ?_
        refine sm_isub hG 398 rfl dX7_isOrder_397 ?_
        refine pM0_13 hG hM  401 rfl u7 f212 dX7_isOrder_398 ?_
        refine sm_nmv (fun w398_6 => ?_)
        refine sm_iconst (x := (0 : Int32)) hG 402 rfl dX7_isOrder_401 rfl ?_
        exact sm_bret hG hT ⟨Nat.zero_le _, Nat.zero_le _⟩ dX7_isOrder_402 rfl
      · refine sm_aload_n hG 153 rfl dX7_isOrder_152 rfl 1 rfl ?_
        refine sm_callV hG (fun (q : Int32 × mM) => (some (Value.int q.1), q.2)) 0 [] 156 rfl (okm hM (by decide)) (me_0 hM _) (ci := 7) rfl (fun r_ hr_ => c_X7_isSingerTold hM   hr_) gX7_isOrder_X7_isSingerTold rfl (by decide) (by decide) (n := 0) rfl (Nat.le_of_ble_eq_true rfl) (by decide) ⟨Nat.zero_le _, Nat.zero_le _⟩ rfl dX7_isOrder_153 (fun r_153 => ?_)
        exact sm_bret hG hT ⟨Nat.zero_le _, Nat.zero_le _⟩ dX7_isOrder_156 rfl
      · refine sm_aload_n hG 392 rfl dX7_isOrder_391 rfl 1 rfl ?_
        refine sm_dup hG 393 rfl dX7_isOrder_392 rfl ?_
        refine gM0_13 hG hM  396 rfl u7 f212 dX7_isOrder_393 ?_
        refine sm_iconst (x := (1 : Int32)) hG 397 rfl dX7_isOrder_396 rfl ?_
        refine sm_isub hG 398 rfl dX7_isOrder_397 ?_
        refine pM0_13 hG hM  401 rfl u7 f212 dX7_isOrder_398 ?_
        refine sm_nmv (fun w398_7 => ?_)
        refine sm_iconst (x := (0 : Int32)) hG 402 rfl dX7_isOrder_401 rfl ?_
        exact sm_bret hG hT ⟨Nat.zero_le _, Nat.zero_le _⟩ dX7_isOrder_402 rfl
      · refine sm_aload_n hG 195 rfl dX7_isOrder_194 rfl 1 rfl ?_
        refine sm_iconst (x := (3 : Int32)) hG 196 rfl dX7_isOrder_195 rfl ?_
        refine sm_iconst (x := (0 : Int32)) hG 197 rfl dX7_isOrder_196 rfl ?_
        refine sm_bipush (x := (19 : Int32)) hG 199 rfl dX7_isOrder_197 rfl ?_
        refine sm_callV hG (fun (q : Int32 × mM) => (some (Value.int q.1), q.2)) 0 [.int (3 : Int32), .int (0 : Int32), .int (19 : Int32)] 202 rfl (okm hM (by decide)) (me_0 hM _) (ci := 7) rfl (fun r_ hr_ => c_X7_isNumber hM   hr_) gX7_isOrder_X7_isNumber rfl (by decide) (by decide) (n := 3) rfl (Nat.le_of_ble_eq_true rfl) (by decide) ⟨Nat.zero_le _, Nat.zero_le _⟩ rfl dX7_isOrder_199 (fun r_199 => ?_)
        refine sm_if_eq hG 256 205 rfl dX7_isOrder_202 (by decide) ?_ ?_
        · refine sm_iconst (x := (0 : Int32)) hG 257 rfl dX7_isOrder_256 rfl ?_
          exact sm_bret hG hT ⟨Nat.zero_le _, Nat.zero_le _⟩ dX7_isOrder_257 rfl
        · refine sm_aload_n hG 206 rfl dX7_isOrder_205 rfl 1 rfl ?_
          refine sm_bipush (x := (46 : Int32)) hG 208 rfl dX7_isOrder_206 rfl ?_
          refine sm_callV hG (fun (q : Int32 × mM) => (some (Value.int q.1), q.2)) 0 [.int (46 : Int32)] 211 rfl (okm hM (by decide)) (me_0 hM _) (ci := 7) rfl (fun r_ hr_ => c_X7_takes hM   hr_) gX7_isOrder_X7_takes rfl (by decide) (by decide) (n := 1) rfl (Nat.le_of_ble_eq_true rfl) (by decide) ⟨Nat.zero_le _, Nat.zero_le _⟩ rfl dX7_isOrder_208 (fun r_208 => ?_)
          refine sm_if_eq hG 256 214 rfl dX7_isOrder_211 (by decide) ?_ ?_
          · refine sm_iconst (x := (0 : Int32)) hG 257 rfl dX7_isOrder_256 rfl ?_
            exact sm_bret hG hT ⟨Nat.zero_le _, Nat.zero_le _⟩ dX7_isOrder_257 rfl
          · refine sm_aload_n hG 215 rfl dX7_isOrder_214 rfl 1 rfl ?_
            refine sm_iconst (x := (4 : Int32)) hG 216 rfl dX7_isOrder_215 rfl ?_
            refine sm_iconst (x := (0 : Int32)) hG 217 rfl dX7_isOrder_216 rfl ?_
            refine sm_iconst (x := (3 : Int32)) hG 218 rfl dX7_isOrder_217 rfl ?_
            refine sm_callV hG (fun (q : Int32 × mM) => (some (Value.int q.1), q.2)) 0 [.int (4 : Int32), .int (0 : Int32), .int (3 : Int32)] 221 rfl (okm hM (by decide)) (me_0 hM _) (ci := 7) rfl (fun r_ hr_ => c_X7_isNumber hM   hr_) gX7_isOrder_X7_isNumber rfl (by decide) (by decide) (n := 3) rfl (Nat.le_of_ble_eq_true rfl) (by decide) ⟨Nat.zero_le _, Nat.zero_le _⟩ rfl dX7_isOrder_218 (fun r_218 => ?_)
            refine sm_if_eq hG 256 224 rfl dX7_isOrder_221 (by decide) ?_ ?_
            · refine sm_iconst (x := (0 : Int32)) hG 257 rfl dX7_isOrder_256 rfl ?_
              exact sm_bret hG hT ⟨Nat.zero_le _, Nat.zero_le _⟩ dX7_isOrder_257 rfl
            · refine sm_aload_n hG 225 rfl dX7_isOrder_224 rfl 1 rfl ?_
              refine sm_bipush (x := (61 : Int32)) hG 227 rfl dX7_isOrder_225 rfl ?_
              refine sm_callV hG (fun (q : Int32 × mM) => (some (Value.int q.1), q.2)) 0 [.int (61 : Int32)] 230 rfl (okm hM (by decide)) (me_0 hM _) (ci := 7) rfl (fun r_ hr_ => c_X7_takes hM   hr_) gX7_isOrder_X7_takes rfl (by decide) (by decide) (n := 1) rfl (Nat.le_of_ble_eq_true rfl) (by decide) ⟨Nat.zero_le _, Nat.zero_le _⟩ rfl dX7_isOrder_227 (fun r_227 => ?_)
              refine sm_if_eq hG 256 233 rfl dX7_isOrder_230 (by decide) ?_ ?_
              · refine sm_iconst (x := (0 : Int32)) hG 257 rfl dX7_isOrder_256 rfl ?_
                exact sm_bret hG hT ⟨Nat.zero_le _, Nat.zero_le _⟩ dX7_isOrder_257 rfl
              · refine sm_aload_n hG 234 rfl dX7_isOrder_233 rfl 1 rfl ?_
                refine sm_iconst (x := (5 : Int32)) hG 235 rfl dX7_isOrder_234 rfl ?_
                refine sm_iconst (x := (0 : Int32)) hG 236 rfl dX7_isOrder_235 rfl ?_
                refine sm_bipush (x := (6 : Int32)) hG 238 rfl dX7_isOrder_236 rfl ?_
                refine sm_callV hG (fun (q : Int32 × mM) => (some (Value.int q.1), q.2)) 0 [.int (5 : Int32), .int (0 : Int32), .int (6 : Int32)] 241 rfl (okm hM (by decide)) (me_0 hM _) (ci := 7) rfl (fun r_ hr_ => c_X7_isNumber hM   hr_) gX7_isOrder_X7_isNumber rfl (by decide) (by decide) (n := 3) rfl (Nat.le_of_ble_eq_true rfl) (by decide) ⟨Nat.zero_le _, Nat.zero_le _⟩ rfl dX7_isOrder_238 (fun r_238 => ?_)
                refine sm_if_eq hG 256 244 rfl dX7_isOrder_241 (by decide) ?_ ?_
                · refine sm_iconst (x := (0 : Int32)) hG 257 rfl dX7_isOrder_256 rfl ?_
                  exact sm_bret hG hT ⟨Nat.zero_le _, Nat.zero_le _⟩ dX7_isOrder_257 rfl
                · refine sm_aload_n hG 245 rfl dX7_isOrder_244 rfl 1 rfl ?_
                  refine sm_iconst (x := (1 : Int32)) hG 246 rfl dX7_isOrder_245 rfl ?_
                  refine sm_callV hG (fun (q : Int32 × mM) => (some (Value.int q.1), q.2)) 0 [.int (1 : Int32)] 249 rfl (okm hM (by decide)) (me_0 hM _) (ci := 7) rfl (fun r_ hr_ => c_X7_areTold hM   hr_) gX7_isOrder_X7_areTold rfl (by decide) (by decide) (n := 1) rfl (Nat.le_of_ble_eq_true rfl) (by decide) ⟨Nat.zero_le _, Nat.zero_le _⟩ rfl dX7_isOrder_246 (fun r_246 => ?_)
                  refine sm_if_eq hG 256 252 rfl dX7_isOrder_249 (by decide) ?_ ?_
                  · refine sm_iconst (x := (0 : Int32)) hG 257 rfl dX7_isOrder_256 rfl ?_
                    exact sm_bret hG hT ⟨Nat.zero_le _, Nat.zero_le _⟩ dX7_isOrder_257 rfl
                  · refine sm_iconst (x := (1 : Int32)) hG 253 rfl dX7_isOrder_252 rfl ?_
                    refine sm_goto hG 257 dX7_isOrder_253 (by decide) ?_
                    exact sm_bret hG hT ⟨Nat.zero_le _, Nat.zero_le _⟩ dX7_isOrder_257 rfl
      · refine sm_aload_n hG 392 rfl dX7_isOrder_391 rfl 1 rfl ?_
        refine sm_dup hG 393 rfl dX7_isOrder_392 rfl ?_
        refine gM0_13 hG hM  396 rfl u7 f212 dX7_isOrder_393 ?_
        refine sm_iconst (x := (1 : Int32)) hG 397 rfl dX7_isOrder_396 rfl ?_
        refine sm_isub hG 398 rfl dX7_isOrder_397 ?_
        refine pM0_13 hG hM  401 rfl u7 f212 dX7_isOrder_398 ?_
        refine sm_nmv (fun w398_8 => ?_)
        refine sm_iconst (x := (0 : Int32)) hG 402 rfl dX7_isOrder_401 rfl ?_
        exact sm_bret hG hT ⟨Nat.zero_le _, Nat.zero_le _⟩ dX7_isOrder_402 rfl
      · refine sm_aload_n hG 259 rfl dX7_isOrder_258 rfl 1 rfl ?_
        refine sm_iconst (x := (1 : Int32)) hG 260 rfl dX7_isOrder_259 rfl ?_
        refine sm_iconst (x := (0 : Int32)) hG 261 rfl dX7_isOrder_260 rfl ?_
        refine sm_bipush (x := (29 : Int32)) hG 263 rfl dX7_isOrder_261 rfl ?_
        refine sm_callV hG (fun (q : Int32 × mM) => (some (Value.int q.1), q.2)) 0 [.int (1 : Int32), .int (0 : Int32), .int (29 : Int32)] 266 rfl (okm hM (by decide)) (me_0 hM _) (ci := 7) rfl (fun r_ hr_ => c_X7_isNumber hM   hr_) gX7_isOrder_X7_isNumber rfl (by decide) (by decide) (n := 3) rfl (Nat.le_of_ble_eq_true rfl) (by decide) ⟨Nat.zero_le _, Nat.zero_le _⟩ rfl dX7_isOrder_263 (fun r_263 => ?_)
        refine sm_if_eq hG 315 269 rfl dX7_isOrder_266 (by decide) ?_ ?_
        · refine sm_iconst (x := (0 : Int32)) hG 316 rfl dX7_isOrder_315 rfl ?_
          exact sm_bret hG hT ⟨Nat.zero_le _, Nat.zero_le _⟩ dX7_isOrder_316 rfl
        · refine sm_aload_n hG 270 rfl dX7_isOrder_269 rfl 1 rfl ?_
          refine sm_bipush (x := (58 : Int32)) hG 272 rfl dX7_isOrder_270 rfl ?_
          refine sm_callV hG (fun (q : Int32 × mM) => (some (Value.int q.1), q.2)) 0 [.int (58 : Int32)] 275 rfl (okm hM (by decide)) (me_0 hM _) (ci := 7) rfl (fun r_ hr_ => c_X7_takes hM   hr_) gX7_isOrder_X7_takes rfl (by decide) (by decide) (n := 1) rfl (Nat.le_of_ble_eq_true rfl) (by decide) ⟨Nat.zero_le _, Nat.zero_le _⟩ rfl dX7_isOrder_272 (fun r_272 => ?_)
          refine sm_if_eq hG 315 278 rfl dX7_isOrder_275 (by decide) ?_ ?_
          · refine sm_iconst (x := (0 : Int32)) hG 316 rfl dX7_isOrder_315 rfl ?_
            exact sm_bret hG hT ⟨Nat.zero_le _, Nat.zero_le _⟩ dX7_isOrder_316 rfl
          · refine sm_aload_n hG 279 rfl dX7_isOrder_278 rfl 1 rfl ?_
            refine sm_iconst (x := (2 : Int32)) hG 280 rfl dX7_isOrder_279 rfl ?_
            refine sm_iconst (x := (1 : Int32)) hG 281 rfl dX7_isOrder_280 rfl ?_
            refine sm_sipush (x := (9999 : Int32)) hG 284 rfl dX7_isOrder_281 rfl ?_
            refine sm_callV hG (fun (q : Int32 × mM) => (some (Value.int q.1), q.2)) 0 [.int (2 : Int32), .int (1 : Int32), .int (9999 : Int32)] 287 rfl (okm hM (by decide)) (me_0 hM _) (ci := 7) rfl (fun r_ hr_ => c_X7_isNumber hM   hr_) gX7_isOrder_X7_isNumber rfl (by decide) (by decide) (n := 3) rfl (Nat.le_of_ble_eq_true rfl) (by decide) ⟨Nat.zero_le _, Nat.zero_le _⟩ rfl dX7_isOrder_284 (fun r_284 => ?_)
            refine sm_if_eq hG 315 290 rfl dX7_isOrder_287 (by decide) ?_ ?_
            · refine sm_iconst (x := (0 : Int32)) hG 316 rfl dX7_isOrder_315 rfl ?_
              exact sm_bret hG hT ⟨Nat.zero_le _, Nat.zero_le _⟩ dX7_isOrder_316 rfl
            · refine sm_aload_n hG 291 rfl dX7_isOrder_290 rfl 1 rfl ?_
              refine sm_bipush (x := (45 : Int32)) hG 293 rfl dX7_isOrder_291 rfl ?_
              refine sm_callV hG (fun (q : Int32 × mM) => (some (Value.int q.1), q.2)) 0 [.int (45 : Int32)] 296 rfl (okm hM (by decide)) (me_0 hM _) (ci := 7) rfl (fun r_ hr_ => c_X7_takes hM   hr_) gX7_isOrder_X7_takes rfl (by decide) (by decide) (n := 1) rfl (Nat.le_of_ble_eq_true rfl) (by decide) ⟨Nat.zero_le _, Nat.zero_le _⟩ rfl dX7_isOrder_293 (fun r_293 => ?_)
              refine sm_if_eq hG 315 299 rfl dX7_isOrder_296 (by decide) ?_ ?_
              · refine sm_iconst (x := (0 : Int32)) hG 316 rfl dX7_isOrder_315 rfl ?_
                exact sm_bret hG hT ⟨Nat.zero_le _, Nat.zero_le _⟩ dX7_isOrder_316 rfl
              · refine sm_aload_n hG 300 rfl dX7_isOrder_299 rfl 1 rfl ?_
                refine sm_iconst (x := (3 : Int32)) hG 301 rfl dX7_isOrder_300 rfl ?_
                refine sm_iconst (x := (1 : Int32)) hG 302 rfl dX7_isOrder_301 rfl ?_
                refine sm_sipush (x := (9999 : Int32)) hG 305 rfl dX7_isOrder_302 rfl ?_
                refine sm_callV hG (fun (q : Int32 × mM) => (some (Value.int q.1), q.2)) 0 [.int (3 : Int32), .int (1 : Int32), .int (9999 : Int32)] 308 rfl (okm hM (by decide)) (me_0 hM _) (ci := 7) rfl (fun r_ hr_ => c_X7_isNumber hM   hr_) gX7_isOrder_X7_isNumber rfl (by decide) (by decide) (n := 3) rfl (Nat.le_of_ble_eq_true rfl) (by decide) ⟨Nat.zero_le _, Nat.zero_le _⟩ rfl dX7_isOrder_305 (fun r_305 => ?_)
                refine sm_if_eq hG 315 311 rfl dX7_isOrder_308 (by decide) ?_ ?_
                · refine sm_iconst (x := (0 : Int32)) hG 316 rfl dX7_isOrder_315 rfl ?_
                  exact sm_bret hG hT ⟨Nat.zero_le _, Nat.zero_le _⟩ dX7_isOrder_316 rfl
                · refine sm_iconst (x := (1 : Int32)) hG 312 rfl dX7_isOrder_311 rfl ?_
                  refine sm_goto hG 316 dX7_isOrder_312 (by decide) ?_
                  exact sm_bret hG hT ⟨Nat.zero_le _, Nat.zero_le _⟩ dX7_isOrder_316 rfl
      · refine sm_aload_n hG 318 rfl dX7_isOrder_317 rfl 1 rfl ?_
        refine sm_iconst (x := (1 : Int32)) hG 319 rfl dX7_isOrder_318 rfl ?_
        refine sm_iconst (x := (0 : Int32)) hG 320 rfl dX7_isOrder_319 rfl ?_
        refine sm_bipush (x := (29 : Int32)) hG 322 rfl dX7_isOrder_320 rfl ?_
        refine sm_callV hG (fun (q : Int32 × mM) => (some (Value.int q.1), q.2)) 0 [.int (1 : Int32), .int (0 : Int32), .int (29 : Int32)] 325 rfl (okm hM (by decide)) (me_0 hM _) (ci := 7) rfl (fun r_ hr_ => c_X7_isNumber hM   hr_) gX7_isOrder_X7_isNumber rfl (by decide) (by decide) (n := 3) rfl (Nat.le_of_ble_eq_true rfl) (by decide) ⟨Nat.zero_le _, Nat.zero_le _⟩ rfl dX7_isOrder_322 (fun r_322 => ?_)
        refine sm_if_eq hG 371 328 rfl dX7_isOrder_325 (by decide) ?_ ?_
        · refine sm_iconst (x := (0 : Int32)) hG 372 rfl dX7_isOrder_371 rfl ?_
          exact sm_bret hG hT ⟨Nat.zero_le _, Nat.zero_le _⟩ dX7_isOrder_372 rfl
        · refine sm_aload_n hG 329 rfl dX7_isOrder_328 rfl 1 rfl ?_
          refine sm_bipush (x := (62 : Int32)) hG 331 rfl dX7_isOrder_329 rfl ?_
          refine sm_callV hG (fun (q : Int32 × mM) => (some (Value.int q.1), q.2)) 0 [.int (62 : Int32)] 334 rfl (okm hM (by decide)) (me_0 hM _) (ci := 7) rfl (fun r_ hr_ => c_X7_takes hM   hr_) gX7_isOrder_X7_takes rfl (by decide) (by decide) (n := 1) rfl (Nat.le_of_ble_eq_true rfl) (by decide) ⟨Nat.zero_le _, Nat.zero_le _⟩ rfl dX7_isOrder_331 (fun r_331 => ?_)
          refine sm_if_eq hG 371 337 rfl dX7_isOrder_334 (by decide) ?_ ?_
          · refine sm_iconst (x := (0 : Int32)) hG 372 rfl dX7_isOrder_371 rfl ?_
            exact sm_bret hG hT ⟨Nat.zero_le _, Nat.zero_le _⟩ dX7_isOrder_372 rfl
          · refine sm_aload_n hG 338 rfl dX7_isOrder_337 rfl 1 rfl ?_
            refine sm_iconst (x := (2 : Int32)) hG 339 rfl dX7_isOrder_338 rfl ?_
            refine sm_iconst (x := (0 : Int32)) hG 340 rfl dX7_isOrder_339 rfl ?_
            refine sm_iconst (x := (4 : Int32)) hG 341 rfl dX7_isOrder_340 rfl ?_
            refine sm_callV hG (fun (q : Int32 × mM) => (some (Value.int q.1), q.2)) 0 [.int (2 : Int32), .int (0 : Int32), .int (4 : Int32)] 344 rfl (okm hM (by decide)) (me_0 hM _) (ci := 7) rfl (fun r_ hr_ => c_X7_isNumber hM   hr_) gX7_isOrder_X7_isNumber rfl (by decide) (by decide) (n := 3) rfl (Nat.le_of_ble_eq_true rfl) (by decide) ⟨Nat.zero_le _, Nat.zero_le _⟩ rfl dX7_isOrder_341 (fun r_341 => ?_)
            refine sm_if_eq hG 371 347 rfl dX7_isOrder_344 (by decide) ?_ ?_
            · refine sm_iconst (x := (0 : Int32)) hG 372 rfl dX7_isOrder_371 rfl ?_
              exact sm_bret hG hT ⟨Nat.zero_le _, Nat.zero_le _⟩ dX7_isOrder_372 rfl
            · refine sm_aload_n hG 348 rfl dX7_isOrder_347 rfl 1 rfl ?_
              refine sm_bipush (x := (43 : Int32)) hG 350 rfl dX7_isOrder_348 rfl ?_
              refine sm_callV hG (fun (q : Int32 × mM) => (some (Value.int q.1), q.2)) 0 [.int (43 : Int32)] 353 rfl (okm hM (by decide)) (me_0 hM _) (ci := 7) rfl (fun r_ hr_ => c_X7_takes hM   hr_) gX7_isOrder_X7_takes rfl (by decide) (by decide) (n := 1) rfl (Nat.le_of_ble_eq_true rfl) (by decide) ⟨Nat.zero_le _, Nat.zero_le _⟩ rfl dX7_isOrder_350 (fun r_350 => ?_)
              refine sm_if_eq hG 371 356 rfl dX7_isOrder_353 (by decide) ?_ ?_
              · refine sm_iconst (x := (0 : Int32)) hG 372 rfl dX7_isOrder_371 rfl ?_
                exact sm_bret hG hT ⟨Nat.zero_le _, Nat.zero_le _⟩ dX7_isOrder_372 rfl
              · refine sm_aload_n hG 357 rfl dX7_isOrder_356 rfl 1 rfl ?_
                refine sm_iconst (x := (3 : Int32)) hG 358 rfl dX7_isOrder_357 rfl ?_
                refine sm_iconst (x := (1 : Int32)) hG 359 rfl dX7_isOrder_358 rfl ?_
                refine sm_bipush (x := (90 : Int32)) hG 361 rfl dX7_isOrder_359 rfl ?_
                refine sm_callV hG (fun (q : Int32 × mM) => (some (Value.int q.1), q.2)) 0 [.int (3 : Int32), .int (1 : Int32), .int (90 : Int32)] 364 rfl (okm hM (by decide)) (me_0 hM _) (ci := 7) rfl (fun r_ hr_ => c_X7_isNumber hM   hr_) gX7_isOrder_X7_isNumber rfl (by decide) (by decide) (n := 3) rfl (Nat.le_of_ble_eq_true rfl) (by decide) ⟨Nat.zero_le _, Nat.zero_le _⟩ rfl dX7_isOrder_361 (fun r_361 => ?_)
                refine sm_if_eq hG 371 367 rfl dX7_isOrder_364 (by decide) ?_ ?_
                · refine sm_iconst (x := (0 : Int32)) hG 372 rfl dX7_isOrder_371 rfl ?_
                  exact sm_bret hG hT ⟨Nat.zero_le _, Nat.zero_le _⟩ dX7_isOrder_372 rfl
                · refine sm_iconst (x := (1 : Int32)) hG 368 rfl dX7_isOrder_367 rfl ?_
                  refine sm_goto hG 372 dX7_isOrder_368 (by decide) ?_
                  exact sm_bret hG hT ⟨Nat.zero_le _, Nat.zero_le _⟩ dX7_isOrder_372 rfl
      · refine sm_aload_n hG 392 rfl dX7_isOrder_391 rfl 1 rfl ?_
        refine sm_dup hG 393 rfl dX7_isOrder_392 rfl ?_
        refine gM0_13 hG hM  396 rfl u7 f212 dX7_isOrder_393 ?_
        refine sm_iconst (x := (1 : Int32)) hG 397 rfl dX7_isOrder_396 rfl ?_
        refine sm_isub hG 398 rfl dX7_isOrder_397 ?_
        refine pM0_13 hG hM  401 rfl u7 f212 dX7_isOrder_398 ?_
        refine sm_nmv (fun w398_9 => ?_)
        refine sm_iconst (x := (0 : Int32)) hG 402 rfl dX7_isOrder_401 rfl ?_
        exact sm_bret hG hT ⟨Nat.zero_le _, Nat.zero_le _⟩ dX7_isOrder_402 rfl
      · refine sm_aload_n hG 392 rfl dX7_isOrder_391 rfl 1 rfl ?_
        refine sm_dup hG 393 rfl dX7_isOrder_392 rfl ?_
        refine gM0_13 hG hM  396 rfl u7 f212 dX7_isOrder_393 ?_
        refine sm_iconst (x := (1 : Int32)) hG 397 rfl dX7_isOrder_396 rfl ?_
        refine sm_isub hG 398 rfl dX7_isOrder_397 ?_
        refine pM0_13 hG hM  401 rfl u7 f212 dX7_isOrder_398 ?_
        refine sm_nmv (fun w398_10 => ?_)
        refine sm_iconst (x := (0 : Int32)) hG 402 rfl dX7_isOrder_401 rfl ?_
        exact sm_bret hG hT ⟨Nat.zero_le _, Nat.zero_le _⟩ dX7_isOrder_402 rfl
      · refine sm_aload_n hG 392 rfl dX7_isOrder_391 rfl 1 rfl ?_
        refine sm_dup hG 393 rfl dX7_isOrder_392 rfl ?_
        refine gM0_13 hG hM  396 rfl u7 f212 dX7_isOrder_393 ?_
        refine sm_iconst (x := (1 : Int32)) hG 397 rfl dX7_isOrder_396 rfl ?_
        refine sm_isub hG 398 rfl dX7_isOrder_397 ?_
        refine pM0_13 hG hM  401 rfl u7 f212 dX7_isOrder_398 ?_
        refine sm_nmv (fun w398_11 => ?_)
        refine sm_iconst (x := (0 : Int32)) hG 402 rfl dX7_isOrder_401 rfl ?_
        exact sm_bret hG hT ⟨Nat.zero_le _, Nat.zero_le _⟩ dX7_isOrder_402 rfl
      · refine sm_aload_n hG 392 rfl dX7_isOrder_391 rfl 1 rfl ?_
        refine sm_dup hG 393 rfl dX7_isOrder_392 rfl ?_
        refine gM0_13 hG hM  396 rfl u7 f212 dX7_isOrder_393 ?_
        refine sm_iconst (x := (1 : Int32)) hG 397 rfl dX7_isOrder_396 rfl ?_
        refine sm_isub hG 398 rfl dX7_isOrder_397 ?_
        refine pM0_13 hG hM  401 rfl u7 f212 dX7_isOrder_398 ?_
        refine sm_nmv (fun w398_12 => ?_)
        refine sm_iconst (x := (0 : Int32)) hG 402 rfl dX7_isOrder_401 rfl ?_
        exact sm_bret hG hT ⟨Nat.zero_le _, Nat.zero_le _⟩ dX7_isOrder_402 rfl
      · refine sm_aload_n hG 383 rfl dX7_isOrder_382 rfl 1 rfl ?_
        refine sm_iconst (x := (1 : Int32)) hG 384 rfl dX7_isOrder_383 rfl ?_
        refine sm_iconst (x := (1 : Int32)) hG 385 rfl dX7_isOrder_384 rfl ?_
        refine sm_bipush (x := (99 : Int32)) hG 387 rfl dX7_isOrder_385 rfl ?_
        refine sm_callV hG (fun (q : Int32 × mM) => (some (Value.int q.1), q.2)) 0 [.int (1 : Int32), .int (1 : Int32), .int (99 : Int32)] 390 rfl (okm hM (by decide)) (me_0 hM _) (ci := 7) rfl (fun r_ hr_ => c_X7_isNumber hM   hr_) gX7_isOrder_X7_isNumber rfl (by decide) (by decide) (n := 3) rfl (Nat.le_of_ble_eq_true rfl) (by decide) ⟨Nat.zero_le _, Nat.zero_le _⟩ rfl dX7_isOrder_387 (fun r_387 => ?_)
        exact sm_bret hG hT ⟨Nat.zero_le _, Nat.zero_le _⟩ dX7_isOrder_390 rfl
      · refine sm_aload_n hG 392 rfl dX7_isOrder_391 rfl 1 rfl ?_
        refine sm_dup hG 393 rfl dX7_isOrder_392 rfl ?_
        refine gM0_13 hG hM  396 rfl u7 f212 dX7_isOrder_393 ?_
        refine sm_iconst (x := (1 : Int32)) hG 397 rfl dX7_isOrder_396 rfl ?_
        refine sm_isub hG 398 rfl dX7_isOrder_397 ?_
        refine pM0_13 hG hM  401 rfl u7 f212 dX7_isOrder_398 ?_
        refine sm_nmv (fun w398_13 => ?_)
        refine sm_iconst (x := (0 : Int32)) hG 402 rfl dX7_isOrder_401 rfl ?_
        exact sm_bret hG hT ⟨Nat.zero_le _, Nat.zero_le _⟩ dX7_isOrder_402 rfl
      · refine sm_aload_n hG 392 rfl dX7_isOrder_391 rfl 1 rfl ?_
        refine sm_dup hG 393 rfl dX7_isOrder_392 rfl ?_
        refine gM0_13 hG hM  396 rfl u7 f212 dX7_isOrder_393 ?_
        refine sm_iconst (x := (1 : Int32)) hG 397 rfl dX7_isOrder_396 rfl ?_
        refine sm_isub hG 398 rfl dX7_isOrder_397 ?_
        refine pM0_13 hG hM  401 rfl u7 f212 dX7_isOrder_398 ?_
        refine sm_nmv (fun w398_14 => ?_)
        refine sm_iconst (x := (0 : Int32)) hG 402 rfl dX7_isOrder_401 rfl ?_
        exact sm_bret hG hT ⟨Nat.zero_le _, Nat.zero_le _⟩ dX7_isOrder_402 rfl
      · refine sm_aload_n hG 392 rfl dX7_isOrder_391 rfl 1 rfl ?_
        refine sm_dup hG 393 rfl dX7_isOrder_392 rfl ?_
        refine gM0_13 hG hM  396 rfl u7 f212 dX7_isOrder_393 ?_
        refine sm_iconst (x := (1 : Int32)) hG 397 rfl dX7_isOrder_396 rfl ?_
        refine sm_isub hG 398 rfl dX7_isOrder_397 ?_
        refine pM0_13 hG hM  401 rfl u7 f212 dX7_isOrder_398 ?_
        refine sm_nmv (fun w398_15 => ?_)
        refine sm_iconst (x := (0 : Int32)) hG 402 rfl dX7_isOrder_401 rfl ?_
        exact sm_bret hG hT ⟨Nat.zero_le _, Nat.zero_le _⟩ dX7_isOrder_402 rfl
      · refine sm_aload_n hG 374 rfl dX7_isOrder_373 rfl 1 rfl ?_
        refine sm_iconst (x := (1 : Int32)) hG 375 rfl dX7_isOrder_374 rfl ?_
        refine sm_iconst (x := (0 : Int32)) hG 376 rfl dX7_isOrder_375 rfl ?_
        refine sm_bipush (x := (29 : Int32)) hG 378 rfl dX7_isOrder_376 rfl ?_
        refine sm_callV hG (fun (q : Int32 × mM) => (some (Value.int q.1), q.2)) 0 [.int (1 : Int32), .int (0 : Int32), .int (29 : Int32)] 381 rfl (okm hM (by decide)) (me_0 hM _) (ci := 7) rfl (fun r_ hr_ => c_X7_isNumber hM   hr_) gX7_isOrder_X7_isNumber rfl (by decide) (by decide) (n := 3) rfl (Nat.le_of_ble_eq_true rfl) (by decide) ⟨Nat.zero_le _, Nat.zero_le _⟩ rfl dX7_isOrder_378 (fun r_378 => ?_)
        exact sm_bret hG hT ⟨Nat.zero_le _, Nat.zero_le _⟩ dX7_isOrder_381 rfl
    · refine sm_aload_n hG 392 rfl dX7_isOrder_391 rfl 1 rfl ?_
      refine sm_dup hG 393 rfl dX7_isOrder_392 rfl ?_
      refine gM0_13 hG hM  396 rfl u7 f212 dX7_isOrder_393 ?_
      refine sm_iconst (x := (1 : Int32)) hG 397 rfl dX7_isOrder_396 rfl ?_
      refine sm_isub hG 398 rfl dX7_isOrder_397 ?_
      refine pM0_13 hG hM  401 rfl u7 f212 dX7_isOrder_398 ?_
      refine sm_nmv (fun w398_16 => ?_)
      refine sm_iconst (x := (0 : Int32)) hG 402 rfl dX7_isOrder_401 rfl ?_
      exact sm_bret hG hT ⟨Nat.zero_le _, Nat.zero_le _⟩ dX7_isOrder_402 rfl
  · refine sm_iconst (x := (0 : Int32)) hG 12 rfl dX7_isOrder_11 rfl ?_
    exact sm_bret hG hT ⟨Nat.zero_le _, Nat.zero_le _⟩ dX7_isOrder_12 rfl
abbrev rmX7_isValid : Room := { frames := 5, cells := 0, slots := 0, locals := 116 }
set_option maxRecDepth 100000 in
set_option maxHeartbeats 4000000 in
theorem c_X7_isValid {Λ : jL Nat} (hM : LM Λ)   {l : Launch} {v : mM} {r : (Int32 × mM)} (hr_ : f_X7_isValid v = some r) : Ct l yX7_isValid wsX7_isValid rmX7_isValid Λ [.ref (Λ.2.2.2.1 0)] v (some (.int r.1)) r.2 := by
  refine ct_of (cc := cX7_isValid) (maxL := 2) (ret := (some .boolean)) (fun (q : Int32 × mM) => (some (Value.int q.1), q.2)) hM.1 hr_ (by decide) rfl (Nat.le_of_ble_eq_true rfl) (fun Γ hG hT hN hl => ?_)
  subst hl
  have f209 : Cond.fieldLink RX7 209 "ChoirRegisterModel" "length" "I" ∈ wsX7_isValid := by decide +kernel
  have f212 : Cond.fieldLink RX7 212 "ChoirRegisterModel" "spot" "I" ∈ wsX7_isValid := by decide +kernel
  have f218 : Cond.fieldLink RX7 218 "ChoirRegisterModel" "toldMany" "I" ∈ wsX7_isValid := by decide +kernel
  have u7 : ∀ w ∈ wsX70, w ∈ wsX7_isValid := by decide +kernel
  show Sm Γ Λ (0, 0) 0 [(0, .ref (Λ.2.2.2.1 0))] [] v _
  unfold f_X7_isValid
  refine sm_aload_n hG 1 rfl dX7_isValid_0 rfl 0 rfl ?_
  refine sm_iconst (x := (0 : Int32)) hG 2 rfl dX7_isValid_1 rfl ?_
  refine pM0_13 hG hM  5 rfl u7 f212 dX7_isValid_2 ?_
  refine sm_nmv (fun w2_1 => ?_)
  refine sm_aload_n hG 6 rfl dX7_isValid_5 rfl 0 rfl ?_
  refine sm_iconst (x := (0 : Int32)) hG 7 rfl dX7_isValid_6 rfl ?_
  refine pM0_15 hG hM  10 rfl u7 f218 dX7_isValid_7 ?_
  refine sm_nmv (fun w7_2 => ?_)
  refine sm_iconst (x := (1 : Int32)) hG 11 rfl dX7_isValid_10 rfl ?_
  refine sm_istore_n hG 12 rfl dX7_isValid_11 rfl (jlt hN rfl) [(1, .int (1 : Int32)), (0, .ref (Λ.2.2.2.1 0))] rfl ?_
  refine sm_loc [1, 0] [(0, .ref (Λ.2.2.2.1 0)), (1, .int (1 : Int32))] rfl ?_
  refine lp_ind (fun (X12 : Int32 → mM → Option (Int32 × mM)) => ∀ (x1_12 : Int32) (v_12 : mM), Sm Γ Λ (0, 0) 12 [(0, .ref (Λ.2.2.2.1 0)), (1, .int x1_12)] [] v_12 (X12 x1_12 v_12)) (fun _ _ => sm_none) (fun self12 hs12 x1_12 v_12 => ?_) 8192 _ _
  refine sm_iload_n hG 13 rfl dX7_isValid_12 rfl 1 rfl ?_
  refine sm_if_eq hG 45 16 rfl dX7_isValid_13 (by decide) ?_ ?_
  · refine sm_aload_n hG 46 rfl dX7_isValid_45 rfl 0 rfl ?_
    refine gM0_13 hG hM  49 rfl u7 f212 dX7_isValid_46 ?_
    refine sm_aload_n hG 50 rfl dX7_isValid_49 rfl 0 rfl ?_
    refine gM0_11 hG hM  53 rfl u7 f209 dX7_isValid_50 ?_
    refine sm_icmp_ne hG 60 56 rfl dX7_isValid_53 (by decide) ?_ ?_
    · refine sm_iconst (x := (0 : Int32)) hG 61 rfl dX7_isValid_60 rfl ?_
      exact sm_bret hG hT ⟨Nat.zero_le _, Nat.zero_le _⟩ dX7_isValid_61 rfl
    · refine sm_iconst (x := (1 : Int32)) hG 57 rfl dX7_isValid_56 rfl ?_
      refine sm_goto hG 61 dX7_isValid_57 (by decide) ?_
      exact sm_bret hG hT ⟨Nat.zero_le _, Nat.zero_le _⟩ dX7_isValid_61 rfl
  · refine sm_aload_n hG 17 rfl dX7_isValid_16 rfl 0 rfl ?_
    refine sm_callV hG (fun (q : Int32 × mM) => (some (Value.int q.1), q.2)) 0 [] 20 rfl (okm hM (by decide)) (me_0 hM _) (ci := 7) rfl (fun r_ hr_ => c_X7_isOrder hM   hr_) gX7_isValid_X7_isOrder rfl (by decide) (by decide) (n := 0) rfl (Nat.le_of_ble_eq_true rfl) (by decide) ⟨Nat.zero_le _, Nat.zero_le _⟩ rfl dX7_isValid_17 (fun r_17 => ?_)
    refine sm_if_ne hG 25 23 rfl dX7_isValid_20 (by decide) ?_ ?_
    · refine sm_aload_n hG 26 rfl dX7_isValid_25 rfl 0 rfl ?_
      refine sm_dup hG 27 rfl dX7_isValid_26 rfl ?_
      refine gM0_15 hG hM  30 rfl u7 f218 dX7_isValid_27 ?_
      refine sm_iconst (x := (1 : Int32)) hG 31 rfl dX7_isValid_30 rfl ?_
      refine sm_iadd hG 32 rfl dX7_isValid_31 ?_
      refine pM0_15 hG hM  35 rfl u7 f218 dX7_isValid_32 ?_
      refine sm_nmv (fun w32_3 => ?_)
      refine sm_aload_n hG 36 rfl dX7_isValid_35 rfl 0 rfl ?_
      refine sm_bipush (x := (59 : Int32)) hG 38 rfl dX7_isValid_36 rfl ?_
      refine sm_callV hG (fun (q : Int32 × mM) => (some (Value.int q.1), q.2)) 0 [.int (59 : Int32)] 41 rfl (okm hM (by decide)) (me_0 hM _) (ci := 7) rfl (fun r_ hr_ => c_X7_takes hM   hr_) gX7_isValid_X7_takes rfl (by decide) (by decide) (n := 1) rfl (Nat.le_of_ble_eq_true rfl) (by decide) ⟨Nat.zero_le _, Nat.zero_le _⟩ rfl dX7_isValid_38 (fun r_38 => ?_)
      refine sm_istore_n hG 42 rfl dX7_isValid_41 rfl (jlt hN rfl) [(1, .int r_38.1), (0, .ref (Λ.2.2.2.1 0))] rfl ?_
      refine sm_goto hG 12 dX7_isValid_42 (by decide) ?_
      refine sm_loc [1, 0] [(0, .ref (Λ.2.2.2.1 0)), (1, .int r_38.1)] rfl ?_
      exact hs12 _ _
    · refine sm_iconst (x := (0 : Int32)) hG 24 rfl dX7_isValid_23 rfl ?_
      exact sm_bret hG hT ⟨Nat.zero_le _, Nat.zero_le _⟩ dX7_isValid_24 rfl
abbrev rmX7_letterError : Room := { frames := 6, cells := 0, slots := 0, locals := 137 }
set_option maxRecDepth 100000 in
set_option maxHeartbeats 4000000 in
theorem c_X7_letterError {Λ : jL Nat} (hM : LM Λ)   {l : Launch} {v : mM} {r : (Int32 × mM)} (hr_ : f_X7_letterError v = some r) : Ct l yX7_letterError wsX7_letterError rmX7_letterError Λ [.ref (Λ.2.2.2.1 0)] v (some (.int r.1)) r.2 := by
  refine ct_of (cc := cX7_letterError) (maxL := 1) (ret := (some .int)) (fun (q : Int32 × mM) => (some (Value.int q.1), q.2)) hM.1 hr_ (by decide) rfl (Nat.le_of_ble_eq_true rfl) (fun Γ hG hT hN hl => ?_)
  subst hl
  have f212 : Cond.fieldLink RX7 212 "ChoirRegisterModel" "spot" "I" ∈ wsX7_letterError := by decide +kernel
  have f40 : Cond.fieldLink RX7 40 "ChoirRegisterModel" "thrown" "I" ∈ wsX7_letterError := by decide +kernel
  have u7 : ∀ w ∈ wsX70, w ∈ wsX7_letterError := by decide +kernel
  show Sm Γ Λ (0, 0) 0 [(0, .ref (Λ.2.2.2.1 0))] [] v _
  unfold f_X7_letterError
  refine sm_aload_n hG 1 rfl dX7_letterError_0 rfl 0 rfl ?_
  refine sm_iconst (x := (0 : Int32)) hG 2 rfl dX7_letterError_1 rfl ?_
  refine pM0_12 hG hM  5 rfl u7 f40 dX7_letterError_2 ?_
  refine sm_nmv (fun w2_1 => ?_)
  refine sm_aload_n hG 6 rfl dX7_letterError_5 rfl 0 rfl ?_
  refine sm_callV hG (fun (q : Int32 × mM) => (some (Value.int q.1), q.2)) 0 [] 9 rfl (okm hM (by decide)) (me_0 hM _) (ci := 7) rfl (fun r_ hr_ => c_X7_isValid hM   hr_) gX7_letterError_X7_isValid rfl (by decide) (by decide) (n := 0) rfl (Nat.le_of_ble_eq_true rfl) (by decide) ⟨Nat.zero_le _, Nat.zero_le _⟩ rfl dX7_letterError_6 (fun r_6 => ?_)
  refine sm_if_eq hG 16 12 rfl dX7_letterError_9 (by decide) ?_ ?_
  · refine sm_aload_n hG 17 rfl dX7_letterError_16 rfl 0 rfl ?_
    refine gM0_13 hG hM  20 rfl u7 f212 dX7_letterError_17 ?_
    exact sm_iret hG hT ⟨Nat.zero_le _, Nat.zero_le _⟩ dX7_letterError_20 rfl
  · refine sm_iconst (x := (-1 : Int32)) hG 13 rfl dX7_letterError_12 rfl ?_
    refine sm_goto hG 20 dX7_letterError_13 (by decide) ?_
    exact sm_iret hG hT ⟨Nat.zero_le _, Nat.zero_le _⟩ dX7_letterError_20 rfl
abbrev rmX7_told : Room := { frames := 0, cells := 0, slots := 0, locals := 0 }
set_option maxRecDepth 100000 in
set_option maxHeartbeats 4000000 in
theorem c_X7_told {Λ : jL Nat} (hM : LM Λ) {x1 : Int32} {x2 : Int32}  {l : Launch} {v : mM} {r : Int32} (hr_ : f_X7_told x1 x2 v = some r) : Ct l yX7_told wsX7_told rmX7_told Λ [.ref (Λ.2.2.2.1 0), .int x1, .int x2] v (some (.int r)) v := by
  refine ct_of (cc := cX7_told) (maxL := 3) (ret := (some .int)) (fun (q : Int32) => (some (Value.int q), v)) hM.1 hr_ (by decide) rfl (Nat.le_of_ble_eq_true rfl) (fun Γ hG hT hN hl => ?_)
  subst hl
  have f37 : Cond.fieldLink RX7 37 "ChoirRegisterModel" "told" "[I" ∈ wsX7_told := by decide +kernel
  have u7 : ∀ w ∈ wsX70, w ∈ wsX7_told := by decide +kernel
  show Sm Γ Λ (0, 0) 0 [(0, .ref (Λ.2.2.2.1 0)), (1, .int x1), (2, .int x2)] [] v _
  unfold f_X7_told
  refine sm_aload_n hG 1 rfl dX7_told_0 rfl 0 rfl ?_
  refine gM0_14 hG hM  4 rfl u7 f37 dX7_told_1 ?_
  refine sm_bipush (x := (6 : Int32)) hG 6 rfl dX7_told_4 rfl ?_
  refine sm_iload_n hG 7 rfl dX7_told_6 rfl 1 rfl ?_
  refine sm_imul hG 8 rfl dX7_told_7 ?_
  refine sm_iload_n hG 9 rfl dX7_told_8 rfl 2 rfl ?_
  refine sm_iadd hG 10 rfl dX7_told_9 ?_
  refine lA hG (ia_10 hM) 11 rfl dX7_told_10 ?_
  exact sm_iret hG hT ⟨Nat.zero_le _, Nat.zero_le _⟩ dX7_told_11 rfl
abbrev rmX7_joins : Room := { frames := 3, cells := 0, slots := 0, locals := 76 }
set_option maxRecDepth 100000 in
set_option maxHeartbeats 4000000 in
theorem c_X7_joins {Λ : jL Nat} (hM : LM Λ) {x1 : Int32}  {l : Launch} {v : mM} {r : (Int32 × mM)} (hr_ : f_X7_joins x1 v = some r) : Ct l yX7_joins wsX7_joins rmX7_joins Λ [.ref (Λ.2.2.2.1 0), .int x1] v (some (.int r.1)) r.2 := by
  refine ct_of (cc := cX7_joins) (maxL := 3) (ret := (some .boolean)) (fun (q : Int32 × mM) => (some (Value.int q.1), q.2)) hM.1 hr_ (by decide) rfl (Nat.le_of_ble_eq_true rfl) (fun Γ hG hT hN hl => ?_)
  subst hl
  have f7 : Cond.fieldLink RX7 7 "ChoirRegisterModel" "now" "[I" ∈ wsX7_joins := by decide +kernel
  have u7 : ∀ w ∈ wsX70, w ∈ wsX7_joins := by decide +kernel
  show Sm Γ Λ (0, 0) 0 [(0, .ref (Λ.2.2.2.1 0)), (1, .int x1)] [] v _
  unfold f_X7_joins
  refine sm_jn (fun (X34 : Int32 → Option (Int32 × mM)) => ∀ (s0_34 : Int32), Sm Γ Λ (0, 0) 34 [(0, .ref (Λ.2.2.2.1 0)), (1, .int x1)] [.int s0_34] v (X34 s0_34)) (fun s0_34 => ?_) (fun j34 hj34 => ?_)
  · refine sm_istore_n hG 35 rfl dX7_joins_34 rfl (jlt hN rfl) [(2, .int s0_34), (0, .ref (Λ.2.2.2.1 0)), (1, .int x1)] rfl ?_
    refine sm_iload_n hG 36 rfl dX7_joins_35 rfl 0 rfl ?_
    refine sm_if_eq hG 80 39 rfl dX7_joins_36 (by decide) ?_ ?_
    · refine sm_iconst (x := (0 : Int32)) hG 81 rfl dX7_joins_80 rfl ?_
      exact sm_bret hG hT ⟨Nat.zero_le _, Nat.zero_le _⟩ dX7_joins_81 rfl
    · refine sm_aload_n hG 40 rfl dX7_joins_39 rfl 1 rfl ?_
      refine sm_aload_n hG 41 rfl dX7_joins_40 rfl 1 rfl ?_
      refine sm_iload_n hG 42 rfl dX7_joins_41 rfl 2 rfl ?_
      refine sm_iconst (x := (3 : Int32)) hG 43 rfl dX7_joins_42 rfl ?_
      refine sm_callV hG (fun (q : Int32) => (some (Value.int q), v)) 0 [.int x1, .int (3 : Int32)] 46 rfl (okm hM (by decide)) (me_0 hM _) (ci := 7) rfl (fun r_ hr_ => c_X7_told hM   hr_) gX7_joins_X7_told rfl (by decide) (by decide) (n := 2) rfl (Nat.le_of_ble_eq_true rfl) (by decide) ⟨Nat.zero_le _, Nat.zero_le _⟩ rfl dX7_joins_43 (fun r_43 => ?_)
      refine sm_aload_n hG 47 rfl dX7_joins_46 rfl 1 rfl ?_
      refine sm_iload_n hG 48 rfl dX7_joins_47 rfl 2 rfl ?_
      refine sm_iconst (x := (4 : Int32)) hG 49 rfl dX7_joins_48 rfl ?_
      refine sm_callV hG (fun (q : Int32) => (some (Value.int q), v)) 0 [.int x1, .int (4 : Int32)] 52 rfl (okm hM (by decide)) (me_0 hM _) (ci := 7) rfl (fun r_ hr_ => c_X7_told hM   hr_) gX7_joins_X7_told rfl (by decide) (by decide) (n := 2) rfl (Nat.le_of_ble_eq_true rfl) (by decide) ⟨Nat.zero_le _, Nat.zero_le _⟩ rfl dX7_joins_49 (fun r_49 => ?_)
      refine sm_aload_n hG 53 rfl dX7_joins_52 rfl 1 rfl ?_
      refine sm_iload_n hG 54 rfl dX7_joins_53 rfl 2 rfl ?_
      refine sm_iconst (x := (1 : Int32)) hG 55 rfl dX7_joins_54 rfl ?_
      refine sm_callV hG (fun (q : Int32) => (some (Value.int q), v)) 0 [.int x1, .int (1 : Int32)] 58 rfl (okm hM (by decide)) (me_0 hM _) (ci := 7) rfl (fun r_ hr_ => c_X7_told hM   hr_) gX7_joins_X7_told rfl (by decide) (by decide) (n := 2) rfl (Nat.le_of_ble_eq_true rfl) (by decide) ⟨Nat.zero_le _, Nat.zero_le _⟩ rfl dX7_joins_55 (fun r_55 => ?_)
      refine sm_aload_n hG 59 rfl dX7_joins_58 rfl 1 rfl ?_
      refine sm_iload_n hG 60 rfl dX7_joins_59 rfl 2 rfl ?_
      refine sm_iconst (x := (2 : Int32)) hG 61 rfl dX7_joins_60 rfl ?_
      refine sm_callV hG (fun (q : Int32) => (some (Value.int q), v)) 0 [.int x1, .int (2 : Int32)] 64 rfl (okm hM (by decide)) (me_0 hM _) (ci := 7) rfl (fun r_ hr_ => c_X7_told hM   hr_) gX7_joins_X7_told rfl (by decide) (by decide) (n := 2) rfl (Nat.le_of_ble_eq_true rfl) (by decide) ⟨Nat.zero_le _, Nat.zero_le _⟩ rfl dX7_joins_61 (fun r_61 => ?_)
      refine sm_aload_n hG 65 rfl dX7_joins_64 rfl 1 rfl ?_
      refine sm_iload_n hG 66 rfl dX7_joins_65 rfl 2 rfl ?_
      refine sm_iconst (x := (5 : Int32)) hG 67 rfl dX7_joins_66 rfl ?_
      refine sm_callV hG (fun (q : Int32) => (some (Value.int q), v)) 0 [.int x1, .int (5 : Int32)] 70 rfl (okm hM (by decide)) (me_0 hM _) (ci := 7) rfl (fun r_ hr_ => c_X7_told hM   hr_) gX7_joins_X7_told rfl (by decide) (by decide) (n := 2) rfl (Nat.le_of_ble_eq_true rfl) (by decide) ⟨Nat.zero_le _, Nat.zero_le _⟩ rfl dX7_joins_67 (fun r_67 => ?_)
      refine sm_callV hG (fun (q : Int32 × mM) => (some (Value.int q.1), q.2)) 0 [.int r_43, .int r_49, .int r_55, .int r_61, .int r_67] 73 rfl (okm hM (by decide)) (me_0 hM _) (ci := 7) rfl (fun r_ hr_ => c_X7_registers hM   hr_) gX7_joins_X7_registers rfl (by decide) (by decide) (n := 5) rfl (Nat.le_of_ble_eq_true rfl) (by decide) ⟨Nat.zero_le _, Nat.zero_le _⟩ rfl dX7_joins_70 (fun r_70 => ?_)
      refine sm_if_lt hG 80 76 rfl dX7_joins_73 (by decide) ?_ ?_
      · refine sm_iconst (x := (0 : Int32)) hG 81 rfl dX7_joins_80 rfl ?_
        exact sm_bret hG hT ⟨Nat.zero_le _, Nat.zero_le _⟩ dX7_joins_81 rfl
      · refine sm_iconst (x := (1 : Int32)) hG 77 rfl dX7_joins_76 rfl ?_
        refine sm_goto hG 81 dX7_joins_77 (by decide) ?_
        exact sm_bret hG hT ⟨Nat.zero_le _, Nat.zero_le _⟩ dX7_joins_81 rfl
  · refine sm_jn (fun (X33 : Unit → Option (Int32 × mM)) => ∀ (u_ : Unit), Sm Γ Λ (0, 0) 33 [(0, .ref (Λ.2.2.2.1 0)), (1, .int x1)] [] v (X33 u_)) (fun u_ => ?_) (fun j33 hj33 => ?_)
    · refine sm_iconst (x := (0 : Int32)) hG 34 rfl dX7_joins_33 rfl ?_
      exact hj34 _
    · refine sm_aload_n hG 1 rfl dX7_joins_0 rfl 0 rfl ?_
      refine sm_iload_n hG 2 rfl dX7_joins_1 rfl 1 rfl ?_
      refine sm_iconst (x := (1 : Int32)) hG 3 rfl dX7_joins_2 rfl ?_
      refine sm_callV hG (fun (q : Int32) => (some (Value.int q), v)) 0 [.int x1, .int (1 : Int32)] 6 rfl (okm hM (by decide)) (me_0 hM _) (ci := 7) rfl (fun r_ hr_ => c_X7_told hM   hr_) gX7_joins_X7_told rfl (by decide) (by decide) (n := 2) rfl (Nat.le_of_ble_eq_true rfl) (by decide) ⟨Nat.zero_le _, Nat.zero_le _⟩ rfl dX7_joins_3 (fun r_3 => ?_)
      refine sm_aload_n hG 7 rfl dX7_joins_6 rfl 0 rfl ?_
      refine sm_iload_n hG 8 rfl dX7_joins_7 rfl 1 rfl ?_
      refine sm_iconst (x := (2 : Int32)) hG 9 rfl dX7_joins_8 rfl ?_
      refine sm_callV hG (fun (q : Int32) => (some (Value.int q), v)) 0 [.int x1, .int (2 : Int32)] 12 rfl (okm hM (by decide)) (me_0 hM _) (ci := 7) rfl (fun r_ hr_ => c_X7_told hM   hr_) gX7_joins_X7_told rfl (by decide) (by decide) (n := 2) rfl (Nat.le_of_ble_eq_true rfl) (by decide) ⟨Nat.zero_le _, Nat.zero_le _⟩ rfl dX7_joins_9 (fun r_9 => ?_)
      refine sm_callS hG (fun (q : Int32) => (some (Value.int q), v)) [.int r_3, .int r_9] 15 rfl (fun r_ hr_ => c_X7_areNotes hM   hr_) gX7_joins_X7_areNotes rfl (by decide) (by decide) (n := 2) rfl (Nat.le_of_ble_eq_true rfl) (by decide) ⟨Nat.zero_le _, Nat.zero_le _⟩ rfl dX7_joins_12 (fun r_12 => ?_)
      refine sm_if_eq hG 33 18 rfl dX7_joins_15 (by decide) ?_ ?_
      · exact hj33 ()
      · refine sm_aload_n hG 19 rfl dX7_joins_18 rfl 0 rfl ?_
        refine gM0_0 hG hM  22 rfl u7 f7 dX7_joins_19 ?_
        refine sm_iconst (x := (1 : Int32)) hG 23 rfl dX7_joins_22 rfl ?_
        refine lA hG (ia_1 hM) 24 rfl dX7_joins_23 ?_
        refine sm_bipush (x := (30 : Int32)) hG 26 rfl dX7_joins_24 rfl ?_
        refine sm_icmp_ge hG 33 29 rfl dX7_joins_26 (by decide) ?_ ?_
        · exact hj33 ()
        · refine sm_iconst (x := (1 : Int32)) hG 30 rfl dX7_joins_29 rfl ?_
          refine sm_goto hG 34 dX7_joins_30 (by decide) ?_
          exact hj34 _
abbrev rmX7_lines : Room := { frames := 3, cells := 0, slots := 0, locals := 69 }
set_option maxRecDepth 100000 in
set_option maxHeartbeats 4000000 in
theorem c_X7_lines {Λ : jL Nat} (hM : LM Λ) {x1 : Int32}  {l : Launch} {v : mM} {r : (Int32 × mM)} (hr_ : f_X7_lines x1 v = some r) : Ct l yX7_lines wsX7_lines rmX7_lines Λ [.ref (Λ.2.2.2.1 0), .int x1] v (some (.int r.1)) r.2 := by
  refine ct_of (cc := cX7_lines) (maxL := 4) (ret := (some .boolean)) (fun (q : Int32 × mM) => (some (Value.int q.1), q.2)) hM.1 hr_ (by decide) rfl (Nat.le_of_ble_eq_true rfl) (fun Γ hG hT hN hl => ?_)
  subst hl
  show Sm Γ Λ (0, 0) 0 [(0, .ref (Λ.2.2.2.1 0)), (1, .int x1)] [] v _
  unfold f_X7_lines
  refine sm_jn (fun (X46 : Int32 → Int32 → Option (Int32 × mM)) => ∀ (x2_46 : Int32) (s0_46 : Int32), Sm Γ Λ (0, 0) 46 [(0, .ref (Λ.2.2.2.1 0)), (1, .int x1), (2, .int x2_46)] [.int s0_46] v (X46 x2_46 s0_46)) (fun x2_46 s0_46 => ?_) (fun j46 hj46 => ?_)
  · refine sm_istore_n hG 47 rfl dX7_lines_46 rfl (jlt hN rfl) [(3, .int s0_46), (0, .ref (Λ.2.2.2.1 0)), (1, .int x1), (2, .int x2_46)] rfl ?_
    refine sm_iload_n hG 48 rfl dX7_lines_47 rfl 0 rfl ?_
    refine sm_if_eq hG 87 51 rfl dX7_lines_48 (by decide) ?_ ?_
    · refine sm_iconst (x := (0 : Int32)) hG 88 rfl dX7_lines_87 rfl ?_
      exact sm_bret hG hT ⟨Nat.zero_le _, Nat.zero_le _⟩ dX7_lines_88 rfl
    · refine sm_aload_n hG 52 rfl dX7_lines_51 rfl 1 rfl ?_
      refine sm_iload_n hG 53 rfl dX7_lines_52 rfl 3 rfl ?_
      refine sm_aload_n hG 54 rfl dX7_lines_53 rfl 1 rfl ?_
      refine sm_iload_n hG 55 rfl dX7_lines_54 rfl 2 rfl ?_
      refine sm_iconst (x := (4 : Int32)) hG 56 rfl dX7_lines_55 rfl ?_
      refine sm_callV hG (fun (q : Int32) => (some (Value.int q), v)) 0 [.int x1, .int (4 : Int32)] 59 rfl (okm hM (by decide)) (me_0 hM _) (ci := 7) rfl (fun r_ hr_ => c_X7_told hM   hr_) gX7_lines_X7_told rfl (by decide) (by decide) (n := 2) rfl (Nat.le_of_ble_eq_true rfl) (by decide) ⟨Nat.zero_le _, Nat.zero_le _⟩ rfl dX7_lines_56 (fun r_56 => ?_)
      refine sm_aload_n hG 60 rfl dX7_lines_59 rfl 1 rfl ?_
      refine sm_iload_n hG 61 rfl dX7_lines_60 rfl 2 rfl ?_
      refine sm_iconst (x := (5 : Int32)) hG 62 rfl dX7_lines_61 rfl ?_
      refine sm_callV hG (fun (q : Int32) => (some (Value.int q), v)) 0 [.int x1, .int (5 : Int32)] 65 rfl (okm hM (by decide)) (me_0 hM _) (ci := 7) rfl (fun r_ hr_ => c_X7_told hM   hr_) gX7_lines_X7_told rfl (by decide) (by decide) (n := 2) rfl (Nat.le_of_ble_eq_true rfl) (by decide) ⟨Nat.zero_le _, Nat.zero_le _⟩ rfl dX7_lines_62 (fun r_62 => ?_)
      refine sm_aload_n hG 66 rfl dX7_lines_65 rfl 1 rfl ?_
      refine sm_iload_n hG 67 rfl dX7_lines_66 rfl 2 rfl ?_
      refine sm_iconst (x := (1 : Int32)) hG 68 rfl dX7_lines_67 rfl ?_
      refine sm_callV hG (fun (q : Int32) => (some (Value.int q), v)) 0 [.int x1, .int (1 : Int32)] 71 rfl (okm hM (by decide)) (me_0 hM _) (ci := 7) rfl (fun r_ hr_ => c_X7_told hM   hr_) gX7_lines_X7_told rfl (by decide) (by decide) (n := 2) rfl (Nat.le_of_ble_eq_true rfl) (by decide) ⟨Nat.zero_le _, Nat.zero_le _⟩ rfl dX7_lines_68 (fun r_68 => ?_)
      refine sm_aload_n hG 72 rfl dX7_lines_71 rfl 1 rfl ?_
      refine sm_iload_n hG 73 rfl dX7_lines_72 rfl 2 rfl ?_
      refine sm_iconst (x := (2 : Int32)) hG 74 rfl dX7_lines_73 rfl ?_
      refine sm_callV hG (fun (q : Int32) => (some (Value.int q), v)) 0 [.int x1, .int (2 : Int32)] 77 rfl (okm hM (by decide)) (me_0 hM _) (ci := 7) rfl (fun r_ hr_ => c_X7_told hM   hr_) gX7_lines_X7_told rfl (by decide) (by decide) (n := 2) rfl (Nat.le_of_ble_eq_true rfl) (by decide) ⟨Nat.zero_le _, Nat.zero_le _⟩ rfl dX7_lines_74 (fun r_74 => ?_)
      refine sm_callV hG (fun (q : Int32 × mM) => (some (Value.int q.1), q.2)) 0 [.int x2_46, .int r_56, .int r_62, .int r_68, .int r_74] 80 rfl (okm hM (by decide)) (me_0 hM _) (ci := 7) rfl (fun r_ hr_ => c_X7_sets hM   hr_) gX7_lines_X7_sets rfl (by decide) (by decide) (n := 5) rfl (Nat.le_of_ble_eq_true rfl) (by decide) ⟨Nat.zero_le _, Nat.zero_le _⟩ rfl dX7_lines_77 (fun r_77 => ?_)
      refine sm_if_lt hG 87 83 rfl dX7_lines_80 (by decide) ?_ ?_
      · refine sm_iconst (x := (0 : Int32)) hG 88 rfl dX7_lines_87 rfl ?_
        exact sm_bret hG hT ⟨Nat.zero_le _, Nat.zero_le _⟩ dX7_lines_88 rfl
      · refine sm_iconst (x := (1 : Int32)) hG 84 rfl dX7_lines_83 rfl ?_
        refine sm_goto hG 88 dX7_lines_84 (by decide) ?_
        exact sm_bret hG hT ⟨Nat.zero_le _, Nat.zero_le _⟩ dX7_lines_88 rfl
  · refine sm_jn (fun (X45 : Int32 → Option (Int32 × mM)) => ∀ (x2_45 : Int32), Sm Γ Λ (0, 0) 45 [(0, .ref (Λ.2.2.2.1 0)), (1, .int x1), (2, .int x2_45)] [] v (X45 x2_45)) (fun x2_45 => ?_) (fun j45 hj45 => ?_)
    · refine sm_iconst (x := (0 : Int32)) hG 46 rfl dX7_lines_45 rfl ?_
      exact hj46 _ _
    · refine sm_aload_n hG 1 rfl dX7_lines_0 rfl 0 rfl ?_
      refine sm_iload_n hG 2 rfl dX7_lines_1 rfl 1 rfl ?_
      refine sm_iconst (x := (3 : Int32)) hG 3 rfl dX7_lines_2 rfl ?_
      refine sm_callV hG (fun (q : Int32) => (some (Value.int q), v)) 0 [.int x1, .int (3 : Int32)] 6 rfl (okm hM (by decide)) (me_0 hM _) (ci := 7) rfl (fun r_ hr_ => c_X7_told hM   hr_) gX7_lines_X7_told rfl (by decide) (by decide) (n := 2) rfl (Nat.le_of_ble_eq_true rfl) (by decide) ⟨Nat.zero_le _, Nat.zero_le _⟩ rfl dX7_lines_3 (fun r_3 => ?_)
      refine sm_istore_n hG 7 rfl dX7_lines_6 rfl (jlt hN rfl) [(2, .int r_3), (0, .ref (Λ.2.2.2.1 0)), (1, .int x1)] rfl ?_
      refine sm_aload_n hG 8 rfl dX7_lines_7 rfl 1 rfl ?_
      refine sm_iload_n hG 9 rfl dX7_lines_8 rfl 0 rfl ?_
      refine sm_callV hG (fun (q : Int32) => (some (Value.int q), v)) 0 [.int r_3] 12 rfl (okm hM (by decide)) (me_0 hM _) (ci := 7) rfl (fun r_ hr_ => c_X7_isFeast hM   hr_) gX7_lines_X7_isFeast rfl (by decide) (by decide) (n := 1) rfl (Nat.le_of_ble_eq_true rfl) (by decide) ⟨Nat.zero_le _, Nat.zero_le _⟩ rfl dX7_lines_9 (fun r_9 => ?_)
      refine sm_if_eq hG 45 15 rfl dX7_lines_12 (by decide) ?_ ?_
      · refine sm_loc [1, 2, 0] [(0, .ref (Λ.2.2.2.1 0)), (1, .int x1), (2, .int r_3)] rfl ?_
        exact hj45 _
      · refine sm_aload_n hG 16 rfl dX7_lines_15 rfl 1 rfl ?_
        refine sm_iload_n hG 17 rfl dX7_lines_16 rfl 0 rfl ?_
        refine sm_callV hG (fun (q : Int32) => (some (Value.int q), v)) 0 [.int r_3] 20 rfl (okm hM (by decide)) (me_0 hM _) (ci := 7) rfl (fun r_ hr_ => c_X7_held hM   hr_) gX7_lines_X7_held rfl (by decide) (by decide) (n := 1) rfl (Nat.le_of_ble_eq_true rfl) (by decide) ⟨Nat.zero_le _, Nat.zero_le _⟩ rfl dX7_lines_17 (fun r_17 => ?_)
        refine sm_if_ne hG 45 23 rfl dX7_lines_20 (by decide) ?_ ?_
        · refine sm_loc [1, 2, 0] [(0, .ref (Λ.2.2.2.1 0)), (1, .int x1), (2, .int r_3)] rfl ?_
          exact hj45 _
        · refine sm_aload_n hG 24 rfl dX7_lines_23 rfl 1 rfl ?_
          refine sm_iload_n hG 25 rfl dX7_lines_24 rfl 2 rfl ?_
          refine sm_iconst (x := (1 : Int32)) hG 26 rfl dX7_lines_25 rfl ?_
          refine sm_callV hG (fun (q : Int32) => (some (Value.int q), v)) 0 [.int x1, .int (1 : Int32)] 29 rfl (okm hM (by decide)) (me_0 hM _) (ci := 7) rfl (fun r_ hr_ => c_X7_told hM   hr_) gX7_lines_X7_told rfl (by decide) (by decide) (n := 2) rfl (Nat.le_of_ble_eq_true rfl) (by decide) ⟨Nat.zero_le _, Nat.zero_le _⟩ rfl dX7_lines_26 (fun r_26 => ?_)
          refine sm_aload_n hG 30 rfl dX7_lines_29 rfl 1 rfl ?_
          refine sm_iload_n hG 31 rfl dX7_lines_30 rfl 2 rfl ?_
          refine sm_iconst (x := (2 : Int32)) hG 32 rfl dX7_lines_31 rfl ?_
          refine sm_callV hG (fun (q : Int32) => (some (Value.int q), v)) 0 [.int x1, .int (2 : Int32)] 35 rfl (okm hM (by decide)) (me_0 hM _) (ci := 7) rfl (fun r_ hr_ => c_X7_told hM   hr_) gX7_lines_X7_told rfl (by decide) (by decide) (n := 2) rfl (Nat.le_of_ble_eq_true rfl) (by decide) ⟨Nat.zero_le _, Nat.zero_le _⟩ rfl dX7_lines_32 (fun r_32 => ?_)
          refine sm_callS hG (fun (q : Int32) => (some (Value.int q), v)) [.int r_26, .int r_32] 38 rfl (fun r_ hr_ => c_X7_areNotes hM   hr_) gX7_lines_X7_areNotes rfl (by decide) (by decide) (n := 2) rfl (Nat.le_of_ble_eq_true rfl) (by decide) ⟨Nat.zero_le _, Nat.zero_le _⟩ rfl dX7_lines_35 (fun r_35 => ?_)
          refine sm_if_eq hG 45 41 rfl dX7_lines_38 (by decide) ?_ ?_
          · refine sm_loc [1, 2, 0] [(0, .ref (Λ.2.2.2.1 0)), (1, .int x1), (2, .int r_3)] rfl ?_
            exact hj45 _
          · refine sm_iconst (x := (1 : Int32)) hG 42 rfl dX7_lines_41 rfl ?_
            refine sm_goto hG 46 dX7_lines_42 (by decide) ?_
            refine sm_loc [1, 2, 0] [(0, .ref (Λ.2.2.2.1 0)), (1, .int x1), (2, .int r_3)] rfl ?_
            exact hj46 _ _
abbrev rmX7_does : Room := { frames := 10, cells := 0, slots := 0, locals := 238 }
set_option maxRecDepth 100000 in
set_option maxHeartbeats 4000000 in
theorem c_X7_does {Λ : jL Nat} (hM : LM Λ) {x1 : Int32}  {l : Launch} {v : mM} {r : (Int32 × mM)} (hr_ : f_X7_does x1 v = some r) : Ct l yX7_does wsX7_does rmX7_does Λ [.ref (Λ.2.2.2.1 0), .int x1] v (some (.int r.1)) r.2 := by
  refine ct_of (cc := cX7_does) (maxL := 5) (ret := (some .boolean)) (fun (q : Int32 × mM) => (some (Value.int q.1), q.2)) hM.1 hr_ (by decide) rfl (Nat.le_of_ble_eq_true rfl) (fun Γ hG hT hN hl => ?_)
  subst hl
  have f7 : Cond.fieldLink RX7 7 "ChoirRegisterModel" "now" "[I" ∈ wsX7_does := by decide +kernel
  have u7 : ∀ w ∈ wsX70, w ∈ wsX7_does := by decide +kernel
  show Sm Γ Λ (0, 0) 0 [(0, .ref (Λ.2.2.2.1 0)), (1, .int x1)] [] v _
  unfold f_X7_does
  refine sm_aload_n hG 1 rfl dX7_does_0 rfl 0 rfl ?_
  refine sm_iload_n hG 2 rfl dX7_does_1 rfl 1 rfl ?_
  refine sm_iconst (x := (1 : Int32)) hG 3 rfl dX7_does_2 rfl ?_
  refine sm_callV hG (fun (q : Int32) => (some (Value.int q), v)) 0 [.int x1, .int (1 : Int32)] 6 rfl (okm hM (by decide)) (me_0 hM _) (ci := 7) rfl (fun r_ hr_ => c_X7_told hM   hr_) gX7_does_X7_told rfl (by decide) (by decide) (n := 2) rfl (Nat.le_of_ble_eq_true rfl) (by decide) ⟨Nat.zero_le _, Nat.zero_le _⟩ rfl dX7_does_3 (fun r_3 => ?_)
  refine sm_istore_n hG 7 rfl dX7_does_6 rfl (jlt hN rfl) [(2, .int r_3), (0, .ref (Λ.2.2.2.1 0)), (1, .int x1)] rfl ?_
  refine sm_aload_n hG 8 rfl dX7_does_7 rfl 1 rfl ?_
  refine sm_iload_n hG 9 rfl dX7_does_8 rfl 2 rfl ?_
  refine sm_iconst (x := (2 : Int32)) hG 10 rfl dX7_does_9 rfl ?_
  refine sm_callV hG (fun (q : Int32) => (some (Value.int q), v)) 0 [.int x1, .int (2 : Int32)] 13 rfl (okm hM (by decide)) (me_0 hM _) (ci := 7) rfl (fun r_ hr_ => c_X7_told hM   hr_) gX7_does_X7_told rfl (by decide) (by decide) (n := 2) rfl (Nat.le_of_ble_eq_true rfl) (by decide) ⟨Nat.zero_le _, Nat.zero_le _⟩ rfl dX7_does_10 (fun r_10 => ?_)
  refine sm_istore_n hG 14 rfl dX7_does_13 rfl (jlt hN rfl) [(3, .int r_10), (2, .int r_3), (0, .ref (Λ.2.2.2.1 0)), (1, .int x1)] rfl ?_
  refine sm_aload_n hG 15 rfl dX7_does_14 rfl 2 rfl ?_
  refine sm_iload_n hG 16 rfl dX7_does_15 rfl 3 rfl ?_
  refine sm_iconst (x := (3 : Int32)) hG 17 rfl dX7_does_16 rfl ?_
  refine sm_callV hG (fun (q : Int32) => (some (Value.int q), v)) 0 [.int x1, .int (3 : Int32)] 20 rfl (okm hM (by decide)) (me_0 hM _) (ci := 7) rfl (fun r_ hr_ => c_X7_told hM   hr_) gX7_does_X7_told rfl (by decide) (by decide) (n := 2) rfl (Nat.le_of_ble_eq_true rfl) (by decide) ⟨Nat.zero_le _, Nat.zero_le _⟩ rfl dX7_does_17 (fun r_17 => ?_)
  refine sm_istore hG 22 rfl dX7_does_20 (jlt hN rfl) [(4, .int r_17), (3, .int r_10), (2, .int r_3), (0, .ref (Λ.2.2.2.1 0)), (1, .int x1)] rfl ?_
  refine sm_aload_n hG 23 rfl dX7_does_22 rfl 3 rfl ?_
  refine sm_iload_n hG 24 rfl dX7_does_23 rfl 4 rfl ?_
  refine sm_iconst (x := (0 : Int32)) hG 25 rfl dX7_does_24 rfl ?_
  refine sm_callV hG (fun (q : Int32) => (some (Value.int q), v)) 0 [.int x1, .int (0 : Int32)] 28 rfl (okm hM (by decide)) (me_0 hM _) (ci := 7) rfl (fun r_ hr_ => c_X7_told hM   hr_) gX7_does_X7_told rfl (by decide) (by decide) (n := 2) rfl (Nat.le_of_ble_eq_true rfl) (by decide) ⟨Nat.zero_le _, Nat.zero_le _⟩ rfl dX7_does_25 (fun r_25 => ?_)
  refine sm_tsw hG dX7_does_28 ⟨rfl, rfl⟩ ?_ (tgt := 274) rfl ?_
  · refine List.forall_mem_cons.mpr ⟨⟨126, rfl, sm_sn ?_⟩, List.forall_mem_cons.mpr ⟨⟨274, rfl, sm_sn ?_⟩, List.forall_mem_cons.mpr ⟨⟨274, rfl, sm_sn ?_⟩, List.forall_mem_cons.mpr ⟨⟨274, rfl, sm_sn ?_⟩, List.forall_mem_cons.mpr ⟨⟨120, rfl, sm_sn ?_⟩, List.forall_mem_cons.mpr ⟨⟨274, rfl, sm_sn ?_⟩, List.forall_mem_cons.mpr ⟨⟨157, rfl, sm_sn ?_⟩, List.forall_mem_cons.mpr ⟨⟨274, rfl, sm_sn ?_⟩, List.forall_mem_cons.mpr ⟨⟨163, rfl, sm_sn ?_⟩, List.forall_mem_cons.mpr ⟨⟨209, rfl, sm_sn ?_⟩, List.forall_mem_cons.mpr ⟨⟨274, rfl, sm_sn ?_⟩, List.forall_mem_cons.mpr ⟨⟨274, rfl, sm_sn ?_⟩, List.forall_mem_cons.mpr ⟨⟨274, rfl, sm_sn ?_⟩, List.forall_mem_cons.mpr ⟨⟨274, rfl, sm_sn ?_⟩, List.forall_mem_cons.mpr ⟨⟨274, rfl, sm_sn ?_⟩, List.forall_mem_cons.mpr ⟨⟨274, rfl, sm_sn ?_⟩, List.forall_mem_cons.mpr ⟨⟨274, rfl, sm_sn ?_⟩, List.forall_mem_cons.mpr ⟨⟨274, rfl, sm_sn ?_⟩, List.forall_mem_cons.mpr ⟨⟨242, rfl, sm_sn ?_⟩, fun _ h => nomatch h⟩⟩⟩⟩⟩⟩⟩⟩⟩⟩⟩⟩⟩⟩⟩⟩⟩⟩⟩
    · refine sm_aload_n hG 127 rfl dX7_does_126 rfl 3 rfl ?_
      refine sm_iload_n hG 128 rfl dX7_does_127 rfl 2 rfl ?_
      refine sm_callV hG (fun (q : Int32) => (some (Value.int q), v)) 0 [.int r_3] 131 rfl (okm hM (by decide)) (me_0 hM _) (ci := 7) rfl (fun r_ hr_ => c_X7_isFuture hM   hr_) gX7_does_X7_isFuture rfl (by decide) (by decide) (n := 1) rfl (Nat.le_of_ble_eq_true rfl) (by decide) ⟨Nat.zero_le _, Nat.zero_le _⟩ rfl dX7_does_128 (fun r_128 => ?_)
      refine sm_if_eq hG 155 134 rfl dX7_does_131 (by decide) ?_ ?_
      · refine sm_iconst (x := (0 : Int32)) hG 156 rfl dX7_does_155 rfl ?_
        exact sm_bret hG hT ⟨Nat.zero_le _, Nat.zero_le _⟩ dX7_does_156 rfl
      · refine sm_aload_n hG 135 rfl dX7_does_134 rfl 3 rfl ?_
        refine sm_iload_n hG 136 rfl dX7_does_135 rfl 2 rfl ?_
        refine sm_callV hG (fun (q : Int32) => (some (Value.int q), v)) 0 [.int r_3] 139 rfl (okm hM (by decide)) (me_0 hM _) (ci := 7) rfl (fun r_ hr_ => c_X7_canAnnounce hM   hr_) gX7_does_X7_canAnnounce rfl (by decide) (by decide) (n := 1) rfl (Nat.le_of_ble_eq_true rfl) (by decide) ⟨Nat.zero_le _, Nat.zero_le _⟩ rfl dX7_does_136 (fun r_136 => ?_)
        refine sm_if_eq hG 155 142 rfl dX7_does_139 (by decide) ?_ ?_
        · refine sm_iconst (x := (0 : Int32)) hG 156 rfl dX7_does_155 rfl ?_
          exact sm_bret hG hT ⟨Nat.zero_le _, Nat.zero_le _⟩ dX7_does_156 rfl
        · refine sm_aload_n hG 143 rfl dX7_does_142 rfl 3 rfl ?_
          refine sm_iload_n hG 144 rfl dX7_does_143 rfl 2 rfl ?_
          refine sm_iload_n hG 145 rfl dX7_does_144 rfl 1 rfl ?_
          refine sm_callV hG (fun (q : Int32 × mM) => (some (Value.int q.1), q.2)) 0 [.int r_3, .int r_10] 148 rfl (okm hM (by decide)) (me_0 hM _) (ci := 7) rfl (fun r_ hr_ => c_X7_announces hM   hr_) gX7_does_X7_announces rfl (by decide) (by decide) (n := 2) rfl (Nat.le_of_ble_eq_true rfl) (by decide) ⟨Nat.zero_le _, Nat.zero_le _⟩ rfl dX7_does_145 (fun r_145 => ?_)
          refine sm_if_lt hG 155 151 rfl dX7_does_148 (by decide) ?_ ?_
          · refine sm_iconst (x := (0 : Int32)) hG 156 rfl dX7_does_155 rfl ?_
            exact sm_bret hG hT ⟨Nat.zero_le _, Nat.zero_le _⟩ dX7_does_156 rfl
          · refine sm_iconst (x := (1 : Int32)) hG 152 rfl dX7_does_151 rfl ?_
            refine sm_goto hG 156 dX7_does_152 (by decide) ?_
            exact sm_bret hG hT ⟨Nat.zero_le _, Nat.zero_le _⟩ dX7_does_156 rfl
    · refine sm_aload_n hG 275 rfl dX7_does_274 rfl 3 rfl ?_
      refine gM0_0 hG hM  278 rfl u7 f7 dX7_does_275 ?_
      refine sm_iconst (x := (0 : Int32)) hG 279 rfl dX7_does_278 rfl ?_
      refine lA hG (ia_1 hM) 280 rfl dX7_does_279 ?_
      refine sm_iload_n hG 281 rfl dX7_does_280 rfl 2 rfl ?_
      refine sm_iadd hG 282 rfl dX7_does_281 ?_
      refine sm_sipush (x := (9999 : Int32)) hG 285 rfl dX7_does_282 rfl ?_
      refine sm_icmp_gt hG 300 288 rfl dX7_does_285 (by decide) ?_ ?_
      · refine sm_iconst (x := (0 : Int32)) hG 301 rfl dX7_does_300 rfl ?_
        exact sm_bret hG hT ⟨Nat.zero_le _, Nat.zero_le _⟩ dX7_does_301 rfl
      · refine sm_aload_n hG 289 rfl dX7_does_288 rfl 3 rfl ?_
        refine sm_iload_n hG 290 rfl dX7_does_289 rfl 2 rfl ?_
        refine sm_callV hG (fun (q : Int32 × mM) => (some (Value.int q.1), q.2)) 0 [.int r_3] 293 rfl (okm hM (by decide)) (me_0 hM _) (ci := 7) rfl (fun r_ hr_ => c_X7_passesMany hM   hr_) gX7_does_X7_passesMany rfl (by decide) (by decide) (n := 1) rfl (Nat.le_of_ble_eq_true rfl) (by decide) ⟨Nat.zero_le _, Nat.zero_le _⟩ rfl dX7_does_290 (fun r_290 => ?_)
        refine sm_if_lt hG 300 296 rfl dX7_does_293 (by decide) ?_ ?_
        · refine sm_iconst (x := (0 : Int32)) hG 301 rfl dX7_does_300 rfl ?_
          exact sm_bret hG hT ⟨Nat.zero_le _, Nat.zero_le _⟩ dX7_does_301 rfl
        · refine sm_iconst (x := (1 : Int32)) hG 297 rfl dX7_does_296 rfl ?_
          refine sm_goto hG 301 dX7_does_297 (by decide) ?_
          exact sm_bret hG hT ⟨Nat.zero_le _, Nat.zero_le _⟩ dX7_does_301 rfl
    · refine sm_aload_n hG 275 rfl dX7_does_274 rfl 3 rfl ?_
      refine gM0_0 hG hM  278 rfl u7 f7 dX7_does_275 ?_
      refine sm_iconst (x := (0 : Int32)) hG 279 rfl dX7_does_278 rfl ?_
      refine lA hG (ia_1 hM) 280 rfl dX7_does_279 ?_
      refine sm_iload_n hG 281 rfl dX7_does_280 rfl 2 rfl ?_
      refine sm_iadd hG 282 rfl dX7_does_281 ?_
      refine sm_sipush (x := (9999 : Int32)) hG 285 rfl dX7_does_282 rfl ?_
      refine sm_icmp_gt hG 300 288 rfl dX7_does_285 (by decide) ?_ ?_
      · refine sm_iconst (x := (0 : Int32)) hG 301 rfl dX7_does_300 rfl ?_
        exact sm_bret hG hT ⟨Nat.zero_le _, Nat.zero_le _⟩ dX7_does_301 rfl
      · refine sm_aload_n hG 289 rfl dX7_does_288 rfl 3 rfl ?_
        refine sm_iload_n hG 290 rfl dX7_does_289 rfl 2 rfl ?_
        refine sm_callV hG (fun (q : Int32 × mM) => (some (Value.int q.1), q.2)) 0 [.int r_3] 293 rfl (okm hM (by decide)) (me_0 hM _) (ci := 7) rfl (fun r_ hr_ => c_X7_passesMany hM   hr_) gX7_does_X7_passesMany rfl (by decide) (by decide) (n := 1) rfl (Nat.le_of_ble_eq_true rfl) (by decide) ⟨Nat.zero_le _, Nat.zero_le _⟩ rfl dX7_does_290 (fun r_290_0 => ?_)
        refine sm_if_lt hG 300 296 rfl dX7_does_293 (by decide) ?_ ?_
        · refine sm_iconst (x := (0 : Int32)) hG 301 rfl dX7_does_300 rfl ?_
          exact sm_bret hG hT ⟨Nat.zero_le _, Nat.zero_le _⟩ dX7_does_301 rfl
        · refine sm_iconst (x := (1 : Int32)) hG 297 rfl dX7_does_296 rfl ?_
          refine sm_goto hG 301 dX7_does_297 (by decide) ?_
          exact sm_bret hG hT ⟨Nat.zero_le _, Nat.zero_le _⟩ dX7_does_301 rfl
    · refine sm_aload_n hG 275 rfl dX7_does_274 rfl 3 rfl ?_
      refine gM0_0 hG hM  278 rfl u7 f7 dX7_does_275 ?_
      refine sm_iconst (x := (0 : Int32)) hG 279 rfl dX7_does_278 rfl ?_
      refine lA hG (ia_1 hM) 280 rfl dX7_does_279 ?_
      refine sm_iload_n hG 281 rfl dX7_does_280 rfl 2 rfl ?_
      refine sm_iadd hG 282 rfl dX7_does_281 ?_
      refine sm_sipush (x := (9999 : Int32)) hG 285 rfl dX7_does_282 rfl ?_
      refine sm_icmp_gt hG 300 288 rfl dX7_does_285 (by decide) ?_ ?_
      · refine sm_iconst (x := (0 : Int32)) hG 301 rfl dX7_does_300 rfl ?_
        exact sm_bret hG hT ⟨Nat.zero_le _, Nat.zero_le _⟩ dX7_does_301 rfl
      · refine sm_aload_n hG 289 rfl dX7_does_288 rfl 3 rfl ?_
        refine sm_iload_n hG 290 rfl dX7_does_289 rfl 2 rfl ?_
        refine sm_callV hG (fun (q : Int32 × mM) => (some (Value.int q.1), q.2)) 0 [.int r_3] 293 rfl (okm hM (by decide)) (me_0 hM _) (ci := 7) rfl (fun r_ hr_ => c_X7_passesMany hM   hr_) gX7_does_X7_passesMany rfl (by decide) (by decide) (n := 1) rfl (Nat.le_of_ble_eq_true rfl) (by decide) ⟨Nat.zero_le _, Nat.zero_le _⟩ rfl dX7_does_290 (fun r_290_1 => ?_)
        refine sm_if_lt hG 300 296 rfl dX7_does_293 (by decide) ?_ ?_
        · refine sm_iconst (x := (0 : Int32)) hG 301 rfl dX7_does_300 rfl ?_
          exact sm_bret hG hT ⟨Nat.zero_le _, Nat.zero_le _⟩ dX7_does_301 rfl
        · refine sm_iconst (x := (1 : Int32)) hG 297 rfl dX7_does_296 rfl ?_
          refine sm_goto hG 301 dX7_does_297 (by decide) ?_
          exact sm_bret hG hT ⟨Nat.zero_le _, Nat.zero_le _⟩ dX7_does_301 rfl
    · refine sm_aload_n hG 121 rfl dX7_does_120 rfl 3 rfl ?_
      refine sm_iload_n hG 122 rfl dX7_does_121 rfl 4 rfl ?_
      refine sm_callV hG (fun (q : Int32 × mM) => (some (Value.int q.1), q.2)) 0 [.int x1] 125 rfl (okm hM (by decide)) (me_0 hM _) (ci := 7) rfl (fun r_ hr_ => c_X7_joins hM   hr_) gX7_does_X7_joins rfl (by decide) (by decide) (n := 1) rfl (Nat.le_of_ble_eq_true rfl) (by decide) ⟨Nat.zero_le _, Nat.zero_le _⟩ rfl dX7_does_122 (fun r_122 => ?_)
      exact sm_bret hG hT ⟨Nat.zero_le _, Nat.zero_le _⟩ dX7_does_125 rfl
    · refine sm_aload_n hG 275 rfl dX7_does_274 rfl 3 rfl ?_
      refine gM0_0 hG hM  278 rfl u7 f7 dX7_does_275 ?_
      refine sm_iconst (x := (0 : Int32)) hG 279 rfl dX7_does_278 rfl ?_
      refine lA hG (ia_1 hM) 280 rfl dX7_does_279 ?_
      refine sm_iload_n hG 281 rfl dX7_does_280 rfl 2 rfl ?_
      refine sm_iadd hG 282 rfl dX7_does_281 ?_
      refine sm_sipush (x := (9999 : Int32)) hG 285 rfl dX7_does_282 rfl ?_
      refine sm_icmp_gt hG 300 288 rfl dX7_does_285 (by decide) ?_ ?_
      · refine sm_iconst (x := (0 : Int32)) hG 301 rfl dX7_does_300 rfl ?_
        exact sm_bret hG hT ⟨Nat.zero_le _, Nat.zero_le _⟩ dX7_does_301 rfl
      · refine sm_aload_n hG 289 rfl dX7_does_288 rfl 3 rfl ?_
        refine sm_iload_n hG 290 rfl dX7_does_289 rfl 2 rfl ?_
        refine sm_callV hG (fun (q : Int32 × mM) => (some (Value.int q.1), q.2)) 0 [.int r_3] 293 rfl (okm hM (by decide)) (me_0 hM _) (ci := 7) rfl (fun r_ hr_ => c_X7_passesMany hM   hr_) gX7_does_X7_passesMany rfl (by decide) (by decide) (n := 1) rfl (Nat.le_of_ble_eq_true rfl) (by decide) ⟨Nat.zero_le _, Nat.zero_le _⟩ rfl dX7_does_290 (fun r_290_2 => ?_)
        refine sm_if_lt hG 300 296 rfl dX7_does_293 (by decide) ?_ ?_
        · refine sm_iconst (x := (0 : Int32)) hG 301 rfl dX7_does_300 rfl ?_
          exact sm_bret hG hT ⟨Nat.zero_le _, Nat.zero_le _⟩ dX7_does_301 rfl
        · refine sm_iconst (x := (1 : Int32)) hG 297 rfl dX7_does_296 rfl ?_
          refine sm_goto hG 301 dX7_does_297 (by decide) ?_
          exact sm_bret hG hT ⟨Nat.zero_le _, Nat.zero_le _⟩ dX7_does_301 rfl
    · refine sm_aload_n hG 158 rfl dX7_does_157 rfl 3 rfl ?_
      refine sm_iload_n hG 159 rfl dX7_does_158 rfl 4 rfl ?_
      refine sm_callV hG (fun (q : Int32 × mM) => (some (Value.int q.1), q.2)) 0 [.int x1] 162 rfl (okm hM (by decide)) (me_0 hM _) (ci := 7) rfl (fun r_ hr_ => c_X7_lines hM   hr_) gX7_does_X7_lines rfl (by decide) (by decide) (n := 1) rfl (Nat.le_of_ble_eq_true rfl) (by decide) ⟨Nat.zero_le _, Nat.zero_le _⟩ rfl dX7_does_159 (fun r_159 => ?_)
      exact sm_bret hG hT ⟨Nat.zero_le _, Nat.zero_le _⟩ dX7_does_162 rfl
    · refine sm_aload_n hG 275 rfl dX7_does_274 rfl 3 rfl ?_
      refine gM0_0 hG hM  278 rfl u7 f7 dX7_does_275 ?_
      refine sm_iconst (x := (0 : Int32)) hG 279 rfl dX7_does_278 rfl ?_
      refine lA hG (ia_1 hM) 280 rfl dX7_does_279 ?_
      refine sm_iload_n hG 281 rfl dX7_does_280 rfl 2 rfl ?_
      refine sm_iadd hG 282 rfl dX7_does_281 ?_
      refine sm_sipush (x := (9999 : Int32)) hG 285 rfl dX7_does_282 rfl ?_
      refine sm_icmp_gt hG 300 288 rfl dX7_does_285 (by decide) ?_ ?_
      · refine sm_iconst (x := (0 : Int32)) hG 301 rfl dX7_does_300 rfl ?_
        exact sm_bret hG hT ⟨Nat.zero_le _, Nat.zero_le _⟩ dX7_does_301 rfl
      · refine sm_aload_n hG 289 rfl dX7_does_288 rfl 3 rfl ?_
        refine sm_iload_n hG 290 rfl dX7_does_289 rfl 2 rfl ?_
        refine sm_callV hG (fun (q : Int32 × mM) => (some (Value.int q.1), q.2)) 0 [.int r_3] 293 rfl (okm hM (by decide)) (me_0 hM _) (ci := 7) rfl (fun r_ hr_ => c_X7_passesMany hM   hr_) gX7_does_X7_passesMany rfl (by decide) (by decide) (n := 1) rfl (Nat.le_of_ble_eq_true rfl) (by decide) ⟨Nat.zero_le _, Nat.zero_le _⟩ rfl dX7_does_290 (fun r_290_3 => ?_)
        refine sm_if_lt hG 300 296 rfl dX7_does_293 (by decide) ?_ ?_
        · refine sm_iconst (x := (0 : Int32)) hG 301 rfl dX7_does_300 rfl ?_
          exact sm_bret hG hT ⟨Nat.zero_le _, Nat.zero_le _⟩ dX7_does_301 rfl
        · refine sm_iconst (x := (1 : Int32)) hG 297 rfl dX7_does_296 rfl ?_
          refine sm_goto hG 301 dX7_does_297 (by decide) ?_
          exact sm_bret hG hT ⟨Nat.zero_le _, Nat.zero_le _⟩ dX7_does_301 rfl
    · refine sm_aload_n hG 164 rfl dX7_does_163 rfl 3 rfl ?_
      refine sm_iload_n hG 165 rfl dX7_does_164 rfl 2 rfl ?_
      refine sm_callV hG (fun (q : Int32) => (some (Value.int q), v)) 0 [.int r_3] 168 rfl (okm hM (by decide)) (me_0 hM _) (ci := 7) rfl (fun r_ hr_ => c_X7_isSinger hM   hr_) gX7_does_X7_isSinger rfl (by decide) (by decide) (n := 1) rfl (Nat.le_of_ble_eq_true rfl) (by decide) ⟨Nat.zero_le _, Nat.zero_le _⟩ rfl dX7_does_165 (fun r_165 => ?_)
      refine sm_if_eq hG 207 171 rfl dX7_does_168 (by decide) ?_ ?_
      · refine sm_iconst (x := (0 : Int32)) hG 208 rfl dX7_does_207 rfl ?_
        exact sm_bret hG hT ⟨Nat.zero_le _, Nat.zero_le _⟩ dX7_does_208 rfl
      · refine sm_aload_n hG 172 rfl dX7_does_171 rfl 3 rfl ?_
        refine sm_iload_n hG 173 rfl dX7_does_172 rfl 1 rfl ?_
        refine sm_iload hG 175 rfl dX7_does_173 0 rfl ?_
        refine sm_callV hG (fun (q : Int32) => (some (Value.int q), v)) 0 [.int r_10, .int r_17] 178 rfl (okm hM (by decide)) (me_0 hM _) (ci := 7) rfl (fun r_ hr_ => c_X7_areDays hM   hr_) gX7_does_X7_areDays rfl (by decide) (by decide) (n := 2) rfl (Nat.le_of_ble_eq_true rfl) (by decide) ⟨Nat.zero_le _, Nat.zero_le _⟩ rfl dX7_does_175 (fun r_175 => ?_)
        refine sm_if_eq hG 207 181 rfl dX7_does_178 (by decide) ?_ ?_
        · refine sm_iconst (x := (0 : Int32)) hG 208 rfl dX7_does_207 rfl ?_
          exact sm_bret hG hT ⟨Nat.zero_le _, Nat.zero_le _⟩ dX7_does_208 rfl
        · refine sm_aload_n hG 182 rfl dX7_does_181 rfl 3 rfl ?_
          refine sm_iload_n hG 183 rfl dX7_does_182 rfl 2 rfl ?_
          refine sm_iload_n hG 184 rfl dX7_does_183 rfl 1 rfl ?_
          refine sm_iload hG 186 rfl dX7_does_184 0 rfl ?_
          refine sm_callV hG (fun (q : Int32) => (some (Value.int q), v)) 0 [.int r_3, .int r_10, .int r_17] 189 rfl (okm hM (by decide)) (me_0 hM _) (ci := 7) rfl (fun r_ hr_ => c_X7_canExcuse hM   hr_) gX7_does_X7_canExcuse rfl (by decide) (by decide) (n := 3) rfl (Nat.le_of_ble_eq_true rfl) (by decide) ⟨Nat.zero_le _, Nat.zero_le _⟩ rfl dX7_does_186 (fun r_186 => ?_)
          refine sm_if_eq hG 207 192 rfl dX7_does_189 (by decide) ?_ ?_
          · refine sm_iconst (x := (0 : Int32)) hG 208 rfl dX7_does_207 rfl ?_
            exact sm_bret hG hT ⟨Nat.zero_le _, Nat.zero_le _⟩ dX7_does_208 rfl
          · refine sm_aload_n hG 193 rfl dX7_does_192 rfl 3 rfl ?_
            refine sm_iload_n hG 194 rfl dX7_does_193 rfl 2 rfl ?_
            refine sm_iload_n hG 195 rfl dX7_does_194 rfl 1 rfl ?_
            refine sm_iload hG 197 rfl dX7_does_195 0 rfl ?_
            refine sm_callV hG (fun (q : Int32 × mM) => (some (Value.int q.1), q.2)) 0 [.int r_3, .int r_10, .int r_17] 200 rfl (okm hM (by decide)) (me_0 hM _) (ci := 7) rfl (fun r_ hr_ => c_X7_excuses hM   hr_) gX7_does_X7_excuses rfl (by decide) (by decide) (n := 3) rfl (Nat.le_of_ble_eq_true rfl) (by decide) ⟨Nat.zero_le _, Nat.zero_le _⟩ rfl dX7_does_197 (fun r_197 => ?_)
            refine sm_if_le hG 207 203 rfl dX7_does_200 (by decide) ?_ ?_
            · refine sm_iconst (x := (0 : Int32)) hG 208 rfl dX7_does_207 rfl ?_
              exact sm_bret hG hT ⟨Nat.zero_le _, Nat.zero_le _⟩ dX7_does_208 rfl
            · refine sm_iconst (x := (1 : Int32)) hG 204 rfl dX7_does_203 rfl ?_
              refine sm_goto hG 208 dX7_does_204 (by decide) ?_
              exact sm_bret hG hT ⟨Nat.zero_le _, Nat.zero_le _⟩ dX7_does_208 rfl
    · refine sm_aload_n hG 210 rfl dX7_does_209 rfl 3 rfl ?_
      refine sm_iload_n hG 211 rfl dX7_does_210 rfl 2 rfl ?_
      refine sm_callV hG (fun (q : Int32) => (some (Value.int q), v)) 0 [.int r_3] 214 rfl (okm hM (by decide)) (me_0 hM _) (ci := 7) rfl (fun r_ hr_ => c_X7_isSinger hM   hr_) gX7_does_X7_isSinger rfl (by decide) (by decide) (n := 1) rfl (Nat.le_of_ble_eq_true rfl) (by decide) ⟨Nat.zero_le _, Nat.zero_le _⟩ rfl dX7_does_211 (fun r_211 => ?_)
      refine sm_if_eq hG 240 217 rfl dX7_does_214 (by decide) ?_ ?_
      · refine sm_iconst (x := (0 : Int32)) hG 241 rfl dX7_does_240 rfl ?_
        exact sm_bret hG hT ⟨Nat.zero_le _, Nat.zero_le _⟩ dX7_does_241 rfl
      · refine sm_aload_n hG 218 rfl dX7_does_217 rfl 3 rfl ?_
        refine sm_iload_n hG 219 rfl dX7_does_218 rfl 2 rfl ?_
        refine sm_callV hG (fun (q : Int32) => (some (Value.int q), v)) 0 [.int r_3] 222 rfl (okm hM (by decide)) (me_0 hM _) (ci := 7) rfl (fun r_ hr_ => c_X7_canLend hM   hr_) gX7_does_X7_canLend rfl (by decide) (by decide) (n := 1) rfl (Nat.le_of_ble_eq_true rfl) (by decide) ⟨Nat.zero_le _, Nat.zero_le _⟩ rfl dX7_does_219 (fun r_219 => ?_)
        refine sm_if_eq hG 240 225 rfl dX7_does_222 (by decide) ?_ ?_
        · refine sm_iconst (x := (0 : Int32)) hG 241 rfl dX7_does_240 rfl ?_
          exact sm_bret hG hT ⟨Nat.zero_le _, Nat.zero_le _⟩ dX7_does_241 rfl
        · refine sm_aload_n hG 226 rfl dX7_does_225 rfl 3 rfl ?_
          refine sm_iload_n hG 227 rfl dX7_does_226 rfl 2 rfl ?_
          refine sm_iload_n hG 228 rfl dX7_does_227 rfl 1 rfl ?_
          refine sm_iload hG 230 rfl dX7_does_228 0 rfl ?_
          refine sm_callV hG (fun (q : Int32 × mM) => (some (Value.int q.1), q.2)) 0 [.int r_3, .int r_10, .int r_17] 233 rfl (okm hM (by decide)) (me_0 hM _) (ci := 7) rfl (fun r_ hr_ => c_X7_lends hM   hr_) gX7_does_X7_lends rfl (by decide) (by decide) (n := 3) rfl (Nat.le_of_ble_eq_true rfl) (by decide) ⟨Nat.zero_le _, Nat.zero_le _⟩ rfl dX7_does_230 (fun r_230 => ?_)
          refine sm_if_le hG 240 236 rfl dX7_does_233 (by decide) ?_ ?_
          · refine sm_iconst (x := (0 : Int32)) hG 241 rfl dX7_does_240 rfl ?_
            exact sm_bret hG hT ⟨Nat.zero_le _, Nat.zero_le _⟩ dX7_does_241 rfl
          · refine sm_iconst (x := (1 : Int32)) hG 237 rfl dX7_does_236 rfl ?_
            refine sm_goto hG 241 dX7_does_237 (by decide) ?_
            exact sm_bret hG hT ⟨Nat.zero_le _, Nat.zero_le _⟩ dX7_does_241 rfl
    · refine sm_aload_n hG 275 rfl dX7_does_274 rfl 3 rfl ?_
      refine gM0_0 hG hM  278 rfl u7 f7 dX7_does_275 ?_
      refine sm_iconst (x := (0 : Int32)) hG 279 rfl dX7_does_278 rfl ?_
      refine lA hG (ia_1 hM) 280 rfl dX7_does_279 ?_
      refine sm_iload_n hG 281 rfl dX7_does_280 rfl 2 rfl ?_
      refine sm_iadd hG 282 rfl dX7_does_281 ?_
      refine sm_sipush (x := (9999 : Int32)) hG 285 rfl dX7_does_282 rfl ?_
      refine sm_icmp_gt hG 300 288 rfl dX7_does_285 (by decide) ?_ ?_
      · refine sm_iconst (x := (0 : Int32)) hG 301 rfl dX7_does_300 rfl ?_
        exact sm_bret hG hT ⟨Nat.zero_le _, Nat.zero_le _⟩ dX7_does_301 rfl
      · refine sm_aload_n hG 289 rfl dX7_does_288 rfl 3 rfl ?_
        refine sm_iload_n hG 290 rfl dX7_does_289 rfl 2 rfl ?_
        refine sm_callV hG (fun (q : Int32 × mM) => (some (Value.int q.1), q.2)) 0 [.int r_3] 293 rfl (okm hM (by decide)) (me_0 hM _) (ci := 7) rfl (fun r_ hr_ => c_X7_passesMany hM   hr_) gX7_does_X7_passesMany rfl (by decide) (by decide) (n := 1) rfl (Nat.le_of_ble_eq_true rfl) (by decide) ⟨Nat.zero_le _, Nat.zero_le _⟩ rfl dX7_does_290 (fun r_290_4 => ?_)
        refine sm_if_lt hG 300 296 rfl dX7_does_293 (by decide) ?_ ?_
        · refine sm_iconst (x := (0 : Int32)) hG 301 rfl dX7_does_300 rfl ?_
          exact sm_bret hG hT ⟨Nat.zero_le _, Nat.zero_le _⟩ dX7_does_301 rfl
        · refine sm_iconst (x := (1 : Int32)) hG 297 rfl dX7_does_296 rfl ?_
          refine sm_goto hG 301 dX7_does_297 (by decide) ?_
          exact sm_bret hG hT ⟨Nat.zero_le _, Nat.zero_le _⟩ dX7_does_301 rfl
    · refine sm_aload_n hG 275 rfl dX7_does_274 rfl 3 rfl ?_
      refine gM0_0 hG hM  278 rfl u7 f7 dX7_does_275 ?_
      refine sm_iconst (x := (0 : Int32)) hG 279 rfl dX7_does_278 rfl ?_
      refine lA hG (ia_1 hM) 280 rfl dX7_does_279 ?_
      refine sm_iload_n hG 281 rfl dX7_does_280 rfl 2 rfl ?_
      refine sm_iadd hG 282 rfl dX7_does_281 ?_
      refine sm_sipush (x := (9999 : Int32)) hG 285 rfl dX7_does_282 rfl ?_
      refine sm_icmp_gt hG 300 288 rfl dX7_does_285 (by decide) ?_ ?_
      · refine sm_iconst (x := (0 : Int32)) hG 301 rfl dX7_does_300 rfl ?_
        exact sm_bret hG hT ⟨Nat.zero_le _, Nat.zero_le _⟩ dX7_does_301 rfl
      · refine sm_aload_n hG 289 rfl dX7_does_288 rfl 3 rfl ?_
        refine sm_iload_n hG 290 rfl dX7_does_289 rfl 2 rfl ?_
        refine sm_callV hG (fun (q : Int32 × mM) => (some (Value.int q.1), q.2)) 0 [.int r_3] 293 rfl (okm hM (by decide)) (me_0 hM _) (ci := 7) rfl (fun r_ hr_ => c_X7_passesMany hM   hr_) gX7_does_X7_passesMany rfl (by decide) (by decide) (n := 1) rfl (Nat.le_of_ble_eq_true rfl) (by decide) ⟨Nat.zero_le _, Nat.zero_le _⟩ rfl dX7_does_290 (fun r_290_5 => ?_)
        refine sm_if_lt hG 300 296 rfl dX7_does_293 (by decide) ?_ ?_
        · refine sm_iconst (x := (0 : Int32)) hG 301 rfl dX7_does_300 rfl ?_
          exact sm_bret hG hT ⟨Nat.zero_le _, Nat.zero_le _⟩ dX7_does_301 rfl
        · refine sm_iconst (x := (1 : Int32)) hG 297 rfl dX7_does_296 rfl ?_
          refine sm_goto hG 301 dX7_does_297 (by decide) ?_
          exact sm_bret hG hT ⟨Nat.zero_le _, Nat.zero_le _⟩ dX7_does_301 rfl
    · refine sm_aload_n hG 275 rfl dX7_does_274 rfl 3 rfl ?_
      refine gM0_0 hG hM  278 rfl u7 f7 dX7_does_275 ?_
      refine sm_iconst (x := (0 : Int32)) hG 279 rfl dX7_does_278 rfl ?_
      refine lA hG (ia_1 hM) 280 rfl dX7_does_279 ?_
      refine sm_iload_n hG 281 rfl dX7_does_280 rfl 2 rfl ?_
      refine sm_iadd hG 282 rfl dX7_does_281 ?_
      refine sm_sipush (x := (9999 : Int32)) hG 285 rfl dX7_does_282 rfl ?_
      refine sm_icmp_gt hG 300 288 rfl dX7_does_285 (by decide) ?_ ?_
      · refine sm_iconst (x := (0 : Int32)) hG 301 rfl dX7_does_300 rfl ?_
        exact sm_bret hG hT ⟨Nat.zero_le _, Nat.zero_le _⟩ dX7_does_301 rfl
      · refine sm_aload_n hG 289 rfl dX7_does_288 rfl 3 rfl ?_
        refine sm_iload_n hG 290 rfl dX7_does_289 rfl 2 rfl ?_
        refine sm_callV hG (fun (q : Int32 × mM) => (some (Value.int q.1), q.2)) 0 [.int r_3] 293 rfl (okm hM (by decide)) (me_0 hM _) (ci := 7) rfl (fun r_ hr_ => c_X7_passesMany hM   hr_) gX7_does_X7_passesMany rfl (by decide) (by decide) (n := 1) rfl (Nat.le_of_ble_eq_true rfl) (by decide) ⟨Nat.zero_le _, Nat.zero_le _⟩ rfl dX7_does_290 (fun r_290_6 => ?_)
        refine sm_if_lt hG 300 296 rfl dX7_does_293 (by decide) ?_ ?_
        · refine sm_iconst (x := (0 : Int32)) hG 301 rfl dX7_does_300 rfl ?_
          exact sm_bret hG hT ⟨Nat.zero_le _, Nat.zero_le _⟩ dX7_does_301 rfl
        · refine sm_iconst (x := (1 : Int32)) hG 297 rfl dX7_does_296 rfl ?_
          refine sm_goto hG 301 dX7_does_297 (by decide) ?_
          exact sm_bret hG hT ⟨Nat.zero_le _, Nat.zero_le _⟩ dX7_does_301 rfl
    · refine sm_aload_n hG 275 rfl dX7_does_274 rfl 3 rfl ?_
      refine gM0_0 hG hM  278 rfl u7 f7 dX7_does_275 ?_
      refine sm_iconst (x := (0 : Int32)) hG 279 rfl dX7_does_278 rfl ?_
      refine lA hG (ia_1 hM) 280 rfl dX7_does_279 ?_
      refine sm_iload_n hG 281 rfl dX7_does_280 rfl 2 rfl ?_
      refine sm_iadd hG 282 rfl dX7_does_281 ?_
      refine sm_sipush (x := (9999 : Int32)) hG 285 rfl dX7_does_282 rfl ?_
      refine sm_icmp_gt hG 300 288 rfl dX7_does_285 (by decide) ?_ ?_
      · refine sm_iconst (x := (0 : Int32)) hG 301 rfl dX7_does_300 rfl ?_
        exact sm_bret hG hT ⟨Nat.zero_le _, Nat.zero_le _⟩ dX7_does_301 rfl
      · refine sm_aload_n hG 289 rfl dX7_does_288 rfl 3 rfl ?_
        refine sm_iload_n hG 290 rfl dX7_does_289 rfl 2 rfl ?_
        refine sm_callV hG (fun (q : Int32 × mM) => (some (Value.int q.1), q.2)) 0 [.int r_3] 293 rfl (okm hM (by decide)) (me_0 hM _) (ci := 7) rfl (fun r_ hr_ => c_X7_passesMany hM   hr_) gX7_does_X7_passesMany rfl (by decide) (by decide) (n := 1) rfl (Nat.le_of_ble_eq_true rfl) (by decide) ⟨Nat.zero_le _, Nat.zero_le _⟩ rfl dX7_does_290 (fun r_290_7 => ?_)
        refine sm_if_lt hG 300 296 rfl dX7_does_293 (by decide) ?_ ?_
        · refine sm_iconst (x := (0 : Int32)) hG 301 rfl dX7_does_300 rfl ?_
          exact sm_bret hG hT ⟨Nat.zero_le _, Nat.zero_le _⟩ dX7_does_301 rfl
        · refine sm_iconst (x := (1 : Int32)) hG 297 rfl dX7_does_296 rfl ?_
          refine sm_goto hG 301 dX7_does_297 (by decide) ?_
          exact sm_bret hG hT ⟨Nat.zero_le _, Nat.zero_le _⟩ dX7_does_301 rfl
    · refine sm_aload_n hG 275 rfl dX7_does_274 rfl 3 rfl ?_
      refine gM0_0 hG hM  278 rfl u7 f7 dX7_does_275 ?_
      refine sm_iconst (x := (0 : Int32)) hG 279 rfl dX7_does_278 rfl ?_
      refine lA hG (ia_1 hM) 280 rfl dX7_does_279 ?_
      refine sm_iload_n hG 281 rfl dX7_does_280 rfl 2 rfl ?_
      refine sm_iadd hG 282 rfl dX7_does_281 ?_
      refine sm_sipush (x := (9999 : Int32)) hG 285 rfl dX7_does_282 rfl ?_
      refine sm_icmp_gt hG 300 288 rfl dX7_does_285 (by decide) ?_ ?_
      · refine sm_iconst (x := (0 : Int32)) hG 301 rfl dX7_does_300 rfl ?_
        exact sm_bret hG hT ⟨Nat.zero_le _, Nat.zero_le _⟩ dX7_does_301 rfl
      · refine sm_aload_n hG 289 rfl dX7_does_288 rfl 3 rfl ?_
        refine sm_iload_n hG 290 rfl dX7_does_289 rfl 2 rfl ?_
        refine sm_callV hG (fun (q : Int32 × mM) => (some (Value.int q.1), q.2)) 0 [.int r_3] 293 rfl (okm hM (by decide)) (me_0 hM _) (ci := 7) rfl (fun r_ hr_ => c_X7_passesMany hM   hr_) gX7_does_X7_passesMany rfl (by decide) (by decide) (n := 1) rfl (Nat.le_of_ble_eq_true rfl) (by decide) ⟨Nat.zero_le _, Nat.zero_le _⟩ rfl dX7_does_290 (fun r_290_8 => ?_)
        refine sm_if_lt hG 300 296 rfl dX7_does_293 (by decide) ?_ ?_
        · refine sm_iconst (x := (0 : Int32)) hG 301 rfl dX7_does_300 rfl ?_
          exact sm_bret hG hT ⟨Nat.zero_le _, Nat.zero_le _⟩ dX7_does_301 rfl
        · refine sm_iconst (x := (1 : Int32)) hG 297 rfl dX7_does_296 rfl ?_
          refine sm_goto hG 301 dX7_does_297 (by decide) ?_
          exact sm_bret hG hT ⟨Nat.zero_le _, Nat.zero_le _⟩ dX7_does_301 rfl
    · refine sm_aload_n hG 275 rfl dX7_does_274 rfl 3 rfl ?_
      refine gM0_0 hG hM  278 rfl u7 f7 dX7_does_275 ?_
      refine sm_iconst (x := (0 : Int32)) hG 279 rfl dX7_does_278 rfl ?_
      refine lA hG (ia_1 hM) 280 rfl dX7_does_279 ?_
      refine sm_iload_n hG 281 rfl dX7_does_280 rfl 2 rfl ?_
      refine sm_iadd hG 282 rfl dX7_does_281 ?_
      refine sm_sipush (x := (9999 : Int32)) hG 285 rfl dX7_does_282 rfl ?_
      refine sm_icmp_gt hG 300 288 rfl dX7_does_285 (by decide) ?_ ?_
      · refine sm_iconst (x := (0 : Int32)) hG 301 rfl dX7_does_300 rfl ?_
        exact sm_bret hG hT ⟨Nat.zero_le _, Nat.zero_le _⟩ dX7_does_301 rfl
      · refine sm_aload_n hG 289 rfl dX7_does_288 rfl 3 rfl ?_
        refine sm_iload_n hG 290 rfl dX7_does_289 rfl 2 rfl ?_
        refine sm_callV hG (fun (q : Int32 × mM) => (some (Value.int q.1), q.2)) 0 [.int r_3] 293 rfl (okm hM (by decide)) (me_0 hM _) (ci := 7) rfl (fun r_ hr_ => c_X7_passesMany hM   hr_) gX7_does_X7_passesMany rfl (by decide) (by decide) (n := 1) rfl (Nat.le_of_ble_eq_true rfl) (by decide) ⟨Nat.zero_le _, Nat.zero_le _⟩ rfl dX7_does_290 (fun r_290_9 => ?_)
        refine sm_if_lt hG 300 296 rfl dX7_does_293 (by decide) ?_ ?_
        · refine sm_iconst (x := (0 : Int32)) hG 301 rfl dX7_does_300 rfl ?_
          exact sm_bret hG hT ⟨Nat.zero_le _, Nat.zero_le _⟩ dX7_does_301 rfl
        · refine sm_iconst (x := (1 : Int32)) hG 297 rfl dX7_does_296 rfl ?_
          refine sm_goto hG 301 dX7_does_297 (by decide) ?_
          exact sm_bret hG hT ⟨Nat.zero_le _, Nat.zero_le _⟩ dX7_does_301 rfl
    · refine sm_aload_n hG 275 rfl dX7_does_274 rfl 3 rfl ?_
      refine gM0_0 hG hM  278 rfl u7 f7 dX7_does_275 ?_
      refine sm_iconst (x := (0 : Int32)) hG 279 rfl dX7_does_278 rfl ?_
      refine lA hG (ia_1 hM) 280 rfl dX7_does_279 ?_
      refine sm_iload_n hG 281 rfl dX7_does_280 rfl 2 rfl ?_
      refine sm_iadd hG 282 rfl dX7_does_281 ?_
      refine sm_sipush (x := (9999 : Int32)) hG 285 rfl dX7_does_282 rfl ?_
      refine sm_icmp_gt hG 300 288 rfl dX7_does_285 (by decide) ?_ ?_
      · refine sm_iconst (x := (0 : Int32)) hG 301 rfl dX7_does_300 rfl ?_
        exact sm_bret hG hT ⟨Nat.zero_le _, Nat.zero_le _⟩ dX7_does_301 rfl
      · refine sm_aload_n hG 289 rfl dX7_does_288 rfl 3 rfl ?_
        refine sm_iload_n hG 290 rfl dX7_does_289 rfl 2 rfl ?_
        refine sm_callV hG (fun (q : Int32 × mM) => (some (Value.int q.1), q.2)) 0 [.int r_3] 293 rfl (okm hM (by decide)) (me_0 hM _) (ci := 7) rfl (fun r_ hr_ => c_X7_passesMany hM   hr_) gX7_does_X7_passesMany rfl (by decide) (by decide) (n := 1) rfl (Nat.le_of_ble_eq_true rfl) (by decide) ⟨Nat.zero_le _, Nat.zero_le _⟩ rfl dX7_does_290 (fun r_290_10 => ?_)
        refine sm_if_lt hG 300 296 rfl dX7_does_293 (by decide) ?_ ?_
        · refine sm_iconst (x := (0 : Int32)) hG 301 rfl dX7_does_300 rfl ?_
          exact sm_bret hG hT ⟨Nat.zero_le _, Nat.zero_le _⟩ dX7_does_301 rfl
        · refine sm_iconst (x := (1 : Int32)) hG 297 rfl dX7_does_296 rfl ?_
          refine sm_goto hG 301 dX7_does_297 (by decide) ?_
          exact sm_bret hG hT ⟨Nat.zero_le _, Nat.zero_le _⟩ dX7_does_301 rfl
    · refine sm_aload_n hG 275 rfl dX7_does_274 rfl 3 rfl ?_
      refine gM0_0 hG hM  278 rfl u7 f7 dX7_does_275 ?_
      refine sm_iconst (x := (0 : Int32)) hG 279 rfl dX7_does_278 rfl ?_
      refine lA hG (ia_1 hM) 280 rfl dX7_does_279 ?_
      refine sm_iload_n hG 281 rfl dX7_does_280 rfl 2 rfl ?_
      refine sm_iadd hG 282 rfl dX7_does_281 ?_
      refine sm_sipush (x := (9999 : Int32)) hG 285 rfl dX7_does_282 rfl ?_
      refine sm_icmp_gt hG 300 288 rfl dX7_does_285 (by decide) ?_ ?_
      · refine sm_iconst (x := (0 : Int32)) hG 301 rfl dX7_does_300 rfl ?_
        exact sm_bret hG hT ⟨Nat.zero_le _, Nat.zero_le _⟩ dX7_does_301 rfl
      · refine sm_aload_n hG 289 rfl dX7_does_288 rfl 3 rfl ?_
        refine sm_iload_n hG 290 rfl dX7_does_289 rfl 2 rfl ?_
        refine sm_callV hG (fun (q : Int32 × mM) => (some (Value.int q.1), q.2)) 0 [.int r_3] 293 rfl (okm hM (by decide)) (me_0 hM _) (ci := 7) rfl (fun r_ hr_ => c_X7_passesMany hM   hr_) gX7_does_X7_passesMany rfl (by decide) (by decide) (n := 1) rfl (Nat.le_of_ble_eq_true rfl) (by decide) ⟨Nat.zero_le _, Nat.zero_le _⟩ rfl dX7_does_290 (fun r_290_11 => ?_)
        refine sm_if_lt hG 300 296 rfl dX7_does_293 (by decide) ?_ ?_
        · refine sm_iconst (x := (0 : Int32)) hG 301 rfl dX7_does_300 rfl ?_
          exact sm_bret hG hT ⟨Nat.zero_le _, Nat.zero_le _⟩ dX7_does_301 rfl
        · refine sm_iconst (x := (1 : Int32)) hG 297 rfl dX7_does_296 rfl ?_
          refine sm_goto hG 301 dX7_does_297 (by decide) ?_
          exact sm_bret hG hT ⟨Nat.zero_le _, Nat.zero_le _⟩ dX7_does_301 rfl
    · refine sm_aload_n hG 243 rfl dX7_does_242 rfl 3 rfl ?_
      refine sm_iload_n hG 244 rfl dX7_does_243 rfl 2 rfl ?_
      refine sm_callV hG (fun (q : Int32) => (some (Value.int q), v)) 0 [.int r_3] 247 rfl (okm hM (by decide)) (me_0 hM _) (ci := 7) rfl (fun r_ hr_ => c_X7_isSinger hM   hr_) gX7_does_X7_isSinger rfl (by decide) (by decide) (n := 1) rfl (Nat.le_of_ble_eq_true rfl) (by decide) ⟨Nat.zero_le _, Nat.zero_le _⟩ rfl dX7_does_244 (fun r_244 => ?_)
      refine sm_if_eq hG 272 250 rfl dX7_does_247 (by decide) ?_ ?_
      · refine sm_iconst (x := (0 : Int32)) hG 273 rfl dX7_does_272 rfl ?_
        exact sm_bret hG hT ⟨Nat.zero_le _, Nat.zero_le _⟩ dX7_does_273 rfl
      · refine sm_aload_n hG 251 rfl dX7_does_250 rfl 3 rfl ?_
        refine sm_iload_n hG 252 rfl dX7_does_251 rfl 2 rfl ?_
        refine sm_bipush (x := (7 : Int32)) hG 254 rfl dX7_does_252 rfl ?_
        refine sm_callV hG (fun (q : Int32) => (some (Value.int q), v)) 0 [.int r_3, .int (7 : Int32)] 257 rfl (okm hM (by decide)) (me_0 hM _) (ci := 7) rfl (fun r_ hr_ => c_X7_its hM   hr_) gX7_does_X7_its rfl (by decide) (by decide) (n := 2) rfl (Nat.le_of_ble_eq_true rfl) (by decide) ⟨Nat.zero_le _, Nat.zero_le _⟩ rfl dX7_does_254 (fun r_254 => ?_)
        refine sm_if_ne hG 272 260 rfl dX7_does_257 (by decide) ?_ ?_
        · refine sm_iconst (x := (0 : Int32)) hG 273 rfl dX7_does_272 rfl ?_
          exact sm_bret hG hT ⟨Nat.zero_le _, Nat.zero_le _⟩ dX7_does_273 rfl
        · refine sm_aload_n hG 261 rfl dX7_does_260 rfl 3 rfl ?_
          refine sm_iload_n hG 262 rfl dX7_does_261 rfl 2 rfl ?_
          refine sm_callV hG (fun (q : Int32 × mM) => (some (Value.int q.1), q.2)) 0 [.int r_3] 265 rfl (okm hM (by decide)) (me_0 hM _) (ci := 7) rfl (fun r_ hr_ => c_X7_leaves hM   hr_) gX7_does_X7_leaves rfl (by decide) (by decide) (n := 1) rfl (Nat.le_of_ble_eq_true rfl) (by decide) ⟨Nat.zero_le _, Nat.zero_le _⟩ rfl dX7_does_262 (fun r_262 => ?_)
          refine sm_if_lt hG 272 268 rfl dX7_does_265 (by decide) ?_ ?_
          · refine sm_iconst (x := (0 : Int32)) hG 273 rfl dX7_does_272 rfl ?_
            exact sm_bret hG hT ⟨Nat.zero_le _, Nat.zero_le _⟩ dX7_does_273 rfl
          · refine sm_iconst (x := (1 : Int32)) hG 269 rfl dX7_does_268 rfl ?_
            refine sm_goto hG 273 dX7_does_269 (by decide) ?_
            exact sm_bret hG hT ⟨Nat.zero_le _, Nat.zero_le _⟩ dX7_does_273 rfl
  · refine sm_aload_n hG 275 rfl dX7_does_274 rfl 3 rfl ?_
    refine gM0_0 hG hM  278 rfl u7 f7 dX7_does_275 ?_
    refine sm_iconst (x := (0 : Int32)) hG 279 rfl dX7_does_278 rfl ?_
    refine lA hG (ia_1 hM) 280 rfl dX7_does_279 ?_
    refine sm_iload_n hG 281 rfl dX7_does_280 rfl 2 rfl ?_
    refine sm_iadd hG 282 rfl dX7_does_281 ?_
    refine sm_sipush (x := (9999 : Int32)) hG 285 rfl dX7_does_282 rfl ?_
    refine sm_icmp_gt hG 300 288 rfl dX7_does_285 (by decide) ?_ ?_
    · refine sm_iconst (x := (0 : Int32)) hG 301 rfl dX7_does_300 rfl ?_
      exact sm_bret hG hT ⟨Nat.zero_le _, Nat.zero_le _⟩ dX7_does_301 rfl
    · refine sm_aload_n hG 289 rfl dX7_does_288 rfl 3 rfl ?_
      refine sm_iload_n hG 290 rfl dX7_does_289 rfl 2 rfl ?_
      refine sm_callV hG (fun (q : Int32 × mM) => (some (Value.int q.1), q.2)) 0 [.int r_3] 293 rfl (okm hM (by decide)) (me_0 hM _) (ci := 7) rfl (fun r_ hr_ => c_X7_passesMany hM   hr_) gX7_does_X7_passesMany rfl (by decide) (by decide) (n := 1) rfl (Nat.le_of_ble_eq_true rfl) (by decide) ⟨Nat.zero_le _, Nat.zero_le _⟩ rfl dX7_does_290 (fun r_290_12 => ?_)
      refine sm_if_lt hG 300 296 rfl dX7_does_293 (by decide) ?_ ?_
      · refine sm_iconst (x := (0 : Int32)) hG 301 rfl dX7_does_300 rfl ?_
        exact sm_bret hG hT ⟨Nat.zero_le _, Nat.zero_le _⟩ dX7_does_301 rfl
      · refine sm_iconst (x := (1 : Int32)) hG 297 rfl dX7_does_296 rfl ?_
        refine sm_goto hG 301 dX7_does_297 (by decide) ?_
        exact sm_bret hG hT ⟨Nat.zero_le _, Nat.zero_le _⟩ dX7_does_301 rfl
abbrev rmX7_doesAll : Room := { frames := 11, cells := 0, slots := 0, locals := 262 }
set_option maxRecDepth 100000 in
set_option maxHeartbeats 4000000 in
theorem c_X7_doesAll {Λ : jL Nat} (hM : LM Λ)   {l : Launch} {v : mM} {r : (Int32 × mM)} (hr_ : f_X7_doesAll v = some r) : Ct l yX7_doesAll wsX7_doesAll rmX7_doesAll Λ [.ref (Λ.2.2.2.1 0)] v (some (.int r.1)) r.2 := by
  refine ct_of (cc := cX7_doesAll) (maxL := 2) (ret := (some .int)) (fun (q : Int32 × mM) => (some (Value.int q.1), q.2)) hM.1 hr_ (by decide) rfl (Nat.le_of_ble_eq_true rfl) (fun Γ hG hT hN hl => ?_)
  subst hl
  have f218 : Cond.fieldLink RX7 218 "ChoirRegisterModel" "toldMany" "I" ∈ wsX7_doesAll := by decide +kernel
  have u7 : ∀ w ∈ wsX70, w ∈ wsX7_doesAll := by decide +kernel
  show Sm Γ Λ (0, 0) 0 [(0, .ref (Λ.2.2.2.1 0))] [] v _
  unfold f_X7_doesAll
  refine sm_iconst (x := (0 : Int32)) hG 1 rfl dX7_doesAll_0 rfl ?_
  refine sm_istore_n hG 2 rfl dX7_doesAll_1 rfl (jlt hN rfl) [(1, .int (0 : Int32)), (0, .ref (Λ.2.2.2.1 0))] rfl ?_
  refine sm_loc [1, 0] [(0, .ref (Λ.2.2.2.1 0)), (1, .int (0 : Int32))] rfl ?_
  refine lp_ind (fun (X2 : Int32 → mM → Option (Int32 × mM)) => ∀ (x1_2 : Int32) (v_2 : mM), Sm Γ Λ (0, 0) 2 [(0, .ref (Λ.2.2.2.1 0)), (1, .int x1_2)] [] v_2 (X2 x1_2 v_2)) (fun _ _ => sm_none) (fun self2 hs2 x1_2 v_2 => ?_) 8192 _ _
  refine sm_iload_n hG 3 rfl dX7_doesAll_2 rfl 1 rfl ?_
  refine sm_aload_n hG 4 rfl dX7_doesAll_3 rfl 0 rfl ?_
  refine gM0_15 hG hM  7 rfl u7 f218 dX7_doesAll_4 ?_
  refine sm_icmp_ge hG 24 10 rfl dX7_doesAll_7 (by decide) ?_ ?_
  · refine sm_iload_n hG 25 rfl dX7_doesAll_24 rfl 1 rfl ?_
    exact sm_iret hG hT ⟨Nat.zero_le _, Nat.zero_le _⟩ dX7_doesAll_25 rfl
  · refine sm_aload_n hG 11 rfl dX7_doesAll_10 rfl 0 rfl ?_
    refine sm_iload_n hG 12 rfl dX7_doesAll_11 rfl 1 rfl ?_
    refine sm_callV hG (fun (q : Int32 × mM) => (some (Value.int q.1), q.2)) 0 [.int x1_2] 15 rfl (okm hM (by decide)) (me_0 hM _) (ci := 7) rfl (fun r_ hr_ => c_X7_does hM   hr_) gX7_doesAll_X7_does rfl (by decide) (by decide) (n := 1) rfl (Nat.le_of_ble_eq_true rfl) (by decide) ⟨Nat.zero_le _, Nat.zero_le _⟩ rfl dX7_doesAll_12 (fun r_12 => ?_)
    refine sm_if_eq hG 24 18 rfl dX7_doesAll_15 (by decide) ?_ ?_
    · refine sm_iload_n hG 25 rfl dX7_doesAll_24 rfl 1 rfl ?_
      exact sm_iret hG hT ⟨Nat.zero_le _, Nat.zero_le _⟩ dX7_doesAll_25 rfl
    · refine sm_iinc hG 21 rfl dX7_doesAll_18 (j := 1) rfl rfl (jlt hN rfl) [(1, .int (x1_2 + (1 : Int32))), (0, .ref (Λ.2.2.2.1 0))] rfl ?_
      refine sm_goto hG 2 dX7_doesAll_21 (by decide) ?_
      refine sm_loc [1, 0] [(0, .ref (Λ.2.2.2.1 0)), (1, .int (x1_2 + (1 : Int32)))] rfl ?_
      exact hs2 _ _
