/-! printed by wip/p53/jgen.py out of the bytecode: the law -/
abbrev rmL_refused : Room := { frames := 15, cells := 740, slots := 4440, locals := 339 }
set_option maxRecDepth 100000 in
set_option maxHeartbeats 4000000 in
theorem c_L_refused {Λ : jL kC} (hC : LC Λ)   {l : Launch} (hfl : l.stackTraces = false) (hX : Xnc Λ) {v : mC} {r : (Int32 × mC)} (hr_ : f_L_refused v = some r) : Ct l yL_refused wsL_refused rmL_refused Λ [.ref (Λ.2.2.2.1 (0, 0, 0))] v (some (.int r.1)) r.2 := by
  refine ct_of (cc := cL_refused) (maxL := 5) (ret := (some .boolean)) (fun (q : Int32 × mC) => (some (Value.int q.1), q.2)) hC.1 hr_ (by decide) rfl (Nat.le_of_ble_eq_true rfl) (fun Γ hG hT hN hl => ?_)
  subst hl
  show Sm Γ Λ (0, 0) 0 [(0, .ref (Λ.2.2.2.1 (0, 0, 0)))] [] v _
  unfold f_L_refused
  refine sm_aload_n hG 1 rfl dL_refused_0 rfl 0 rfl ?_
  refine sm_callS hG (fun (q : Int64 × mC) => (some (Value.long q.1), q.2)) [.ref (Λ.2.2.2.1 (0, 0, 0))] 4 rfl (fun r_ hr_ => c_L_seen hC   hr_) gL_refused_L_seen rfl (by decide) (by decide) (n := 1) rfl (Nat.le_of_ble_eq_true rfl) (by decide) (by decide) rfl dL_refused_1 (fun r_1 => ?_)
  refine sl_lstore_n hG 5 rfl dL_refused_4 rfl (jlt hN rfl) [(1, .long r_1.1), (0, .ref (Λ.2.2.2.1 (0, 0, 0)))] rfl ?_
  refine sm_aload_n hG 6 rfl dL_refused_5 rfl 1 rfl ?_
  refine sm_callV hG (fun (q : Int32) => (some (Value.int q), r_1.2)) (0, 0, 0) [] 9 rfl (ok0 hC) (ce_0 hC _) (ci := 6) rfl (fun r_ hr_ => c_X6_recordedStates hC   hr_) gL_refused_X6_recordedStates rfl (by decide) (by decide) (n := 0) rfl (Nat.le_of_ble_eq_true rfl) (by decide) (by decide) rfl dL_refused_6 (fun r_6 => ?_)
  refine sm_istore_n hG 10 rfl dL_refused_9 rfl (jlt hN rfl) [(3, .int r_6), (1, .long r_1.1), (0, .ref (Λ.2.2.2.1 (0, 0, 0)))] rfl ?_
  refine sm_iconst (x := (0 : Int32)) hG 11 rfl dL_refused_10 rfl ?_
  refine sm_istore hG 13 rfl dL_refused_11 (jlt hN rfl) [(4, .int (0 : Int32)), (3, .int r_6), (1, .long r_1.1), (0, .ref (Λ.2.2.2.1 (0, 0, 0)))] rfl ?_
  refine sm_iload hG 15 rfl dL_refused_13 0 rfl ?_
  refine sm_iconst (x := (4 : Int32)) hG 16 rfl dL_refused_15 rfl ?_
  refine sm_icmp_geN hG 36 19 rfl dL_refused_16 (by decide) (by decide) ?_
  refine sm_aload_n hG 20 rfl dL_refused_19 rfl 3 rfl ?_
  refine sm_iload hG 22 rfl dL_refused_20 0 rfl ?_
  refine sm_callS2 hG (fun (q : Int32 × mC) => (some (Value.int q.1), q.2)) [.ref (Λ.2.2.2.1 (0, 0, 0)), .int (0 : Int32)] 25 rfl (fun r_ hr_ => c_L_refusesOne hC  hfl hX hr_) gL_refused_L_refusesOne rfl (by decide) (by decide) (n := 2) rfl (Nat.le_of_ble_eq_true rfl) (185, 1110) ⟨rfl, rfl⟩ (by decide) rfl dL_refused_22 (fun r_22 => ?_)
  refine sm_if_ne hG 30 28 rfl dL_refused_25 (by decide) ?_ ?_
  · refine sm_iinc hG 33 rfl dL_refused_30 (j := 0) rfl rfl (jlt hN rfl) [(4, .int (1 : Int32)), (3, .int r_6), (1, .long r_1.1), (0, .ref (Λ.2.2.2.1 (0, 0, 0)))] rfl ?_
    refine sm_goto hG 13 dL_refused_33 (by decide) ?_
    refine sm_iload hG 15 rfl dL_refused_13 0 rfl ?_
    refine sm_iconst (x := (4 : Int32)) hG 16 rfl dL_refused_15 rfl ?_
    refine sm_icmp_geN hG 36 19 rfl dL_refused_16 (by decide) (by decide) ?_
    refine sm_aload_n hG 20 rfl dL_refused_19 rfl 3 rfl ?_
    refine sm_iload hG 22 rfl dL_refused_20 0 rfl ?_
    refine sm_callS2 hG (fun (q : Int32 × mC) => (some (Value.int q.1), q.2)) [.ref (Λ.2.2.2.1 (0, 0, 0)), .int (1 : Int32)] 25 rfl (fun r_ hr_ => c_L_refusesOne hC  hfl hX hr_) gL_refused_L_refusesOne rfl (by decide) (by decide) (n := 2) rfl (Nat.le_of_ble_eq_true rfl) (370, 2220) ⟨rfl, rfl⟩ (by decide) rfl dL_refused_22 (fun r_22_0 => ?_)
    refine sm_if_ne hG 30 28 rfl dL_refused_25 (by decide) ?_ ?_
    · refine sm_iinc hG 33 rfl dL_refused_30 (j := 0) rfl rfl (jlt hN rfl) [(4, .int (2 : Int32)), (3, .int r_6), (1, .long r_1.1), (0, .ref (Λ.2.2.2.1 (0, 0, 0)))] rfl ?_
      refine sm_goto hG 13 dL_refused_33 (by decide) ?_
      refine sm_iload hG 15 rfl dL_refused_13 0 rfl ?_
      refine sm_iconst (x := (4 : Int32)) hG 16 rfl dL_refused_15 rfl ?_
      refine sm_icmp_geN hG 36 19 rfl dL_refused_16 (by decide) (by decide) ?_
      refine sm_aload_n hG 20 rfl dL_refused_19 rfl 3 rfl ?_
      refine sm_iload hG 22 rfl dL_refused_20 0 rfl ?_
      refine sm_callS2 hG (fun (q : Int32 × mC) => (some (Value.int q.1), q.2)) [.ref (Λ.2.2.2.1 (0, 0, 0)), .int (2 : Int32)] 25 rfl (fun r_ hr_ => c_L_refusesOne hC  hfl hX hr_) gL_refused_L_refusesOne rfl (by decide) (by decide) (n := 2) rfl (Nat.le_of_ble_eq_true rfl) (555, 3330) ⟨rfl, rfl⟩ (by decide) rfl dL_refused_22 (fun r_22_1 => ?_)
      refine sm_if_ne hG 30 28 rfl dL_refused_25 (by decide) ?_ ?_
      · refine sm_iinc hG 33 rfl dL_refused_30 (j := 0) rfl rfl (jlt hN rfl) [(4, .int (3 : Int32)), (3, .int r_6), (1, .long r_1.1), (0, .ref (Λ.2.2.2.1 (0, 0, 0)))] rfl ?_
        refine sm_goto hG 13 dL_refused_33 (by decide) ?_
        refine sm_iload hG 15 rfl dL_refused_13 0 rfl ?_
        refine sm_iconst (x := (4 : Int32)) hG 16 rfl dL_refused_15 rfl ?_
        refine sm_icmp_geN hG 36 19 rfl dL_refused_16 (by decide) (by decide) ?_
        refine sm_aload_n hG 20 rfl dL_refused_19 rfl 3 rfl ?_
        refine sm_iload hG 22 rfl dL_refused_20 0 rfl ?_
        refine sm_callS2 hG (fun (q : Int32 × mC) => (some (Value.int q.1), q.2)) [.ref (Λ.2.2.2.1 (0, 0, 0)), .int (3 : Int32)] 25 rfl (fun r_ hr_ => c_L_refusesOne hC  hfl hX hr_) gL_refused_L_refusesOne rfl (by decide) (by decide) (n := 2) rfl (Nat.le_of_ble_eq_true rfl) (740, 4440) ⟨rfl, rfl⟩ (by decide) rfl dL_refused_22 (fun r_22_2 => ?_)
        refine sm_if_ne hG 30 28 rfl dL_refused_25 (by decide) ?_ ?_
        · refine sm_iinc hG 33 rfl dL_refused_30 (j := 0) rfl rfl (jlt hN rfl) [(4, .int (4 : Int32)), (3, .int r_6), (1, .long r_1.1), (0, .ref (Λ.2.2.2.1 (0, 0, 0)))] rfl ?_
          refine sm_goto hG 13 dL_refused_33 (by decide) ?_
          refine sm_iload hG 15 rfl dL_refused_13 0 rfl ?_
          refine sm_iconst (x := (4 : Int32)) hG 16 rfl dL_refused_15 rfl ?_
          refine sm_icmp_geY hG 36 19 rfl dL_refused_16 (by decide) (by decide) ?_
          refine sm_aload_n hG 37 rfl dL_refused_36 rfl 3 rfl ?_
          refine sm_callS hG (fun (q : Int64 × mC) => (some (Value.long q.1), q.2)) [.ref (Λ.2.2.2.1 (0, 0, 0))] 40 rfl (fun r_ hr_ => c_L_seen hC   hr_) gL_refused_L_seen rfl (by decide) (by decide) (n := 1) rfl (Nat.le_of_ble_eq_true rfl) (by decide) (by decide) rfl dL_refused_37 (fun r_37 => ?_)
          refine sl_lload_n hG 41 rfl dL_refused_40 rfl 2 rfl ?_
          refine sl_lcm hG 42 rfl dL_refused_41 ?_
          refine sm_if_ne hG 57 45 rfl dL_refused_42 (by decide) ?_ ?_
          · refine sm_iconst (x := (0 : Int32)) hG 58 rfl dL_refused_57 rfl ?_
            exact sm_bret hG hT (by decide) dL_refused_58 rfl
          · refine sm_aload_n hG 46 rfl dL_refused_45 rfl 3 rfl ?_
            refine sm_callV hG (fun (q : Int32) => (some (Value.int q), r_37.2)) (0, 0, 0) [] 49 rfl (ok0 hC) (ce_0 hC _) (ci := 6) rfl (fun r_ hr_ => c_X6_recordedStates hC   hr_) gL_refused_X6_recordedStates rfl (by decide) (by decide) (n := 0) rfl (Nat.le_of_ble_eq_true rfl) (by decide) (by decide) rfl dL_refused_46 (fun r_46 => ?_)
            refine sm_iload_n hG 50 rfl dL_refused_49 rfl 1 rfl ?_
            refine sm_icmp_ne hG 57 53 rfl dL_refused_50 (by decide) ?_ ?_
            · refine sm_iconst (x := (0 : Int32)) hG 58 rfl dL_refused_57 rfl ?_
              exact sm_bret hG hT (by decide) dL_refused_58 rfl
            · refine sm_iconst (x := (1 : Int32)) hG 54 rfl dL_refused_53 rfl ?_
              refine sm_goto hG 58 dL_refused_54 (by decide) ?_
              exact sm_bret hG hT (by decide) dL_refused_58 rfl
        · refine sm_iconst (x := (0 : Int32)) hG 29 rfl dL_refused_28 rfl ?_
          exact sm_bret hG hT (by decide) dL_refused_29 rfl
      · refine sm_iconst (x := (0 : Int32)) hG 29 rfl dL_refused_28 rfl ?_
        exact sm_bret hG hT (by decide) dL_refused_29 rfl
    · refine sm_iconst (x := (0 : Int32)) hG 29 rfl dL_refused_28 rfl ?_
      exact sm_bret hG hT (by decide) dL_refused_29 rfl
  · refine sm_iconst (x := (0 : Int32)) hG 29 rfl dL_refused_28 rfl ?_
    exact sm_bret hG hT (by decide) dL_refused_29 rfl
abbrev rmL_told : Room := { frames := 6, cells := 0, slots := 0, locals := 143 }
set_option maxRecDepth 100000 in
set_option maxHeartbeats 4000000 in
theorem c_L_told {Λ : jL kC} (hC : LC Λ) {x1 : Int32} {x2 : Int32} {x3 : Int32} {x4 : Int32}  {l : Launch} {v : mC} {r : (Int32 × mC)} (hr_ : f_L_told x1 x2 x3 x4 v = some r) : Ct l yL_told wsL_told rmL_told Λ [.ref (Λ.2.2.2.1 (0, 0, 0)), .int x1, .int x2, .int x3, .int x4] v (some (.int r.1)) r.2 := by
  refine ct_of (cc := cL_told) (maxL := 5) (ret := (some .boolean)) (fun (q : Int32 × mC) => (some (Value.int q.1), q.2)) hC.1 hr_ (by decide) rfl (Nat.le_of_ble_eq_true rfl) (fun Γ hG hT hN hl => ?_)
  subst hl
  show Sm Γ Λ (0, 0) 0 [(0, .ref (Λ.2.2.2.1 (0, 0, 0))), (1, .int x1), (2, .int x2), (3, .int x3), (4, .int x4)] [] v _
  unfold f_L_told
  refine sm_aload_n hG 1 rfl dL_told_0 rfl 0 rfl ?_
  refine sm_iload_n hG 2 rfl dL_told_1 rfl 1 rfl ?_
  refine sm_callV hG (fun (q : Int32 × mC) => (some (Value.int q.1), q.2)) (0, 0, 0) [.int x1] 5 rfl (ok0 hC) (ce_0 hC _) (ci := 6) rfl (fun r_ hr_ => c0n_X6_shortfall hC hr_) gL_told_X6_shortfall rfl (by decide) (by decide) (n := 1) rfl (Nat.le_of_ble_eq_true rfl) (by decide) (by decide) rfl dL_told_2 (fun r_2 => ?_)
  refine sm_iload_n hG 6 rfl dL_told_5 rfl 2 rfl ?_
  refine sm_icmp_ne hG 41 9 rfl dL_told_6 (by decide) ?_ ?_
  · refine sm_iconst (x := (0 : Int32)) hG 42 rfl dL_told_41 rfl ?_
    exact sm_bret hG hT (by decide) dL_told_42 rfl
  · refine sm_aload_n hG 10 rfl dL_told_9 rfl 0 rfl ?_
    refine sm_iload_n hG 11 rfl dL_told_10 rfl 1 rfl ?_
    refine sm_callV hG (fun (q : Int32 × mC) => (some (Value.int q.1), q.2)) (0, 0, 0) [.int x1] 14 rfl (ok0 hC) (ce_0 hC _) (ci := 6) rfl (fun r_ hr_ => c0n_X6_shortfallBySets hC hr_) gL_told_X6_shortfallBySets rfl (by decide) (by decide) (n := 1) rfl (Nat.le_of_ble_eq_true rfl) (by decide) (by decide) rfl dL_told_11 (fun r_11 => ?_)
    refine sm_iload_n hG 15 rfl dL_told_14 rfl 2 rfl ?_
    refine sm_icmp_ne hG 41 18 rfl dL_told_15 (by decide) ?_ ?_
    · refine sm_iconst (x := (0 : Int32)) hG 42 rfl dL_told_41 rfl ?_
      exact sm_bret hG hT (by decide) dL_told_42 rfl
    · refine sm_aload_n hG 19 rfl dL_told_18 rfl 0 rfl ?_
      refine sm_iload_n hG 20 rfl dL_told_19 rfl 1 rfl ?_
      refine sm_callV hG (fun (q : Int32 × mC) => (some (Value.int q.1), q.2)) (0, 0, 0) [.int x1] 23 rfl (ok0 hC) (ce_0 hC _) (ci := 6) rfl (fun r_ hr_ => c0n_X6_neededLine hC hr_) gL_told_X6_neededLine rfl (by decide) (by decide) (n := 1) rfl (Nat.le_of_ble_eq_true rfl) (by decide) (by decide) rfl dL_told_20 (fun r_20 => ?_)
      refine sm_iload_n hG 24 rfl dL_told_23 rfl 3 rfl ?_
      refine sm_icmp_ne hG 41 27 rfl dL_told_24 (by decide) ?_ ?_
      · refine sm_iconst (x := (0 : Int32)) hG 42 rfl dL_told_41 rfl ?_
        exact sm_bret hG hT (by decide) dL_told_42 rfl
      · refine sm_aload_n hG 28 rfl dL_told_27 rfl 0 rfl ?_
        refine sm_iload_n hG 29 rfl dL_told_28 rfl 1 rfl ?_
        refine sm_callV hG (fun (q : Int32 × mC) => (some (Value.int q.1), q.2)) (0, 0, 0) [.int x1] 32 rfl (ok0 hC) (ce_0 hC _) (ci := 6) rfl (fun r_ hr_ => c0n_X6_descantIn hC hr_) gL_told_X6_descantIn rfl (by decide) (by decide) (n := 1) rfl (Nat.le_of_ble_eq_true rfl) (by decide) (by decide) rfl dL_told_29 (fun r_29 => ?_)
        refine sm_iload hG 34 rfl dL_told_32 4 rfl ?_
        refine sm_icmp_ne hG 41 37 rfl dL_told_34 (by decide) ?_ ?_
        · refine sm_iconst (x := (0 : Int32)) hG 42 rfl dL_told_41 rfl ?_
          exact sm_bret hG hT (by decide) dL_told_42 rfl
        · refine sm_iconst (x := (1 : Int32)) hG 38 rfl dL_told_37 rfl ?_
          refine sm_goto hG 42 dL_told_38 (by decide) ?_
          exact sm_bret hG hT (by decide) dL_told_42 rfl
abbrev rmL_lines : Room := { frames := 6, cells := 0, slots := 0, locals := 141 }
set_option maxRecDepth 100000 in
set_option maxHeartbeats 4000000 in
theorem c_L_lines {Λ : jL kC} (hC : LC Λ) {x1 : Int32} {x2 : Int32} {x3 : Int32} {x4 : Int32}  {l : Launch} {v : mC} {r : (Int32 × mC)} (hr_ : f_L_lines x1 x2 x3 x4 v = some r) : Ct l yL_lines wsL_lines rmL_lines Λ [.ref (Λ.2.2.2.1 (0, 0, 0)), .int x1, .int x2, .int x3, .int x4] v (some (.int r.1)) r.2 := by
  refine ct_of (cc := cL_lines) (maxL := 5) (ret := (some .boolean)) (fun (q : Int32 × mC) => (some (Value.int q.1), q.2)) hC.1 hr_ (by decide) rfl (Nat.le_of_ble_eq_true rfl) (fun Γ hG hT hN hl => ?_)
  subst hl
  show Sm Γ Λ (0, 0) 0 [(0, .ref (Λ.2.2.2.1 (0, 0, 0))), (1, .int x1), (2, .int x2), (3, .int x3), (4, .int x4)] [] v _
  unfold f_L_lines
  refine sm_aload_n hG 1 rfl dL_lines_0 rfl 0 rfl ?_
  refine sm_iload_n hG 2 rfl dL_lines_1 rfl 1 rfl ?_
  refine sm_iconst (x := (0 : Int32)) hG 3 rfl dL_lines_2 rfl ?_
  refine sm_callV hG (fun (q : Int32 × mC) => (some (Value.int q.1), q.2)) (0, 0, 0) [.int x1, .int (0 : Int32)] 6 rfl (ok0 hC) (ce_0 hC _) (ci := 6) rfl (fun r_ hr_ => c0n_X6_lineOf hC hr_) gL_lines_X6_lineOf rfl (by decide) (by decide) (n := 2) rfl (Nat.le_of_ble_eq_true rfl) (by decide) (by decide) rfl dL_lines_3 (fun r_3 => ?_)
  refine sm_iload_n hG 7 rfl dL_lines_6 rfl 2 rfl ?_
  refine sm_icmp_ne hG 35 10 rfl dL_lines_7 (by decide) ?_ ?_
  · refine sm_iconst (x := (0 : Int32)) hG 36 rfl dL_lines_35 rfl ?_
    exact sm_bret hG hT (by decide) dL_lines_36 rfl
  · refine sm_aload_n hG 11 rfl dL_lines_10 rfl 0 rfl ?_
    refine sm_iload_n hG 12 rfl dL_lines_11 rfl 1 rfl ?_
    refine sm_iconst (x := (1 : Int32)) hG 13 rfl dL_lines_12 rfl ?_
    refine sm_callV hG (fun (q : Int32 × mC) => (some (Value.int q.1), q.2)) (0, 0, 0) [.int x1, .int (1 : Int32)] 16 rfl (ok0 hC) (ce_0 hC _) (ci := 6) rfl (fun r_ hr_ => c0n_X6_lineOf hC hr_) gL_lines_X6_lineOf rfl (by decide) (by decide) (n := 2) rfl (Nat.le_of_ble_eq_true rfl) (by decide) (by decide) rfl dL_lines_13 (fun r_13 => ?_)
    refine sm_iload_n hG 17 rfl dL_lines_16 rfl 3 rfl ?_
    refine sm_icmp_ne hG 35 20 rfl dL_lines_17 (by decide) ?_ ?_
    · refine sm_iconst (x := (0 : Int32)) hG 36 rfl dL_lines_35 rfl ?_
      exact sm_bret hG hT (by decide) dL_lines_36 rfl
    · refine sm_aload_n hG 21 rfl dL_lines_20 rfl 0 rfl ?_
      refine sm_iload_n hG 22 rfl dL_lines_21 rfl 1 rfl ?_
      refine sm_iconst (x := (2 : Int32)) hG 23 rfl dL_lines_22 rfl ?_
      refine sm_callV hG (fun (q : Int32 × mC) => (some (Value.int q.1), q.2)) (0, 0, 0) [.int x1, .int (2 : Int32)] 26 rfl (ok0 hC) (ce_0 hC _) (ci := 6) rfl (fun r_ hr_ => c0n_X6_lineOf hC hr_) gL_lines_X6_lineOf rfl (by decide) (by decide) (n := 2) rfl (Nat.le_of_ble_eq_true rfl) (by decide) (by decide) rfl dL_lines_23 (fun r_23 => ?_)
      refine sm_iload hG 28 rfl dL_lines_26 4 rfl ?_
      refine sm_icmp_ne hG 35 31 rfl dL_lines_28 (by decide) ?_ ?_
      · refine sm_iconst (x := (0 : Int32)) hG 36 rfl dL_lines_35 rfl ?_
        exact sm_bret hG hT (by decide) dL_lines_36 rfl
      · refine sm_iconst (x := (1 : Int32)) hG 32 rfl dL_lines_31 rfl ?_
        refine sm_goto hG 36 dL_lines_32 (by decide) ?_
        exact sm_bret hG hT (by decide) dL_lines_36 rfl
abbrev rmL_sits : Room := { frames := 6, cells := 0, slots := 0, locals := 142 }
set_option maxRecDepth 100000 in
set_option maxHeartbeats 4000000 in
theorem c_L_sits {Λ : jL kC} (hC : LC Λ) {x1 : Int32} {x2 : Int32} {x3 : Int32} {x4 : Int32}  {l : Launch} {v : mC} {r : (Int32 × mC)} (hr_ : f_L_sits x1 x2 x3 x4 v = some r) : Ct l yL_sits wsL_sits rmL_sits Λ [.ref (Λ.2.2.2.1 (0, 0, 0)), .int x1, .int x2, .int x3, .int x4] v (some (.int r.1)) r.2 := by
  refine ct_of (cc := cL_sits) (maxL := 5) (ret := (some .boolean)) (fun (q : Int32 × mC) => (some (Value.int q.1), q.2)) hC.1 hr_ (by decide) rfl (Nat.le_of_ble_eq_true rfl) (fun Γ hG hT hN hl => ?_)
  subst hl
  show Sm Γ Λ (0, 0) 0 [(0, .ref (Λ.2.2.2.1 (0, 0, 0))), (1, .int x1), (2, .int x2), (3, .int x3), (4, .int x4)] [] v _
  unfold f_L_sits
  refine sm_aload_n hG 1 rfl dL_sits_0 rfl 0 rfl ?_
  refine sm_iload_n hG 2 rfl dL_sits_1 rfl 1 rfl ?_
  refine sm_iload_n hG 3 rfl dL_sits_2 rfl 2 rfl ?_
  refine sm_callV hG (fun (q : Int32 × mC) => (some (Value.int q.1), q.2)) (0, 0, 0) [.int x1, .int x2] 6 rfl (ok0 hC) (ce_0 hC _) (ci := 6) rfl (fun r_ hr_ => c0n_X6_pewOf hC hr_) gL_sits_X6_pewOf rfl (by decide) (by decide) (n := 2) rfl (Nat.le_of_ble_eq_true rfl) (by decide) (by decide) rfl dL_sits_3 (fun r_3 => ?_)
  refine sm_iload_n hG 7 rfl dL_sits_6 rfl 3 rfl ?_
  refine sm_icmp_ne hG 25 10 rfl dL_sits_7 (by decide) ?_ ?_
  · refine sm_iconst (x := (0 : Int32)) hG 26 rfl dL_sits_25 rfl ?_
    exact sm_bret hG hT (by decide) dL_sits_26 rfl
  · refine sm_aload_n hG 11 rfl dL_sits_10 rfl 0 rfl ?_
    refine sm_iload_n hG 12 rfl dL_sits_11 rfl 1 rfl ?_
    refine sm_iload_n hG 13 rfl dL_sits_12 rfl 2 rfl ?_
    refine sm_callV hG (fun (q : Int32 × mC) => (some (Value.int q.1), q.2)) (0, 0, 0) [.int x1, .int x2] 16 rfl (ok0 hC) (ce_0 hC _) (ci := 6) rfl (fun r_ hr_ => c0n_X6_seatOf hC hr_) gL_sits_X6_seatOf rfl (by decide) (by decide) (n := 2) rfl (Nat.le_of_ble_eq_true rfl) (by decide) (by decide) rfl dL_sits_13 (fun r_13 => ?_)
    refine sm_iload hG 18 rfl dL_sits_16 4 rfl ?_
    refine sm_icmp_ne hG 25 21 rfl dL_sits_18 (by decide) ?_ ?_
    · refine sm_iconst (x := (0 : Int32)) hG 26 rfl dL_sits_25 rfl ?_
      exact sm_bret hG hT (by decide) dL_sits_26 rfl
    · refine sm_iconst (x := (1 : Int32)) hG 22 rfl dL_sits_21 rfl ?_
      refine sm_goto hG 26 dL_sits_22 (by decide) ?_
      exact sm_bret hG hT (by decide) dL_sits_26 rfl
abbrev rmL_accounts : Room := { frames := 1, cells := 0, slots := 0, locals := 20 }
set_option maxRecDepth 100000 in
set_option maxHeartbeats 4000000 in
theorem c_L_accounts {Λ : jL kC} (hC : LC Λ) {x1 : Int32} {x2 : Int32} {x3 : Int32} {x4 : Int32}  {l : Launch} {v : mC} {r : (Int32 × mC)} (hr_ : f_L_accounts x1 x2 x3 x4 v = some r) : Ct l yL_accounts wsL_accounts rmL_accounts Λ [.ref (Λ.2.2.2.1 (0, 0, 0)), .int x1, .int x2, .int x3, .int x4] v (some (.int r.1)) r.2 := by
  refine ct_of (cc := cL_accounts) (maxL := 5) (ret := (some .boolean)) (fun (q : Int32 × mC) => (some (Value.int q.1), q.2)) hC.1 hr_ (by decide) rfl (Nat.le_of_ble_eq_true rfl) (fun Γ hG hT hN hl => ?_)
  subst hl
  show Sm Γ Λ (0, 0) 0 [(0, .ref (Λ.2.2.2.1 (0, 0, 0))), (1, .int x1), (2, .int x2), (3, .int x3), (4, .int x4)] [] v _
  unfold f_L_accounts
  refine sm_aload_n hG 1 rfl dL_accounts_0 rfl 0 rfl ?_
  refine sm_callV hG (fun (q : Int32) => (some (Value.int q), v)) (0, 0, 0) [] 4 rfl (ok0 hC) (ce_0 hC _) (ci := 6) rfl (fun r_ hr_ => c_X6_purse hC   hr_) gL_accounts_X6_purse rfl (by decide) (by decide) (n := 0) rfl (Nat.le_of_ble_eq_true rfl) (by decide) (by decide) rfl dL_accounts_1 (fun r_1 => ?_)
  refine sm_iload_n hG 5 rfl dL_accounts_4 rfl 1 rfl ?_
  refine sm_icmp_ne hG 45 8 rfl dL_accounts_5 (by decide) ?_ ?_
  · refine sm_iconst (x := (0 : Int32)) hG 46 rfl dL_accounts_45 rfl ?_
    exact sm_bret hG hT (by decide) dL_accounts_46 rfl
  · refine sm_aload_n hG 9 rfl dL_accounts_8 rfl 0 rfl ?_
    refine sm_callV hG (fun (q : Int32) => (some (Value.int q), v)) (0, 0, 0) [] 12 rfl (ok0 hC) (ce_0 hC _) (ci := 6) rfl (fun r_ hr_ => c_X6_purseByAccounts hC   hr_) gL_accounts_X6_purseByAccounts rfl (by decide) (by decide) (n := 0) rfl (Nat.le_of_ble_eq_true rfl) (by decide) (by decide) rfl dL_accounts_9 (fun r_9 => ?_)
    refine sm_iload_n hG 13 rfl dL_accounts_12 rfl 1 rfl ?_
    refine sm_icmp_ne hG 45 16 rfl dL_accounts_13 (by decide) ?_ ?_
    · refine sm_iconst (x := (0 : Int32)) hG 46 rfl dL_accounts_45 rfl ?_
      exact sm_bret hG hT (by decide) dL_accounts_46 rfl
    · refine sm_aload_n hG 17 rfl dL_accounts_16 rfl 0 rfl ?_
      refine sm_callV hG (fun (q : Int32) => (some (Value.int q), v)) (0, 0, 0) [] 20 rfl (ok0 hC) (ce_0 hC _) (ci := 6) rfl (fun r_ hr_ => c_X6_collected hC   hr_) gL_accounts_X6_collected rfl (by decide) (by decide) (n := 0) rfl (Nat.le_of_ble_eq_true rfl) (by decide) (by decide) rfl dL_accounts_17 (fun r_17 => ?_)
      refine sm_iload_n hG 21 rfl dL_accounts_20 rfl 2 rfl ?_
      refine sm_icmp_ne hG 45 24 rfl dL_accounts_21 (by decide) ?_ ?_
      · refine sm_iconst (x := (0 : Int32)) hG 46 rfl dL_accounts_45 rfl ?_
        exact sm_bret hG hT (by decide) dL_accounts_46 rfl
      · refine sm_aload_n hG 25 rfl dL_accounts_24 rfl 0 rfl ?_
        refine sm_callV hG (fun (q : Int32) => (some (Value.int q), v)) (0, 0, 0) [] 28 rfl (ok0 hC) (ce_0 hC _) (ci := 6) rfl (fun r_ hr_ => c_X6_fees hC   hr_) gL_accounts_X6_fees rfl (by decide) (by decide) (n := 0) rfl (Nat.le_of_ble_eq_true rfl) (by decide) (by decide) rfl dL_accounts_25 (fun r_25 => ?_)
        refine sm_iload_n hG 29 rfl dL_accounts_28 rfl 3 rfl ?_
        refine sm_icmp_ne hG 45 32 rfl dL_accounts_29 (by decide) ?_ ?_
        · refine sm_iconst (x := (0 : Int32)) hG 46 rfl dL_accounts_45 rfl ?_
          exact sm_bret hG hT (by decide) dL_accounts_46 rfl
        · refine sm_aload_n hG 33 rfl dL_accounts_32 rfl 0 rfl ?_
          refine sm_callV hG (fun (q : Int32) => (some (Value.int q), v)) (0, 0, 0) [] 36 rfl (ok0 hC) (ce_0 hC _) (ci := 6) rfl (fun r_ hr_ => c_X6_fines hC   hr_) gL_accounts_X6_fines rfl (by decide) (by decide) (n := 0) rfl (Nat.le_of_ble_eq_true rfl) (by decide) (by decide) rfl dL_accounts_33 (fun r_33 => ?_)
          refine sm_iload hG 38 rfl dL_accounts_36 4 rfl ?_
          refine sm_icmp_ne hG 45 41 rfl dL_accounts_38 (by decide) ?_ ?_
          · refine sm_iconst (x := (0 : Int32)) hG 46 rfl dL_accounts_45 rfl ?_
            exact sm_bret hG hT (by decide) dL_accounts_46 rfl
          · refine sm_iconst (x := (1 : Int32)) hG 42 rfl dL_accounts_41 rfl ?_
            refine sm_goto hG 46 dL_accounts_42 (by decide) ?_
            exact sm_bret hG hT (by decide) dL_accounts_46 rfl
abbrev rmL_types : Room := { frames := 2, cells := 0, slots := 0, locals := 42 }
set_option maxRecDepth 100000 in
set_option maxHeartbeats 4000000 in
theorem c_L_types {Λ : jL kC} (hC : LC Λ) {x1 : Int64}  {l : Launch} {v : mC} {r : (Int32 × mC)} (hr_ : f_L_types x1 v = some r) : Ct l yL_types wsL_types rmL_types Λ [.ref (Λ.2.2.2.1 (0, 0, 0)), .long x1] v (some (.int r.1)) r.2 := by
  refine ct_of (cc := cL_types) (maxL := 6) (ret := (some .boolean)) (fun (q : Int32 × mC) => (some (Value.int q.1), q.2)) hC.1 hr_ (by decide) rfl (Nat.le_of_ble_eq_true rfl) (fun Γ hG hT hN hl => ?_)
  subst hl
  have fl244 : Cond.constantLong RL 244 (255 : Int64) ∈ wsL_types := by decide +kernel
  show Sm Γ Λ (0, 0) 0 [(0, .ref (Λ.2.2.2.1 (0, 0, 0))), (1, .long x1)] [] v _
  unfold f_L_types
  refine sm_iconst (x := (1 : Int32)) hG 1 rfl dL_types_0 rfl ?_
  refine sm_istore_n hG 2 rfl dL_types_1 rfl (jlt hN rfl) [(3, .int (1 : Int32)), (0, .ref (Λ.2.2.2.1 (0, 0, 0))), (1, .long x1)] rfl ?_
  refine sm_bipush (x := (56 : Int32)) hG 4 rfl dL_types_2 rfl ?_
  refine sm_istore hG 6 rfl dL_types_4 (jlt hN rfl) [(4, .int (56 : Int32)), (3, .int (1 : Int32)), (0, .ref (Λ.2.2.2.1 (0, 0, 0))), (1, .long x1)] rfl ?_
  refine sm_loc [2, 3, 1, 0] [(0, .ref (Λ.2.2.2.1 (0, 0, 0))), (1, .long x1), (3, .int (1 : Int32)), (4, .int (56 : Int32))] rfl ?_
  refine lp_ind (fun (X6 : Int32 → Int32 → mC → Option (Int32 × mC)) => ∀ (x3_6 : Int32) (x4_6 : Int32) (v_6 : mC), Sm Γ Λ (0, 0) 6 [(0, .ref (Λ.2.2.2.1 (0, 0, 0))), (1, .long x1), (3, .int x3_6), (4, .int x4_6)] [] v_6 (X6 x3_6 x4_6 v_6)) (fun _ _ _ => sm_none) (fun self6 hs6 x3_6 x4_6 v_6 => ?_) 8192 _ _ _
  refine sm_iload hG 8 rfl dL_types_6 3 rfl ?_
  refine sm_if_lt hG 53 11 rfl dL_types_8 (by decide) ?_ ?_
  · refine sm_iload_n hG 54 rfl dL_types_53 rfl 2 rfl ?_
    exact sm_bret hG hT (by decide) dL_types_54 rfl
  · refine sl_lload_n hG 12 rfl dL_types_11 rfl 1 rfl ?_
    refine sm_iload hG 14 rfl dL_types_12 3 rfl ?_
    refine sl_lshr hG 15 rfl dL_types_14 ?_
    refine sl_ldc2 hG (x := (255 : Int64)) 18 rfl dL_types_15 fl244 ?_
    refine sl_land hG 19 rfl dL_types_18 ?_
    refine sl_nml (fun y18_1 => ?_)
    refine sl_l2i hG 20 rfl dL_types_19 ?_
    refine sm_istore hG 22 rfl dL_types_20 (jlt hN rfl) [(5, .int y18_1.toInt32), (0, .ref (Λ.2.2.2.1 (0, 0, 0))), (1, .long x1), (3, .int x3_6), (4, .int x4_6)] rfl ?_
    refine sm_iload_n hG 23 rfl dL_types_22 rfl 3 rfl ?_
    refine sm_if_eq hG 45 26 rfl dL_types_23 (by decide) ?_ ?_
    · refine sm_iconst (x := (0 : Int32)) hG 46 rfl dL_types_45 rfl ?_
      refine sm_istore_n hG 47 rfl dL_types_46 rfl (jlt hN rfl) [(3, .int (0 : Int32)), (5, .int y18_1.toInt32), (0, .ref (Λ.2.2.2.1 (0, 0, 0))), (1, .long x1), (4, .int x4_6)] rfl ?_
      refine sm_iinc hG 50 rfl dL_types_47 (j := 4) rfl rfl (jlt hN rfl) [(4, .int (x4_6 + (-8 : Int32))), (3, .int (0 : Int32)), (5, .int y18_1.toInt32), (0, .ref (Λ.2.2.2.1 (0, 0, 0))), (1, .long x1)] rfl ?_
      refine sm_goto hG 6 dL_types_50 (by decide) ?_
      refine sm_loc [3, 4, 1, 0] [(0, .ref (Λ.2.2.2.1 (0, 0, 0))), (1, .long x1), (3, .int (0 : Int32)), (4, .int (x4_6 + (-8 : Int32)))] rfl ?_
      exact hs6 _ _ _
    · refine sm_iload hG 28 rfl dL_types_26 0 rfl ?_
      refine sm_if_eq hG 41 31 rfl dL_types_28 (by decide) ?_ ?_
      · refine sm_iconst (x := (1 : Int32)) hG 42 rfl dL_types_41 rfl ?_
        refine sm_goto hG 46 dL_types_42 (by decide) ?_
        refine sm_istore_n hG 47 rfl dL_types_46 rfl (jlt hN rfl) [(3, .int (1 : Int32)), (5, .int y18_1.toInt32), (0, .ref (Λ.2.2.2.1 (0, 0, 0))), (1, .long x1), (4, .int x4_6)] rfl ?_
        refine sm_iinc hG 50 rfl dL_types_47 (j := 4) rfl rfl (jlt hN rfl) [(4, .int (x4_6 + (-8 : Int32))), (3, .int (1 : Int32)), (5, .int y18_1.toInt32), (0, .ref (Λ.2.2.2.1 (0, 0, 0))), (1, .long x1)] rfl ?_
        refine sm_goto hG 6 dL_types_50 (by decide) ?_
        refine sm_loc [3, 4, 1, 0] [(0, .ref (Λ.2.2.2.1 (0, 0, 0))), (1, .long x1), (3, .int (1 : Int32)), (4, .int (x4_6 + (-8 : Int32)))] rfl ?_
        exact hs6 _ _ _
      · refine sm_aload_n hG 32 rfl dL_types_31 rfl 1 rfl ?_
        refine sm_iload hG 34 rfl dL_types_32 0 rfl ?_
        refine sm_i2c hG 35 rfl dL_types_34 ?_
        refine sm_callV hG (fun (q : Int32 × mC) => (some (Value.int q.1), q.2)) (0, 0, 0) [.int (y18_1.toInt32.toUInt32 % 65536).toInt32] 38 rfl (ok0 hC) (ce_0 hC _) (ci := 6) rfl (fun r_ hr_ => c0n_X6_type hC hr_) gL_types_X6_type rfl (by decide) (by decide) (n := 1) rfl (Nat.le_of_ble_eq_true rfl) (by decide) (by decide) rfl dL_types_35 (fun r_35 => ?_)
        refine sm_if_le hG 45 41 rfl dL_types_38 (by decide) ?_ ?_
        · refine sm_iconst (x := (0 : Int32)) hG 46 rfl dL_types_45 rfl ?_
          refine sm_istore_n hG 47 rfl dL_types_46 rfl (jlt hN rfl) [(3, .int (0 : Int32)), (5, .int y18_1.toInt32), (0, .ref (Λ.2.2.2.1 (0, 0, 0))), (1, .long x1), (4, .int x4_6)] rfl ?_
          refine sm_iinc hG 50 rfl dL_types_47 (j := 4) rfl rfl (jlt hN rfl) [(4, .int (x4_6 + (-8 : Int32))), (3, .int (0 : Int32)), (5, .int y18_1.toInt32), (0, .ref (Λ.2.2.2.1 (0, 0, 0))), (1, .long x1)] rfl ?_
          refine sm_goto hG 6 dL_types_50 (by decide) ?_
          refine sm_loc [3, 4, 1, 0] [(0, .ref (Λ.2.2.2.1 (0, 0, 0))), (1, .long x1), (3, .int (0 : Int32)), (4, .int (x4_6 + (-8 : Int32)))] rfl ?_
          exact hs6 _ _ _
        · refine sm_iconst (x := (1 : Int32)) hG 42 rfl dL_types_41 rfl ?_
          refine sm_goto hG 46 dL_types_42 (by decide) ?_
          refine sm_istore_n hG 47 rfl dL_types_46 rfl (jlt hN rfl) [(3, .int (1 : Int32)), (5, .int y18_1.toInt32), (0, .ref (Λ.2.2.2.1 (0, 0, 0))), (1, .long x1), (4, .int x4_6)] rfl ?_
          refine sm_iinc hG 50 rfl dL_types_47 (j := 4) rfl rfl (jlt hN rfl) [(4, .int (x4_6 + (-8 : Int32))), (3, .int (1 : Int32)), (5, .int y18_1.toInt32), (0, .ref (Λ.2.2.2.1 (0, 0, 0))), (1, .long x1)] rfl ?_
          refine sm_goto hG 6 dL_types_50 (by decide) ?_
          refine sm_loc [3, 4, 1, 0] [(0, .ref (Λ.2.2.2.1 (0, 0, 0))), (1, .long x1), (3, .int (1 : Int32)), (4, .int (x4_6 + (-8 : Int32)))] rfl ?_
          exact hs6 _ _ _
abbrev rmL_isError : Room := { frames := 9, cells := 0, slots := 0, locals := 234 }
set_option maxRecDepth 100000 in
set_option maxHeartbeats 4000000 in
theorem c_L_isError {Λ : jL kC} (hC : LC Λ) {x1 : Int64} {x3 : Int64} {x5 : Int32}  {l : Launch} {v : mC} {r : (Int32 × mC)} (hr_ : f_L_isError x1 x3 x5 v = some r) : Ct l yL_isError wsL_isError rmL_isError Λ [.ref (Λ.2.2.2.1 (0, 0, 0)), .long x1, .long x3, .int x5] v (some (.int r.1)) r.2 := by
  refine ct_of (cc := cL_isError) (maxL := 6) (ret := (some .boolean)) (fun (q : Int32 × mC) => (some (Value.int q.1), q.2)) hC.1 hr_ (by decide) rfl (Nat.le_of_ble_eq_true rfl) (fun Γ hG hT hN hl => ?_)
  subst hl
  show Sm Γ Λ (0, 0) 0 [(0, .ref (Λ.2.2.2.1 (0, 0, 0))), (1, .long x1), (3, .long x3), (5, .int x5)] [] v _
  unfold f_L_isError
  refine sm_aload_n hG 1 rfl dL_isError_0 rfl 0 rfl ?_
  refine sm_callV hG (fun (q : Int32 × mC) => (some (Value.int q.1), q.2)) (0, 0, 0) [] 4 rfl (ok0 hC) (ce_0 hC _) (ci := 6) rfl (fun r_ hr_ => c_X6_clearLetter hC   hr_) gL_isError_X6_clearLetter rfl (by decide) (by decide) (n := 0) rfl (Nat.le_of_ble_eq_true rfl) (by decide) (by decide) rfl dL_isError_1 (fun r_1 => ?_)
  refine sm_if_lt hG 36 7 rfl dL_isError_4 (by decide) ?_ ?_
  · refine sm_iconst (x := (0 : Int32)) hG 37 rfl dL_isError_36 rfl ?_
    exact sm_bret hG hT (by decide) dL_isError_37 rfl
  · refine sm_aload_n hG 8 rfl dL_isError_7 rfl 0 rfl ?_
    refine sl_lload_n hG 9 rfl dL_isError_8 rfl 1 rfl ?_
    refine sm_callS hG (fun (q : Int32 × mC) => (some (Value.int q.1), q.2)) [.ref (Λ.2.2.2.1 (0, 0, 0)), .long x1] 12 rfl (fun r_ hr_ => c_L_types hC   hr_) gL_isError_L_types rfl (by decide) (by decide) (n := 2) rfl (Nat.le_of_ble_eq_true rfl) (by decide) (by decide) rfl dL_isError_9 (fun r_9 => ?_)
    refine sm_if_eq hG 36 15 rfl dL_isError_12 (by decide) ?_ ?_
    · refine sm_iconst (x := (0 : Int32)) hG 37 rfl dL_isError_36 rfl ?_
      exact sm_bret hG hT (by decide) dL_isError_37 rfl
    · refine sm_aload_n hG 16 rfl dL_isError_15 rfl 0 rfl ?_
      refine sl_lload_n hG 17 rfl dL_isError_16 rfl 2 rfl ?_
      refine sm_callS hG (fun (q : Int32 × mC) => (some (Value.int q.1), q.2)) [.ref (Λ.2.2.2.1 (0, 0, 0)), .long x3] 20 rfl (fun r_ hr_ => c_L_types hC   hr_) gL_isError_L_types rfl (by decide) (by decide) (n := 2) rfl (Nat.le_of_ble_eq_true rfl) (by decide) (by decide) rfl dL_isError_17 (fun r_17 => ?_)
      refine sm_if_eq hG 36 23 rfl dL_isError_20 (by decide) ?_ ?_
      · refine sm_iconst (x := (0 : Int32)) hG 37 rfl dL_isError_36 rfl ?_
        exact sm_bret hG hT (by decide) dL_isError_37 rfl
      · refine sm_aload_n hG 24 rfl dL_isError_23 rfl 0 rfl ?_
        refine sm_callV hG (fun (q : Int32 × mC) => (some (Value.int q.1), q.2)) (0, 0, 0) [] 27 rfl (ok0 hC) (ce_0 hC _) (ci := 6) rfl (fun r_ hr_ => c_X6_letterError hC   hr_) gL_isError_X6_letterError rfl (by decide) (by decide) (n := 0) rfl (Nat.le_of_ble_eq_true rfl) (by decide) (by decide) rfl dL_isError_24 (fun r_24 => ?_)
        refine sm_iload hG 29 rfl dL_isError_27 3 rfl ?_
        refine sm_icmp_ne hG 36 32 rfl dL_isError_29 (by decide) ?_ ?_
        · refine sm_iconst (x := (0 : Int32)) hG 37 rfl dL_isError_36 rfl ?_
          exact sm_bret hG hT (by decide) dL_isError_37 rfl
        · refine sm_iconst (x := (1 : Int32)) hG 33 rfl dL_isError_32 rfl ?_
          refine sm_goto hG 37 dL_isError_33 (by decide) ?_
          exact sm_bret hG hT (by decide) dL_isError_37 rfl
