/-! the functions do what the fast ones do (printed by wip/p53/gprint.py) -/
set_option maxRecDepth 20000 in
theorem s_X0_advance {o : Nat} {x1 : Int32} {gx1 : Nat} {v : mC} {gv : MG} (h_o : o < 7) (h_x1 : RI x1 gx1) (h_v : RM v gv) : Sim RP (f_X0_advance o x1 v) (g_X0_advance o gx1 gv) := by
  unfold f_X0_advance g_X0_advance
  refine sim_rd h_v (at_n0 (i := 0) (atkb (k := 1) (o := o) (L := 10) (by decide) rfl h_o) (by decide)) (fun y1 ey1 => ?_)
  refine sim_bd (s_X1_nextAfter h_o ey1 h_v) (fun r_18 gr_18 h_r_18 => ?_)
  refine lp_sim (fun (X : Int32 → Int32 → Int32 → mC → Option (Int32 × mC)) (X2 : Nat → Nat → Nat → MG → Option (Nat × MG)) => ∀ (a0 : Int32) (b0 : Nat) (a1 : Int32) (b1 : Nat) (a2 : Int32) (b2 : Nat) (a3 : mC) (b3 : MG), RI a0 b0 → RI a1 b1 → RI a2 b2 → RM a3 b3 → Sim RP (X a0 a1 a2 a3) (X2 b0 b1 b2 b3)) (fun _ _ _ _ _ _ _ _ _ _ _ _ => sim_none) (fun self gself hself => ?_) 8192 _ _ _ _ _ _ _ _ (qi_lit 0) h_r_18 (qi_lit 0) h_v
  · exact sl_X0_advance_26 h_o h_x1 h_v hself
set_option maxRecDepth 20000 in
theorem s_X6_passDays {x1 : Int32} {gx1 : Nat} {v : mC} {gv : MG} (h_x1 : RI x1 gx1) (h_v : RM v gv) : Sim RT (f_X6_passDays x1 v) (g_X6_passDays gx1 gv) := by
  unfold f_X6_passDays g_X6_passDays
  refine sim_bd (s_X0_refusalToAdvance (by decide) h_x1 h_v) (fun r_5 gr_5 h_r_5 => ?_)
  refine sim_tb (s_X6_refuseIf h_r_5 h_v) (fun r_8 gr_8 h_r_8 w_8 gw_8 h_w_8 => ?_)
  refine sim_bd (s_X6_keepState h_w_8) (fun r_12 gr_12 h_r_12 => ?_)
  refine sim_bd (s_X0_advance (by decide) h_x1 h_r_12) (fun r_24 gr_24 h_r_24 => ?_)
  exact sim_T h_r_24.1 h_r_24.2
set_option maxRecDepth 20000 in
theorem s_X2_isFull {v : mC} {gv : MG} (h_v : RM v gv) : Sim RI (f_X2_isFull v) (g_X2_isFull gv) := by
  unfold f_X2_isFull g_X2_isFull
  refine sim_rd h_v (at_n0 (i := 1) (atk0 (k := 32) (L := 6) (by decide) rfl) (by decide)) (fun y1 ey1 => ?_)
  refine sim_if (ic_lt ey1 (qi_lit 80)) ?_ ?_
  · refine sim_zb0 ?_
    exact sim_Iv (qi_lit 0)
  · refine sim_zb1 ?_
    exact sim_Iv (qi_lit 1)
set_option maxRecDepth 20000 in
theorem s_X2_append {x1 : Int32} {gx1 : Nat} {v : mC} {gv : MG} (h_x1 : RI x1 gx1) (h_v : RM v gv) : Sim RP (f_X2_append x1 v) (g_X2_append gx1 gv) := by
  unfold f_X2_append g_X2_append
  refine sim_rd h_v (at_n0 (i := 1) (atk0 (k := 32) (L := 6) (by decide) rfl) (by decide)) (fun y1 ey1 => ?_)
  refine sim_inb ey1 (by decide) (fun hc2 => ?_)
  refine sim_sq (ia_nar h_x1) (fun y3 ey3 => ?_)
  refine sim_wr h_v (at_x0 (atk0 (k := 33) (L := 80) (by decide) rfl) ey1 hc2 (by decide)) ey3 (fun w9_1 gw9_1 h_w9_1 => ?_)
  refine sim_rd h_w9_1 (at_n0 (i := 1) (atk0 (k := 32) (L := 6) (by decide) rfl) (by decide)) (fun y4 ey4 => ?_)
  refine sim_sq (ia_add ey4 (qi_lit 1)) (fun y5 ey5 => ?_)
  refine sim_wr h_w9_1 (at_n0 (i := 1) (atk0 (k := 32) (L := 6) (by decide) rfl) (by decide)) ey5 (fun w17_2 gw17_2 h_w17_2 => ?_)
  refine sim_rd h_w17_2 (at_n0 (i := 1) (atk0 (k := 32) (L := 6) (by decide) rfl) (by decide)) (fun y6 ey6 => ?_)
  exact sim_P ey6 h_w17_2
set_option maxRecDepth 20000 in
theorem s_X6_type {x1 : Int32} {gx1 : Nat} {v : mC} {gv : MG} (h_x1 : RI x1 gx1) (h_v : RM v gv) : Sim RT (f_X6_type x1 v) (g_X6_type gx1 gv) := by
  unfold f_X6_type g_X6_type
  refine sim_jn (fun (X : Int32 → Option (Int32 × Nat × mC)) (X2 : Nat → Option (Nat × Nat × MG)) => ∀ (a0 : Int32) (b0 : Nat), RI a0 b0 → Sim RT (X a0) (X2 b0)) ?_ (fun j15 gj15 h_j15 => ?_)
  · intro s0_15 gs0_15 h_s0_15
    refine sim_tb (s_X6_refuseIf h_s0_15 h_v) (fun r_15 gr_15 h_r_15 w_15 gw_15 h_w_15 => ?_)
    refine sim_bd (s_X2_append h_x1 h_w_15) (fun r_23 gr_23 h_r_23 => ?_)
    exact sim_T h_r_23.1 h_r_23.2
  · refine sim_bd (s_X2_isFull h_v) (fun r_4 gr_4 h_r_4 => ?_)
    refine sim_if (ic_eq h_r_4 (qi_lit 0)) ?_ ?_
    · exact h_j15 _ _ (qi_lit 0)
    · exact h_j15 _ _ (qi_lit 3)
set_option maxRecDepth 20000 in
theorem s_X2_empty {v : mC} {gv : MG} (h_v : RM v gv) : Sim RP (f_X2_empty v) (g_X2_empty gv) := by
  unfold f_X2_empty g_X2_empty
  refine sim_wr h_v (at_n0 (i := 1) (atk0 (k := 32) (L := 6) (by decide) rfl) (by decide)) (qi_lit 0) (fun w7_1 gw7_1 h_w7_1 => ?_)
  refine sim_rd h_v (at_n0 (i := 1) (atk0 (k := 32) (L := 6) (by decide) rfl) (by decide)) (fun y1 ey1 => ?_)
  exact sim_P ey1 h_w7_1
set_option maxRecDepth 20000 in
theorem s_X6_clearLetter {v : mC} {gv : MG} (h_v : RM v gv) : Sim RP (f_X6_clearLetter v) (g_X6_clearLetter gv) := by
  unfold f_X6_clearLetter g_X6_clearLetter
  refine sim_bd (s_X2_empty h_v) (fun r_4 gr_4 h_r_4 => ?_)
  exact sim_P h_r_4.1 h_r_4.2
set_option maxRecDepth 20000 in
theorem s_X2_goTo {x1 : Int32} {gx1 : Nat} {v : mC} {gv : MG} (h_x1 : RI x1 gx1) (h_v : RM v gv) : Sim RM (f_X2_goTo x1 v) (g_X2_goTo gx1 gv) := by
  unfold f_X2_goTo g_X2_goTo
  refine sim_wr h_v (at_n0 (i := 2) (atk0 (k := 32) (L := 6) (by decide) rfl) (by decide)) h_x1 (fun w2_1 gw2_1 h_w2_1 => ?_)
  exact sim_some h_w2_1
set_option maxRecDepth 20000 in
theorem s_X2_isAtEnd {v : mC} {gv : MG} (h_v : RM v gv) : Sim RI (f_X2_isAtEnd v) (g_X2_isAtEnd gv) := by
  unfold f_X2_isAtEnd g_X2_isAtEnd
  refine sim_rd h_v (at_n0 (i := 2) (atk0 (k := 32) (L := 6) (by decide) rfl) (by decide)) (fun y1 ey1 => ?_)
  refine sim_rd h_v (at_n0 (i := 1) (atk0 (k := 32) (L := 6) (by decide) rfl) (by decide)) (fun y2 ey2 => ?_)
  refine sim_if (ic_lt ey1 ey2) ?_ ?_
  · refine sim_zb0 ?_
    exact sim_Iv (qi_lit 0)
  · refine sim_zb1 ?_
    exact sim_Iv (qi_lit 1)
set_option maxRecDepth 20000 in
theorem s_X2_stands {x1 : Int32} {gx1 : Nat} {v : mC} {gv : MG} (h_x1 : RI x1 gx1) (h_v : RM v gv) : Sim RI (f_X2_stands x1 v) (g_X2_stands gx1 gv) := by
  unfold f_X2_stands g_X2_stands
  refine sim_rd h_v (at_n0 (i := 1) (atk0 (k := 32) (L := 6) (by decide) rfl) (by decide)) (fun y1 ey1 => ?_)
  refine sim_rd h_v (at_n0 (i := 2) (atk0 (k := 32) (L := 6) (by decide) rfl) (by decide)) (fun y2 ey2 => ?_)
  refine sim_if (ic_le ey1 ey2) ?_ ?_
  · refine sim_zb0 ?_
    exact sim_Iv (qi_lit 0)
  · refine sim_inb ey2 (by decide) (fun hc3 => ?_)
    refine sim_rd h_v (at_x0 (atk0 (k := 33) (L := 80) (by decide) rfl) ey2 hc3 (by decide)) (fun y4 ey4 => ?_)
    refine sim_if (ic_eq ey4 h_x1) ?_ ?_
    · refine sim_zb1 ?_
      exact sim_Iv (qi_lit 1)
    · refine sim_zb0 ?_
      exact sim_Iv (qi_lit 0)
set_option maxRecDepth 20000 in
theorem s_X2_skip {x1 : Int32} {gx1 : Nat} {v : mC} {gv : MG} (h_x1 : RI x1 gx1) (h_v : RM v gv) : Sim RP (f_X2_skip x1 v) (g_X2_skip gx1 gv) := by
  unfold f_X2_skip g_X2_skip
  refine sim_bd (s_X2_stands h_x1 h_v) (fun r_2 gr_2 h_r_2 => ?_)
  refine sim_if (ic_eq h_r_2 (qi_lit 0)) ?_ ?_
  · refine sim_zb0 ?_
    exact sim_P (qi_lit 0) h_v
  · refine sim_rd h_v (at_n0 (i := 2) (atk0 (k := 32) (L := 6) (by decide) rfl) (by decide)) (fun y1 ey1 => ?_)
    refine sim_sq (ia_add ey1 (qi_lit 1)) (fun y2 ey2 => ?_)
    refine sim_wr h_v (at_n0 (i := 2) (atk0 (k := 32) (L := 6) (by decide) rfl) (by decide)) ey2 (fun w17_1 gw17_1 h_w17_1 => ?_)
    refine sim_zb1 ?_
    exact sim_P (qi_lit 1) h_w17_1
set_option maxRecDepth 20000 in
theorem sl_X2_canBegin_22 {x1 : Int32} {gx1 : Nat} {x2 : Int32} {gx2 : Nat} {self22 : Int32 → Int32 → Int32 → Option Int32} {gself22 : Nat → Nat → Nat → Option Nat} (h_x1 : RI x1 gx1) (h_x2 : RI x2 gx2) (h_self22 : (fun (X : Int32 → Int32 → Int32 → Option Int32) (X2 : Nat → Nat → Nat → Option Nat) => ∀ (a0 : Int32) (b0 : Nat) (a1 : Int32) (b1 : Nat) (a2 : Int32) (b2 : Nat), RI a0 b0 → RI a1 b1 → RI a2 b2 → Sim RI (X a0 a1 a2) (X2 b0 b1 b2)) self22 gself22) : (fun (X : Int32 → Int32 → Int32 → Option Int32) (X2 : Nat → Nat → Nat → Option Nat) => ∀ (a0 : Int32) (b0 : Nat) (a1 : Int32) (b1 : Nat) (a2 : Int32) (b2 : Nat), RI a0 b0 → RI a1 b1 → RI a2 b2 → Sim RI (X a0 a1 a2) (X2 b0 b1 b2)) (L_X2_canBegin_22 x1 x2 self22) (GL_X2_canBegin_22 gx1 gx2 gself22) := by
  intro x3_22 gx3_22 x4_22 gx4_22 x5_22 gx5_22 h_x3_22 h_x4_22 h_x5_22
  show Sim RI _ _
  unfold L_X2_canBegin_22 GL_X2_canBegin_22
  show Sim RI _ _
  refine sim_if (ic_le (qi_lit 4) h_x5_22) ?_ ?_
  · refine sim_zb0 ?_
    exact sim_Iv (qi_lit 0)
  · refine sim_if (ic_lt h_x2 h_x3_22) ?_ ?_
    · refine sim_zb0 ?_
      exact sim_Iv (qi_lit 0)
    · refine sim_if (ic_lt h_x4_22 h_x1) ?_ ?_
      · refine sim_sq (ia_mul h_x3_22 (qi_lit 10)) (fun y1 ey1 => ?_)
        refine sim_sq (ia_add (ia_mul h_x4_22 (qi_lit 10)) (qi_lit 9)) (fun y2 ey2 => ?_)
        refine sim_sq (ia_add h_x5_22 (qi_lit 1)) (fun y3 ey3 => ?_)
        exact h_self22 _ _ _ _ _ _ ey1 ey2 ey3
      · refine sim_zb1 ?_
        exact sim_Iv (qi_lit 1)
set_option maxRecDepth 20000 in
theorem s_X2_canBegin {x0 : Int32} {gx0 : Nat} {x1 : Int32} {gx1 : Nat} {x2 : Int32} {gx2 : Nat} {v : mC} {gv : MG} (h_x0 : RI x0 gx0) (h_x1 : RI x1 gx1) (h_x2 : RI x2 gx2) (h_v : RM v gv) : Sim RI (f_X2_canBegin x0 x1 x2 v) (g_X2_canBegin gx0 gx1 gx2 gv) := by
  unfold f_X2_canBegin g_X2_canBegin
  refine sim_if (ic_eq h_x0 (qi_lit 0)) ?_ ?_
  · refine sim_if (ic_eq h_x1 (qi_lit 0)) ?_ ?_
    · refine sim_zb1 ?_
      exact sim_Iv (qi_lit 1)
    · refine sim_zb0 ?_
      exact sim_Iv (qi_lit 0)
  · refine lp_sim (fun (X : Int32 → Int32 → Int32 → Option Int32) (X2 : Nat → Nat → Nat → Option Nat) => ∀ (a0 : Int32) (b0 : Nat) (a1 : Int32) (b1 : Nat) (a2 : Int32) (b2 : Nat), RI a0 b0 → RI a1 b1 → RI a2 b2 → Sim RI (X a0 a1 a2) (X2 b0 b1 b2)) (fun _ _ _ _ _ _ _ _ _ => sim_none) (fun self gself hself => ?_) 8192 _ _ _ _ _ _ h_x0 h_x0 (qi_lit 0)
    · exact sl_X2_canBegin_22 h_x1 h_x2 hself
set_option maxRecDepth 20000 in
theorem sl_X2_readNumber_7 {x1 : Int32} {gx1 : Nat} {x2 : Int32} {gx2 : Nat} {self7 : Int32 → mC → Option (Int32 × mC)} {gself7 : Nat → MG → Option (Nat × MG)} (h_x1 : RI x1 gx1) (h_x2 : RI x2 gx2) (h_self7 : (fun (X : Int32 → mC → Option (Int32 × mC)) (X2 : Nat → MG → Option (Nat × MG)) => ∀ (a0 : Int32) (b0 : Nat) (a1 : mC) (b1 : MG), RI a0 b0 → RM a1 b1 → Sim RP (X a0 a1) (X2 b0 b1)) self7 gself7) : (fun (X : Int32 → mC → Option (Int32 × mC)) (X2 : Nat → MG → Option (Nat × MG)) => ∀ (a0 : Int32) (b0 : Nat) (a1 : mC) (b1 : MG), RI a0 b0 → RM a1 b1 → Sim RP (X a0 a1) (X2 b0 b1)) (L_X2_readNumber_7 x1 x2 self7) (GL_X2_readNumber_7 gx1 gx2 gself7) := by
  intro x3_7 gx3_7 v_7 gv_7 h_x3_7 h_v_7
  show Sim RP _ _
  unfold L_X2_readNumber_7 GL_X2_readNumber_7
  show Sim RP _ _
  refine sim_jn (fun (X : Unit → Option (Int32 × mC)) (X2 : Unit → Option (Nat × MG)) => Sim RP (X ()) (X2 ())) ?_ (fun j116 gj116 h_j116 => ?_)
  · refine sim_if (ic_le h_x3_7 (qi_lit 0)) ?_ ?_
    · refine sim_zb0 ?_
      exact sim_P (qi_lit 0) h_v_7
    · refine sim_rd h_v_7 (at_n0 (i := 5) (atk0 (k := 32) (L := 6) (by decide) rfl) (by decide)) (fun y1 ey1 => ?_)
      refine sim_bd (s_X6_isWithin ey1 h_x1 h_x2 h_v_7) (fun r_126 gr_126 h_r_126 => ?_)
      refine sim_if (ic_eq h_r_126 (qi_lit 0)) ?_ ?_
      · refine sim_zb0 ?_
        exact sim_P (qi_lit 0) h_v_7
      · refine sim_zb1 ?_
        exact sim_P (qi_lit 1) h_v_7
  · refine sim_rd h_v_7 (at_n0 (i := 1) (atk0 (k := 32) (L := 6) (by decide) rfl) (by decide)) (fun y2 ey2 => ?_)
    refine sim_rd h_v_7 (at_n0 (i := 2) (atk0 (k := 32) (L := 6) (by decide) rfl) (by decide)) (fun y3 ey3 => ?_)
    refine sim_if (ic_le ey2 ey3) ?_ ?_
    · exact h_j116 
    · refine sim_inb ey3 (by decide) (fun hc4 => ?_)
      refine sim_rd h_v_7 (at_x0 (atk0 (k := 33) (L := 80) (by decide) rfl) ey3 hc4 (by decide)) (fun y5 ey5 => ?_)
      refine sim_bd (s_X6_isWithin ey5 (qi_lit 48) (qi_lit 57) h_v_7) (fun r_31 gr_31 h_r_31 => ?_)
      refine sim_if (ic_eq h_r_31 (qi_lit 0)) ?_ ?_
      · exact h_j116 
      · refine sim_jn (fun (X : Int32 → Int32 → Option (Int32 × mC)) (X2 : Nat → Nat → Option (Nat × MG)) => ∀ (a0 : Int32) (b0 : Nat) (a1 : Int32) (b1 : Nat), RI a0 b0 → RI a1 b1 → Sim RP (X a0 a1) (X2 b0 b1)) ?_ (fun j75 gj75 h_j75 => ?_)
        · intro x4_75 gx4_75 s0_75 gs0_75 h_x4_75 h_s0_75
          refine sim_if (ic_eq h_s0_75 (qi_lit 0)) ?_ ?_
          · refine sim_bd (s_X2_canBegin h_x4_75 h_x1 h_x2 h_v_7) (fun r_86 gr_86 h_r_86 => ?_)
            refine sim_if (ic_eq h_r_86 (qi_lit 0)) ?_ ?_
            · refine sim_zb0 ?_
              exact sim_P (qi_lit 0) h_v_7
            · refine sim_wr h_v_7 (at_n0 (i := 5) (atk0 (k := 32) (L := 6) (by decide) rfl) (by decide)) h_x4_75 (fun w97_3 gw97_3 h_w97_3 => ?_)
              refine sim_rd h_w97_3 (at_n0 (i := 2) (atk0 (k := 32) (L := 6) (by decide) rfl) (by decide)) (fun y6 ey6 => ?_)
              refine sim_sq (ia_add ey6 (qi_lit 1)) (fun y7 ey7 => ?_)
              refine sim_wr h_w97_3 (at_n0 (i := 2) (atk0 (k := 32) (L := 6) (by decide) rfl) (by decide)) ey7 (fun w110_4 gw110_4 h_w110_4 => ?_)
              refine sim_sq (ia_add h_x3_7 (qi_lit 1)) (fun y8 ey8 => ?_)
              exact h_self7 _ _ _ _ ey8 h_w110_4
          · refine sim_zb0 ?_
            exact sim_P (qi_lit 0) h_v_7
        · refine sim_jn (fun (X : Int32 → Option (Int32 × mC)) (X2 : Nat → Option (Nat × MG)) => ∀ (a0 : Int32) (b0 : Nat), RI a0 b0 → Sim RP (X a0) (X2 b0)) ?_ (fun j74 gj74 h_j74 => ?_)
          · intro x4_74 gx4_74 h_x4_74
            exact h_j75 _ _ _ _ h_x4_74 (qi_lit 0)
          · refine sim_inb0 ey3 hc4 (by decide) ?_
            refine sim_rd h_v_7 (at_n0 (i := 5) (atk0 (k := 32) (L := 6) (by decide) rfl) (by decide)) (fun y9 ey9 => ?_)
            refine sim_lt (ia_add (ia_mul ey9 (qi_lit 10)) ey5) (fun y53_2 gy53_2 h_y53_2 => ?_)
            refine sim_if (ic_le h_x3_7 (qi_lit 0)) ?_ ?_
            · refine sim_sq (ia_sub h_y53_2 (qi_lit 48)) (fun y10 ey10 => ?_)
              exact h_j74 _ _ ey10
            · refine sim_if (ic_eq ey9 (qi_lit 0)) ?_ ?_
              · refine sim_sq (ia_sub h_y53_2 (qi_lit 48)) (fun y11 ey11 => ?_)
                exact h_j75 _ _ _ _ ey11 (qi_lit 1)
              · refine sim_sq (ia_sub h_y53_2 (qi_lit 48)) (fun y12 ey12 => ?_)
                exact h_j74 _ _ ey12
set_option maxRecDepth 20000 in
theorem s_X2_readNumber {x1 : Int32} {gx1 : Nat} {x2 : Int32} {gx2 : Nat} {v : mC} {gv : MG} (h_x1 : RI x1 gx1) (h_x2 : RI x2 gx2) (h_v : RM v gv) : Sim RP (f_X2_readNumber x1 x2 v) (g_X2_readNumber gx1 gx2 gv) := by
  unfold f_X2_readNumber g_X2_readNumber
  refine sim_wr h_v (at_n0 (i := 5) (atk0 (k := 32) (L := 6) (by decide) rfl) (by decide)) (qi_lit 0) (fun w2_1 gw2_1 h_w2_1 => ?_)
  refine lp_sim (fun (X : Int32 → mC → Option (Int32 × mC)) (X2 : Nat → MG → Option (Nat × MG)) => ∀ (a0 : Int32) (b0 : Nat) (a1 : mC) (b1 : MG), RI a0 b0 → RM a1 b1 → Sim RP (X a0 a1) (X2 b0 b1)) (fun _ _ _ _ _ _ => sim_none) (fun self gself hself => ?_) 8192 _ _ _ _ (qi_lit 0) h_w2_1
  · exact sl_X2_readNumber_7 h_x1 h_x2 hself
set_option maxRecDepth 20000 in
theorem sl_X2_readOrder_49 {w26_2 : mC} {gw26_2 : MG} {self49 : Int32 → mC → Option (Int32 × mC)} {gself49 : Nat → MG → Option (Nat × MG)} (h_w26_2 : RM w26_2 gw26_2) (h_self49 : (fun (X : Int32 → mC → Option (Int32 × mC)) (X2 : Nat → MG → Option (Nat × MG)) => ∀ (a0 : Int32) (b0 : Nat) (a1 : mC) (b1 : MG), RI a0 b0 → RM a1 b1 → Sim RP (X a0 a1) (X2 b0 b1)) self49 gself49) : (fun (X : Int32 → mC → Option (Int32 × mC)) (X2 : Nat → MG → Option (Nat × MG)) => ∀ (a0 : Int32) (b0 : Nat) (a1 : mC) (b1 : MG), RI a0 b0 → RM a1 b1 → Sim RP (X a0 a1) (X2 b0 b1)) (L_X2_readOrder_49 w26_2 self49) (GL_X2_readOrder_49 gw26_2 gself49) := by
  intro x2_49 gx2_49 v_49 gv_49 h_x2_49 h_v_49
  show Sim RP _ _
  unfold L_X2_readOrder_49 GL_X2_readOrder_49
  show Sim RP _ _
  refine sim_rd h_v_49 (at_n0 (i := 3) (atk0 (k := 32) (L := 6) (by decide) rfl) (by decide)) (fun y1 ey1 => ?_)
  refine sim_sq (ia_add ey1 (qi_lit 1)) (fun y2 ey2 => ?_)
  refine sim_inb ey2 (by decide) (fun hc3 => ?_)
  refine sim_lt (ia_T_FP ey2 (Nat.lt_of_lt_of_le hc3 (Nat.le_of_ble_eq_true rfl))) (fun y59_3 gy59_3 h_y59_3 => ?_)
  refine sim_if (ic_le h_y59_3 h_x2_49) ?_ ?_
  · refine sim_zb1 ?_
    exact sim_P (qi_lit 1) h_v_49
  · refine sim_jn (fun (X : mC → Option (Int32 × mC)) (X2 : MG → Option (Nat × MG)) => ∀ (a0 : mC) (b0 : MG), RM a0 b0 → Sim RP (X a0) (X2 b0)) ?_ (fun j121 gj121 h_j121 => ?_)
    · intro v_121 gv_121 h_v_121
      refine sim_rd h_w26_2 (at_n0 (i := 3) (atk0 (k := 32) (L := 6) (by decide) rfl) (by decide)) (fun y4 ey4 => ?_)
      refine sim_chk (fun hc5 => ?_)
      refine sim_sq (ia_sub h_x2_49 (ia_T_FP ey4 hc5)) (fun y6 ey6 => ?_)
      refine sim_inb ey6 (by decide) (fun hc7 => ?_)
      refine sim_rd h_v_121 (at_n0 (i := 5) (atk0 (k := 32) (L := 6) (by decide) rfl) (by decide)) (fun y8 ey8 => ?_)
      refine sim_wr h_v_121 (at_x0 (atk0 (k := 34) (L := 5) (by decide) rfl) ey6 hc7 (by decide)) ey8 (fun w132_5 gw132_5 h_w132_5 => ?_)
      refine sim_sq (ia_add h_x2_49 (qi_lit 1)) (fun y9 ey9 => ?_)
      exact h_self49 _ _ _ _ ey9 h_w132_5
    · refine sim_jn (fun (X : Unit → Option (Int32 × mC)) (X2 : Unit → Option (Nat × MG)) => Sim RP (X ()) (X2 ())) ?_ (fun j89 gj89 h_j89 => ?_)
      · refine sim_inb h_x2_49 (by decide) (fun hc10 => ?_)
        refine sim_sq (ia_PS h_x2_49 (Nat.lt_of_lt_of_le hc10 (Nat.le_of_ble_eq_true rfl))) (fun y11 ey11 => ?_)
        refine sim_bd (s_X2_skip ey11 h_v_49) (fun r_96 gr_96 h_r_96 => ?_)
        refine sim_if (ic_eq h_r_96.1 (qi_lit 0)) ?_ ?_
        · refine sim_zb0 ?_
          exact sim_P (qi_lit 0) h_r_96.2
        · refine sim_inb0 h_x2_49 hc10 (by decide) ?_
          refine sim_inb0 h_x2_49 hc10 (by decide) ?_
          refine sim_sq (ia_T_LN h_x2_49 (Nat.lt_of_lt_of_le hc10 (Nat.le_of_ble_eq_true rfl))) (fun y12 ey12 => ?_)
          refine sim_sq (ia_T_GN h_x2_49 (Nat.lt_of_lt_of_le hc10 (Nat.le_of_ble_eq_true rfl))) (fun y13 ey13 => ?_)
          refine sim_bd (s_X2_readNumber ey12 ey13 h_r_96.2) (fun r_113 gr_113 h_r_113 => ?_)
          refine sim_if (ic_eq h_r_113.1 (qi_lit 0)) ?_ ?_
          · refine sim_zb0 ?_
            exact sim_P (qi_lit 0) h_r_113.2
          · exact h_j121 _ _ h_r_113.2
      · refine sim_if (ic_eq h_x2_49 (qi_lit 4)) ?_ ?_
        · refine sim_inb h_x2_49 (by decide) (fun hc14 => ?_)
          refine sim_sq (ia_PS h_x2_49 (Nat.lt_of_lt_of_le hc14 (Nat.le_of_ble_eq_true rfl))) (fun y15 ey15 => ?_)
          refine sim_bd (s_X2_stands ey15 h_v_49) (fun r_75 gr_75 h_r_75 => ?_)
          refine sim_if (ic_eq h_r_75 (qi_lit 0)) ?_ ?_
          · refine sim_wr h_v_49 (at_n0 (i := 5) (atk0 (k := 32) (L := 6) (by decide) rfl) (by decide)) (qi_lit 0) (fun w83_4 gw83_4 h_w83_4 => ?_)
            exact h_j121 _ _ h_w83_4
          · exact h_j89 
        · exact h_j89 
set_option maxRecDepth 20000 in
theorem s_X2_readOrder {v : mC} {gv : MG} (h_v : RM v gv) : Sim RP (f_X2_readOrder v) (g_X2_readOrder gv) := by
  unfold f_X2_readOrder g_X2_readOrder
  refine sim_jn (fun (X : Int32 → Option (Int32 × mC)) (X2 : Nat → Option (Nat × MG)) => ∀ (a0 : Int32) (b0 : Nat), RI a0 b0 → Sim RP (X a0) (X2 b0)) ?_ (fun j26 gj26 h_j26 => ?_)
  · intro s0_26 gs0_26 h_s0_26
    refine sim_wr h_v (at_n0 (i := 3) (atk0 (k := 32) (L := 6) (by decide) rfl) (by decide)) h_s0_26 (fun w26_2 gw26_2 h_w26_2 => ?_)
    refine sim_rd h_w26_2 (at_n0 (i := 3) (atk0 (k := 32) (L := 6) (by decide) rfl) (by decide)) (fun y1 ey1 => ?_)
    refine sim_if (ic_le (qi_lit 0) ey1) ?_ ?_
    · refine sim_inb ey1 (by decide) (fun hc2 => ?_)
      refine sim_sq (ia_T_FP ey1 (Nat.lt_of_lt_of_le hc2 (Nat.le_of_ble_eq_true rfl))) (fun y3 ey3 => ?_)
      refine lp_sim (fun (X : Int32 → mC → Option (Int32 × mC)) (X2 : Nat → MG → Option (Nat × MG)) => ∀ (a0 : Int32) (b0 : Nat) (a1 : mC) (b1 : MG), RI a0 b0 → RM a1 b1 → Sim RP (X a0 a1) (X2 b0 b1)) (fun _ _ _ _ _ _ => sim_none) (fun self gself hself => ?_) 8192 _ _ _ _ ey3 h_w26_2
      · exact sl_X2_readOrder_49 h_w26_2 hself
    · refine sim_zb0 ?_
      exact sim_P (qi_lit 0) h_w26_2
  · refine sim_bd (s_X2_isAtEnd h_v) (fun r_2 gr_2 h_r_2 => ?_)
    refine sim_if (ic_eq h_r_2 (qi_lit 0)) ?_ ?_
    · refine sim_rd h_v (at_n0 (i := 2) (atk0 (k := 32) (L := 6) (by decide) rfl) (by decide)) (fun y4 ey4 => ?_)
      refine sim_inb ey4 (by decide) (fun hc5 => ?_)
      refine sim_rd h_v (at_x0 (atk0 (k := 33) (L := 80) (by decide) rfl) ey4 hc5 (by decide)) (fun y6 ey6 => ?_)
      refine sim_lt (ia_six ey6) (fun y23_1 gy23_1 h_y23_1 => ?_)
      exact h_j26 _ _ h_y23_1
    · exact h_j26 _ _ il_m1
set_option maxRecDepth 20000 in
theorem sl_X2_findError_7 {self7 : Int32 → mC → Option (Int32 × mC)} {gself7 : Nat → MG → Option (Nat × MG)} (h_self7 : (fun (X : Int32 → mC → Option (Int32 × mC)) (X2 : Nat → MG → Option (Nat × MG)) => ∀ (a0 : Int32) (b0 : Nat) (a1 : mC) (b1 : MG), RI a0 b0 → RM a1 b1 → Sim RP (X a0 a1) (X2 b0 b1)) self7 gself7) : (fun (X : Int32 → mC → Option (Int32 × mC)) (X2 : Nat → MG → Option (Nat × MG)) => ∀ (a0 : Int32) (b0 : Nat) (a1 : mC) (b1 : MG), RI a0 b0 → RM a1 b1 → Sim RP (X a0 a1) (X2 b0 b1)) (L_X2_findError_7 self7) (GL_X2_findError_7 gself7) := by
  intro x1_7 gx1_7 v_7 gv_7 h_x1_7 h_v_7
  show Sim RP _ _
  unfold L_X2_findError_7 GL_X2_findError_7
  show Sim RP _ _
  refine sim_if (ic_le (qi_lit 80) h_x1_7) ?_ ?_
  · refine sim_rd h_v_7 (at_n0 (i := 2) (atk0 (k := 32) (L := 6) (by decide) rfl) (by decide)) (fun y1 ey1 => ?_)
    exact sim_P ey1 h_v_7
  · refine sim_bd (s_X2_readOrder h_v_7) (fun r_14 gr_14 h_r_14 => ?_)
    refine sim_if (ic_eq h_r_14.1 (qi_lit 0)) ?_ ?_
    · refine sim_rd h_r_14.2 (at_n0 (i := 2) (atk0 (k := 32) (L := 6) (by decide) rfl) (by decide)) (fun y2 ey2 => ?_)
      exact sim_P ey2 h_r_14.2
    · refine sim_bd (s_X2_isAtEnd h_r_14.2) (fun r_26 gr_26 h_r_26 => ?_)
      refine sim_if (ic_eq h_r_26 (qi_lit 0)) ?_ ?_
      · refine sim_bd (s_X2_skip (qi_lit 59) h_r_14.2) (fun r_37 gr_37 h_r_37 => ?_)
        refine sim_if (ic_eq h_r_37.1 (qi_lit 0)) ?_ ?_
        · refine sim_rd h_r_37.2 (at_n0 (i := 2) (atk0 (k := 32) (L := 6) (by decide) rfl) (by decide)) (fun y3 ey3 => ?_)
          exact sim_P ey3 h_r_37.2
        · refine sim_sq (ia_add h_x1_7 (qi_lit 1)) (fun y4 ey4 => ?_)
          exact h_self7 _ _ _ _ ey4 h_r_37.2
      · exact sim_P il_m1 h_r_14.2
set_option maxRecDepth 20000 in
theorem s_X2_findError {v : mC} {gv : MG} (h_v : RM v gv) : Sim RP (f_X2_findError v) (g_X2_findError gv) := by
  unfold f_X2_findError g_X2_findError
  refine sim_bd (s_X2_goTo (qi_lit 0) h_v) (fun r_2 gr_2 h_r_2 => ?_)
  refine lp_sim (fun (X : Int32 → mC → Option (Int32 × mC)) (X2 : Nat → MG → Option (Nat × MG)) => ∀ (a0 : Int32) (b0 : Nat) (a1 : mC) (b1 : MG), RI a0 b0 → RM a1 b1 → Sim RP (X a0 a1) (X2 b0 b1)) (fun _ _ _ _ _ _ => sim_none) (fun self gself hself => ?_) 8192 _ _ _ _ (qi_lit 0) h_r_2
  · exact sl_X2_findError_7  hself
set_option maxRecDepth 20000 in
theorem s_X6_letterError {v : mC} {gv : MG} (h_v : RM v gv) : Sim RP (f_X6_letterError v) (g_X6_letterError gv) := by
  unfold f_X6_letterError g_X6_letterError
  refine sim_bd (s_X2_findError h_v) (fun r_4 gr_4 h_r_4 => ?_)
  exact sim_P h_r_4.1 h_r_4.2
set_option maxRecDepth 20000 in
theorem s_X6_refusalOf {x1 : Int32} {gx1 : Nat} {v : mC} {gv : MG} (h_x1 : RI x1 gx1) (h_v : RM v gv) : Sim RI (f_X6_refusalOf x1 v) (g_X6_refusalOf gx1 gv) := by
  unfold f_X6_refusalOf g_X6_refusalOf
  refine sim_swt h_x1 ?_ ?_
  · refine ⟨?_, ⟨?_, ⟨?_, ⟨?_, ⟨?_, ⟨?_, ⟨?_, trivial⟩⟩⟩⟩⟩⟩⟩
    · refine sim_inb0 (qi_lit 0) (by decide) (by decide) ?_
      refine sim_inb0 (qi_lit 1) (by decide) (by decide) ?_
      refine sim_inb0 (qi_lit 2) (by decide) (by decide) ?_
      refine sim_inb0 (qi_lit 3) (by decide) (by decide) ?_
      refine sim_inb0 (qi_lit 4) (by decide) (by decide) ?_
      refine sim_rd h_v (at_x0 (atk0 (k := 34) (L := 5) (by decide) rfl) (qi_lit 0) (by decide) (by decide)) (fun y1 ey1 => ?_)
      refine sim_rd h_v (at_x0 (atk0 (k := 34) (L := 5) (by decide) rfl) (qi_lit 1) (by decide) (by decide)) (fun y2 ey2 => ?_)
      refine sim_rd h_v (at_x0 (atk0 (k := 34) (L := 5) (by decide) rfl) (qi_lit 2) (by decide) (by decide)) (fun y3 ey3 => ?_)
      refine sim_rd h_v (at_x0 (atk0 (k := 34) (L := 5) (by decide) rfl) (qi_lit 3) (by decide) (by decide)) (fun y4 ey4 => ?_)
      refine sim_rd h_v (at_x0 (atk0 (k := 34) (L := 5) (by decide) rfl) (qi_lit 4) (by decide) (by decide)) (fun y5 ey5 => ?_)
      refine sim_bd (s_X0_refusalToEnrol (by decide) ey1 ey2 ey3 ey4 ey5 h_v) (fun r_63 gr_63 h_r_63 => ?_)
      exact sim_Iv h_r_63
    · refine sim_inb0 (qi_lit 0) (by decide) (by decide) ?_
      refine sim_inb0 (qi_lit 1) (by decide) (by decide) ?_
      refine sim_rd h_v (at_x0 (atk0 (k := 34) (L := 5) (by decide) rfl) (qi_lit 0) (by decide) (by decide)) (fun y6 ey6 => ?_)
      refine sim_rd h_v (at_x0 (atk0 (k := 34) (L := 5) (by decide) rfl) (qi_lit 1) (by decide) (by decide)) (fun y7 ey7 => ?_)
      refine sim_bd (s_X0_refusalToAddFeast (by decide) ey6 ey7 h_v) (fun r_77 gr_77 h_r_77 => ?_)
      exact sim_Iv h_r_77
    · refine sim_inb0 (qi_lit 0) (by decide) (by decide) ?_
      refine sim_inb0 (qi_lit 1) (by decide) (by decide) ?_
      refine sim_inb0 (qi_lit 2) (by decide) (by decide) ?_
      refine sim_inb0 (qi_lit 3) (by decide) (by decide) ?_
      refine sim_inb0 (qi_lit 4) (by decide) (by decide) ?_
      refine sim_rd h_v (at_x0 (atk0 (k := 34) (L := 5) (by decide) rfl) (qi_lit 0) (by decide) (by decide)) (fun y8 ey8 => ?_)
      refine sim_rd h_v (at_x0 (atk0 (k := 34) (L := 5) (by decide) rfl) (qi_lit 1) (by decide) (by decide)) (fun y9 ey9 => ?_)
      refine sim_rd h_v (at_x0 (atk0 (k := 34) (L := 5) (by decide) rfl) (qi_lit 2) (by decide) (by decide)) (fun y10 ey10 => ?_)
      refine sim_rd h_v (at_x0 (atk0 (k := 34) (L := 5) (by decide) rfl) (qi_lit 3) (by decide) (by decide)) (fun y11 ey11 => ?_)
      refine sim_rd h_v (at_x0 (atk0 (k := 34) (L := 5) (by decide) rfl) (qi_lit 4) (by decide) (by decide)) (fun y12 ey12 => ?_)
      refine sim_bd (s_X0_refusalToArrange (by decide) ey8 ey9 ey10 ey11 ey12 h_v) (fun r_100 gr_100 h_r_100 => ?_)
      exact sim_Iv h_r_100
    · refine sim_inb0 (qi_lit 0) (by decide) (by decide) ?_
      refine sim_inb0 (qi_lit 1) (by decide) (by decide) ?_
      refine sim_inb0 (qi_lit 2) (by decide) (by decide) ?_
      refine sim_rd h_v (at_x0 (atk0 (k := 34) (L := 5) (by decide) rfl) (qi_lit 0) (by decide) (by decide)) (fun y13 ey13 => ?_)
      refine sim_rd h_v (at_x0 (atk0 (k := 34) (L := 5) (by decide) rfl) (qi_lit 1) (by decide) (by decide)) (fun y14 ey14 => ?_)
      refine sim_rd h_v (at_x0 (atk0 (k := 34) (L := 5) (by decide) rfl) (qi_lit 2) (by decide) (by decide)) (fun y15 ey15 => ?_)
      refine sim_bd (s_X0_refusalToTakeNote (by decide) ey13 ey14 ey15 h_v) (fun r_117 gr_117 h_r_117 => ?_)
      exact sim_Iv h_r_117
    · refine sim_inb0 (qi_lit 0) (by decide) (by decide) ?_
      refine sim_inb0 (qi_lit 1) (by decide) (by decide) ?_
      refine sim_inb0 (qi_lit 2) (by decide) (by decide) ?_
      refine sim_rd h_v (at_x0 (atk0 (k := 34) (L := 5) (by decide) rfl) (qi_lit 0) (by decide) (by decide)) (fun y16 ey16 => ?_)
      refine sim_rd h_v (at_x0 (atk0 (k := 34) (L := 5) (by decide) rfl) (qi_lit 1) (by decide) (by decide)) (fun y17 ey17 => ?_)
      refine sim_rd h_v (at_x0 (atk0 (k := 34) (L := 5) (by decide) rfl) (qi_lit 2) (by decide) (by decide)) (fun y18 ey18 => ?_)
      refine sim_bd (s_X0_refusalToSendAway (by decide) ey16 ey17 ey18 h_v) (fun r_134 gr_134 h_r_134 => ?_)
      exact sim_Iv h_r_134
    · refine sim_inb0 (qi_lit 0) (by decide) (by decide) ?_
      refine sim_rd h_v (at_x0 (atk0 (k := 34) (L := 5) (by decide) rfl) (qi_lit 0) (by decide) (by decide)) (fun y19 ey19 => ?_)
      refine sim_bd (s_X0_refusalToDismiss (by decide) ey19 h_v) (fun r_145 gr_145 h_r_145 => ?_)
      exact sim_Iv h_r_145
    · refine sim_inb0 (qi_lit 0) (by decide) (by decide) ?_
      refine sim_rd h_v (at_x0 (atk0 (k := 34) (L := 5) (by decide) rfl) (qi_lit 0) (by decide) (by decide)) (fun y20 ey20 => ?_)
      refine sim_bd (s_X0_refusalToAdvance (by decide) ey20 h_v) (fun r_156 gr_156 h_r_156 => ?_)
      exact sim_Iv h_r_156
  · exact sim_Iv (qi_lit 3)
set_option maxRecDepth 20000 in
theorem s_X6_obey {x1 : Int32} {gx1 : Nat} {v : mC} {gv : MG} (h_x1 : RI x1 gx1) (h_v : RM v gv) : Sim RM (f_X6_obey x1 v) (g_X6_obey gx1 gv) := by
  unfold f_X6_obey g_X6_obey
  refine sim_swt h_x1 ?_ ?_
  · refine ⟨?_, ⟨?_, ⟨?_, ⟨?_, ⟨?_, ⟨?_, ⟨?_, trivial⟩⟩⟩⟩⟩⟩⟩
    · refine sim_inb0 (qi_lit 0) (by decide) (by decide) ?_
      refine sim_inb0 (qi_lit 1) (by decide) (by decide) ?_
      refine sim_inb0 (qi_lit 2) (by decide) (by decide) ?_
      refine sim_inb0 (qi_lit 3) (by decide) (by decide) ?_
      refine sim_inb0 (qi_lit 4) (by decide) (by decide) ?_
      refine sim_rd h_v (at_x0 (atk0 (k := 34) (L := 5) (by decide) rfl) (qi_lit 0) (by decide) (by decide)) (fun y1 ey1 => ?_)
      refine sim_rd h_v (at_x0 (atk0 (k := 34) (L := 5) (by decide) rfl) (qi_lit 1) (by decide) (by decide)) (fun y2 ey2 => ?_)
      refine sim_rd h_v (at_x0 (atk0 (k := 34) (L := 5) (by decide) rfl) (qi_lit 2) (by decide) (by decide)) (fun y3 ey3 => ?_)
      refine sim_rd h_v (at_x0 (atk0 (k := 34) (L := 5) (by decide) rfl) (qi_lit 3) (by decide) (by decide)) (fun y4 ey4 => ?_)
      refine sim_rd h_v (at_x0 (atk0 (k := 34) (L := 5) (by decide) rfl) (qi_lit 4) (by decide) (by decide)) (fun y5 ey5 => ?_)
      refine sim_bd (s_X0_enrol (by decide) ey1 ey2 ey3 ey4 ey5 h_v) (fun r_63 gr_63 h_r_63 => ?_)
      exact sim_some h_r_63.2
    · refine sim_inb0 (qi_lit 0) (by decide) (by decide) ?_
      refine sim_inb0 (qi_lit 1) (by decide) (by decide) ?_
      refine sim_rd h_v (at_x0 (atk0 (k := 34) (L := 5) (by decide) rfl) (qi_lit 0) (by decide) (by decide)) (fun y6 ey6 => ?_)
      refine sim_rd h_v (at_x0 (atk0 (k := 34) (L := 5) (by decide) rfl) (qi_lit 1) (by decide) (by decide)) (fun y7 ey7 => ?_)
      refine sim_bd (s_X0_addFeast (by decide) ey6 ey7 h_v) (fun r_80 gr_80 h_r_80 => ?_)
      exact sim_some h_r_80.2
    · refine sim_inb0 (qi_lit 0) (by decide) (by decide) ?_
      refine sim_inb0 (qi_lit 1) (by decide) (by decide) ?_
      refine sim_inb0 (qi_lit 2) (by decide) (by decide) ?_
      refine sim_inb0 (qi_lit 3) (by decide) (by decide) ?_
      refine sim_inb0 (qi_lit 4) (by decide) (by decide) ?_
      refine sim_rd h_v (at_x0 (atk0 (k := 34) (L := 5) (by decide) rfl) (qi_lit 0) (by decide) (by decide)) (fun y8 ey8 => ?_)
      refine sim_rd h_v (at_x0 (atk0 (k := 34) (L := 5) (by decide) rfl) (qi_lit 1) (by decide) (by decide)) (fun y9 ey9 => ?_)
      refine sim_rd h_v (at_x0 (atk0 (k := 34) (L := 5) (by decide) rfl) (qi_lit 2) (by decide) (by decide)) (fun y10 ey10 => ?_)
      refine sim_rd h_v (at_x0 (atk0 (k := 34) (L := 5) (by decide) rfl) (qi_lit 3) (by decide) (by decide)) (fun y11 ey11 => ?_)
      refine sim_rd h_v (at_x0 (atk0 (k := 34) (L := 5) (by decide) rfl) (qi_lit 4) (by decide) (by decide)) (fun y12 ey12 => ?_)
      refine sim_bd (s_X0_arrange (by decide) ey8 ey9 ey10 ey11 ey12 h_v) (fun r_106 gr_106 h_r_106 => ?_)
      exact sim_some h_r_106.2
    · refine sim_inb0 (qi_lit 0) (by decide) (by decide) ?_
      refine sim_inb0 (qi_lit 1) (by decide) (by decide) ?_
      refine sim_inb0 (qi_lit 2) (by decide) (by decide) ?_
      refine sim_rd h_v (at_x0 (atk0 (k := 34) (L := 5) (by decide) rfl) (qi_lit 0) (by decide) (by decide)) (fun y13 ey13 => ?_)
      refine sim_rd h_v (at_x0 (atk0 (k := 34) (L := 5) (by decide) rfl) (qi_lit 1) (by decide) (by decide)) (fun y14 ey14 => ?_)
      refine sim_rd h_v (at_x0 (atk0 (k := 34) (L := 5) (by decide) rfl) (qi_lit 2) (by decide) (by decide)) (fun y15 ey15 => ?_)
      refine sim_bd (s_X0_takeNote (by decide) ey13 ey14 ey15 h_v) (fun r_126 gr_126 h_r_126 => ?_)
      exact sim_some h_r_126.2
    · refine sim_inb0 (qi_lit 0) (by decide) (by decide) ?_
      refine sim_inb0 (qi_lit 1) (by decide) (by decide) ?_
      refine sim_inb0 (qi_lit 2) (by decide) (by decide) ?_
      refine sim_rd h_v (at_x0 (atk0 (k := 34) (L := 5) (by decide) rfl) (qi_lit 0) (by decide) (by decide)) (fun y16 ey16 => ?_)
      refine sim_rd h_v (at_x0 (atk0 (k := 34) (L := 5) (by decide) rfl) (qi_lit 1) (by decide) (by decide)) (fun y17 ey17 => ?_)
      refine sim_rd h_v (at_x0 (atk0 (k := 34) (L := 5) (by decide) rfl) (qi_lit 2) (by decide) (by decide)) (fun y18 ey18 => ?_)
      refine sim_bd (s_X0_sendAway (by decide) ey16 ey17 ey18 h_v) (fun r_146 gr_146 h_r_146 => ?_)
      exact sim_some h_r_146.2
    · refine sim_inb0 (qi_lit 0) (by decide) (by decide) ?_
      refine sim_rd h_v (at_x0 (atk0 (k := 34) (L := 5) (by decide) rfl) (qi_lit 0) (by decide) (by decide)) (fun y19 ey19 => ?_)
      refine sim_bd (s_X0_dismiss (by decide) ey19 h_v) (fun r_160 gr_160 h_r_160 => ?_)
      exact sim_some h_r_160.2
    · refine sim_inb0 (qi_lit 0) (by decide) (by decide) ?_
      refine sim_rd h_v (at_x0 (atk0 (k := 34) (L := 5) (by decide) rfl) (qi_lit 0) (by decide) (by decide)) (fun y20 ey20 => ?_)
      refine sim_bd (s_X0_advance (by decide) ey20 h_v) (fun r_178 gr_178 h_r_178 => ?_)
      exact sim_some h_r_178.2
  · exact sim_some h_v
set_option maxRecDepth 20000 in
theorem sl_X6_tryOrders_21 {self21 : Int32 → mC → Option (Int32 × mC)} {gself21 : Nat → MG → Option (Nat × MG)} (h_self21 : (fun (X : Int32 → mC → Option (Int32 × mC)) (X2 : Nat → MG → Option (Nat × MG)) => ∀ (a0 : Int32) (b0 : Nat) (a1 : mC) (b1 : MG), RI a0 b0 → RM a1 b1 → Sim RP (X a0 a1) (X2 b0 b1)) self21 gself21) : (fun (X : Int32 → mC → Option (Int32 × mC)) (X2 : Nat → MG → Option (Nat × MG)) => ∀ (a0 : Int32) (b0 : Nat) (a1 : mC) (b1 : MG), RI a0 b0 → RM a1 b1 → Sim RP (X a0 a1) (X2 b0 b1)) (L_X6_tryOrders_21 self21) (GL_X6_tryOrders_21 gself21) := by
  intro x1_21 gx1_21 v_21 gv_21 h_x1_21 h_v_21
  show Sim RP _ _
  unfold L_X6_tryOrders_21 GL_X6_tryOrders_21
  show Sim RP _ _
  refine sim_if (ic_le (qi_lit 80) h_x1_21) ?_ ?_
  · exact sim_P il_m1 h_v_21
  · refine sim_bd (s_X2_isAtEnd h_v_21) (fun r_31 gr_31 h_r_31 => ?_)
    refine sim_if (ic_eq h_r_31 (qi_lit 0)) ?_ ?_
    · refine sim_bd (s_X2_readOrder h_v_21) (fun r_41 gr_41 h_r_41 => ?_)
      refine sim_if (ic_eq h_r_41.1 (qi_lit 0)) ?_ ?_
      · exact sim_P h_x1_21 h_r_41.2
      · refine sim_rd h_r_41.2 (at_n0 (i := 3) (atk0 (k := 32) (L := 6) (by decide) rfl) (by decide)) (fun y1 ey1 => ?_)
        refine sim_bd (s_X6_refusalOf ey1 h_r_41.2) (fun r_62 gr_62 h_r_62 => ?_)
        refine sim_if (ic_eq h_r_62 (qi_lit 0)) ?_ ?_
        · refine sim_bd (s_X6_obey ey1 h_r_41.2) (fun r_85 gr_85 h_r_85 => ?_)
          refine sim_rd h_r_85 (at_n0 (i := 2) (atk0 (k := 32) (L := 6) (by decide) rfl) (by decide)) (fun y2 ey2 => ?_)
          refine sim_sq (ia_add ey2 (qi_lit 1)) (fun y3 ey3 => ?_)
          refine sim_bd (s_X2_goTo ey3 h_r_85) (fun r_101 gr_101 h_r_101 => ?_)
          refine sim_sq (ia_add h_x1_21 (qi_lit 1)) (fun y4 ey4 => ?_)
          exact h_self21 _ _ _ _ ey4 h_r_101
        · exact sim_P h_x1_21 h_r_41.2
    · exact sim_P il_m1 h_v_21
set_option maxRecDepth 20000 in
theorem s_X6_tryOrders {v : mC} {gv : MG} (h_v : RM v gv) : Sim RP (f_X6_tryOrders v) (g_X6_tryOrders gv) := by
  unfold f_X6_tryOrders g_X6_tryOrders
  refine sim_bd (s_X0_copyFrom (by decide) (by decide) h_v) (fun r_8 gr_8 h_r_8 => ?_)
  refine sim_bd (s_X2_goTo (qi_lit 0) h_r_8) (fun r_16 gr_16 h_r_16 => ?_)
  refine lp_sim (fun (X : Int32 → mC → Option (Int32 × mC)) (X2 : Nat → MG → Option (Nat × MG)) => ∀ (a0 : Int32) (b0 : Nat) (a1 : mC) (b1 : MG), RI a0 b0 → RM a1 b1 → Sim RP (X a0 a1) (X2 b0 b1)) (fun _ _ _ _ _ _ => sim_none) (fun self gself hself => ?_) 8192 _ _ _ _ (qi_lit 0) h_r_16
  · exact sl_X6_tryOrders_21  hself
set_option maxRecDepth 20000 in
theorem s_X6_impossibleOrder {v : mC} {gv : MG} (h_v : RM v gv) : Sim RT (f_X6_impossibleOrder v) (g_X6_impossibleOrder gv) := by
  unfold f_X6_impossibleOrder g_X6_impossibleOrder
  refine sim_jn (fun (X : Int32 → mC → Option (Int32 × Nat × mC)) (X2 : Nat → MG → Option (Nat × Nat × MG)) => ∀ (a0 : Int32) (b0 : Nat) (a1 : mC) (b1 : MG), RI a0 b0 → RM a1 b1 → Sim RT (X a0 a1) (X2 b0 b1)) ?_ (fun j16 gj16 h_j16 => ?_)
  · intro s0_16 gs0_16 v_16 gv_16 h_s0_16 h_v_16
    refine sim_tb (s_X6_refuseIf h_s0_16 h_v_16) (fun r_16 gr_16 h_r_16 w_16 gw_16 h_w_16 => ?_)
    refine sim_bd (s_X6_tryOrders h_w_16) (fun r_20 gr_20 h_r_20 => ?_)
    exact sim_T h_r_20.1 h_r_20.2
  · refine sim_bd (s_X2_findError h_v) (fun r_4 gr_4 h_r_4 => ?_)
    refine sim_if (ic_eq h_r_4.1 il_m1) ?_ ?_
    · exact h_j16 _ _ _ _ (qi_lit 0) h_r_4.2
    · exact h_j16 _ _ _ _ (qi_lit 3) h_r_4.2
set_option maxRecDepth 20000 in
theorem sl_X2_countOrders_4 {v : mC} {gv : MG} {self4 : Int32 → Int32 → Option Int32} {gself4 : Nat → Nat → Option Nat} (h_v : RM v gv) (h_self4 : (fun (X : Int32 → Int32 → Option Int32) (X2 : Nat → Nat → Option Nat) => ∀ (a0 : Int32) (b0 : Nat) (a1 : Int32) (b1 : Nat), RI a0 b0 → RI a1 b1 → Sim RI (X a0 a1) (X2 b0 b1)) self4 gself4) : (fun (X : Int32 → Int32 → Option Int32) (X2 : Nat → Nat → Option Nat) => ∀ (a0 : Int32) (b0 : Nat) (a1 : Int32) (b1 : Nat), RI a0 b0 → RI a1 b1 → Sim RI (X a0 a1) (X2 b0 b1)) (L_X2_countOrders_4 v self4) (GL_X2_countOrders_4 gv gself4) := by
  intro x1_4 gx1_4 x2_4 gx2_4 h_x1_4 h_x2_4
  show Sim RI _ _
  unfold L_X2_countOrders_4 GL_X2_countOrders_4
  show Sim RI _ _
  refine sim_rd h_v (at_n0 (i := 1) (atk0 (k := 32) (L := 6) (by decide) rfl) (by decide)) (fun y1 ey1 => ?_)
  refine sim_if (ic_le ey1 h_x2_4) ?_ ?_
  · exact sim_Iv h_x1_4
  · refine sim_inb h_x2_4 (by decide) (fun hc2 => ?_)
    refine sim_rd h_v (at_x0 (atk0 (k := 33) (L := 80) (by decide) rfl) h_x2_4 hc2 (by decide)) (fun y3 ey3 => ?_)
    refine sim_if (ic_eq ey3 (qi_lit 59)) ?_ ?_
    · refine sim_sq (ia_add h_x1_4 (qi_lit 1)) (fun y4 ey4 => ?_)
      refine sim_sq (ia_add h_x2_4 (qi_lit 1)) (fun y5 ey5 => ?_)
      exact h_self4 _ _ _ _ ey4 ey5
    · refine sim_sq (ia_add h_x2_4 (qi_lit 1)) (fun y6 ey6 => ?_)
      exact h_self4 _ _ _ _ h_x1_4 ey6
set_option maxRecDepth 20000 in
theorem s_X2_countOrders {v : mC} {gv : MG} (h_v : RM v gv) : Sim RI (f_X2_countOrders v) (g_X2_countOrders gv) := by
  unfold f_X2_countOrders g_X2_countOrders
  refine lp_sim (fun (X : Int32 → Int32 → Option Int32) (X2 : Nat → Nat → Option Nat) => ∀ (a0 : Int32) (b0 : Nat) (a1 : Int32) (b1 : Nat), RI a0 b0 → RI a1 b1 → Sim RI (X a0 a1) (X2 b0 b1)) (fun _ _ _ _ _ _ => sim_none) (fun self gself hself => ?_) 8192 _ _ _ _ (qi_lit 1) (qi_lit 0)
  · exact sl_X2_countOrders_4 h_v hself
set_option maxRecDepth 20000 in
theorem s_X6_carryOut {v : mC} {gv : MG} (h_v : RM v gv) : Sim RT (f_X6_carryOut v) (g_X6_carryOut gv) := by
  unfold f_X6_carryOut g_X6_carryOut
  refine sim_jn (fun (X : Int32 → mC → Option (Int32 × Nat × mC)) (X2 : Nat → MG → Option (Nat × Nat × MG)) => ∀ (a0 : Int32) (b0 : Nat) (a1 : mC) (b1 : MG), RI a0 b0 → RM a1 b1 → Sim RT (X a0 a1) (X2 b0 b1)) ?_ (fun j24 gj24 h_j24 => ?_)
  · intro s0_24 gs0_24 v_24 gv_24 h_s0_24 h_v_24
    refine sim_jn (fun (X : Int32 → Option (Int32 × Nat × mC)) (X2 : Nat → Option (Nat × Nat × MG)) => ∀ (a0 : Int32) (b0 : Nat), RI a0 b0 → Sim RT (X a0) (X2 b0)) ?_ (fun j34 gj34 h_j34 => ?_)
    · intro s0_34 gs0_34 h_s0_34
      refine sim_tb (s_X6_refuseIf h_s0_34 h_v_24) (fun r_34 gr_34 h_r_34 w_34 gw_34 h_w_34 => ?_)
      refine sim_bd (s_X6_keepState h_w_34) (fun r_38 gr_38 h_r_38 => ?_)
      refine sim_bd (s_X0_copyFrom (by decide) (by decide) h_r_38) (fun r_49 gr_49 h_r_49 => ?_)
      refine sim_bd (s_X2_countOrders h_r_49) (fun r_56 gr_56 h_r_56 => ?_)
      exact sim_T h_r_56 h_r_49
    · refine sim_if (ic_eq h_s0_24 (qi_lit 0)) ?_ ?_
      · exact h_j34 _ _ (qi_lit 3)
      · exact h_j34 _ _ (qi_lit 0)
  · refine sim_jn (fun (X : mC → Option (Int32 × Nat × mC)) (X2 : MG → Option (Nat × Nat × MG)) => ∀ (a0 : mC) (b0 : MG), RM a0 b0 → Sim RT (X a0) (X2 b0)) ?_ (fun j23 gj23 h_j23 => ?_)
    · intro v_23 gv_23 h_v_23
      exact h_j24 _ _ _ _ (qi_lit 0) h_v_23
    · refine sim_bd (s_X2_findError h_v) (fun r_4 gr_4 h_r_4 => ?_)
      refine sim_if (ic_eq h_r_4.1 il_m1) ?_ ?_
      · refine sim_bd (s_X6_tryOrders h_r_4.2) (fun r_12 gr_12 h_r_12 => ?_)
        refine sim_if (ic_eq h_r_12.1 il_m1) ?_ ?_
        · exact h_j24 _ _ _ _ (qi_lit 1) h_r_12.2
        · exact h_j23 _ _ h_r_12.2
      · exact h_j23 _ _ h_r_4.2
set_option maxRecDepth 20000 in
theorem s_X6_undo {v : mC} {gv : MG} (h_v : RM v gv) : Sim RT (f_X6_undo v) (g_X6_undo gv) := by
  unfold f_X6_undo g_X6_undo
  refine sim_jn (fun (X : Int32 → Option (Int32 × Nat × mC)) (X2 : Nat → Option (Nat × Nat × MG)) => ∀ (a0 : Int32) (b0 : Nat), RI a0 b0 → Sim RT (X a0) (X2 b0)) ?_ (fun j12 gj12 h_j12 => ?_)
  · intro s0_12 gs0_12 h_s0_12
    refine sim_tb (s_X6_refuseIf h_s0_12 h_v) (fun r_12 gr_12 h_r_12 w_12 gw_12 h_w_12 => ?_)
    refine sim_rd h_w_12 (at_n0 (i := 5) (atk0 (k := 0) (L := 8) (by decide) rfl) (by decide)) (fun y1 ey1 => ?_)
    refine sim_sq (ia_sub ey1 (qi_lit 1)) (fun y2 ey2 => ?_)
    refine sim_wr h_w_12 (at_n0 (i := 5) (atk0 (k := 0) (L := 8) (by decide) rfl) (by decide)) ey2 (fun w22_1 gw22_1 h_w22_1 => ?_)
    refine sim_rd h_w22_1 (at_n0 (i := 5) (atk0 (k := 0) (L := 8) (by decide) rfl) (by decide)) (fun y3 ey3 => ?_)
    refine sim_inb ey3 (by decide) (fun hc4 => ?_)
    refine sim_rd h_w22_1 (at_x0 (atk0 (k := 31) (L := 4) (by decide) rfl) ey3 hc4 (by decide)) (fun y5 ey5 => ?_)
    refine sim_ix7 ey5 (fun hc6 => ?_)
    rw [ix_of ey5 (Nat.lt_trans hc6 (by decide))]
    refine sim_bd (s_X0_copyFrom (by decide) hc6 h_w22_1) (fun r_38 gr_38 h_r_38 => ?_)
    refine sim_rd h_r_38 (at_n0 (i := 5) (atk0 (k := 0) (L := 8) (by decide) rfl) (by decide)) (fun y7 ey7 => ?_)
    exact sim_T ey7 h_r_38
  · refine sim_rd h_v (at_n0 (i := 5) (atk0 (k := 0) (L := 8) (by decide) rfl) (by decide)) (fun y8 ey8 => ?_)
    refine sim_if (ic_le ey8 (qi_lit 0)) ?_ ?_
    · exact h_j12 _ _ (qi_lit 3)
    · exact h_j12 _ _ (qi_lit 0)
set_option maxRecDepth 20000 in
theorem s_X6_takeSnapshot {v : mC} {gv : MG} (h_v : RM v gv) : Sim RP (f_X6_takeSnapshot v) (g_X6_takeSnapshot gv) := by
  unfold f_X6_takeSnapshot g_X6_takeSnapshot
  refine sim_bd (s_X0_copyFrom (by decide) (by decide) h_v) (fun r_8 gr_8 h_r_8 => ?_)
  refine sim_wr h_r_8 (at_n0 (i := 3) (atk0 (k := 0) (L := 8) (by decide) rfl) (by decide)) (qi_lit 1) (fun w13_1 gw13_1 h_w13_1 => ?_)
  refine sim_rd h_w13_1 (at_n0 (i := 0) (atkb (k := 1) (o := 0) (L := 10) (by decide) rfl (by decide)) (by decide)) (fun y1 ey1 => ?_)
  exact sim_P ey1 h_w13_1
set_option maxRecDepth 20000 in
theorem s_X6_restoreSnapshot {v : mC} {gv : MG} (h_v : RM v gv) : Sim RT (f_X6_restoreSnapshot v) (g_X6_restoreSnapshot gv) := by
  unfold f_X6_restoreSnapshot g_X6_restoreSnapshot
  refine sim_jn (fun (X : Int32 → Option (Int32 × Nat × mC)) (X2 : Nat → Option (Nat × Nat × MG)) => ∀ (a0 : Int32) (b0 : Nat), RI a0 b0 → Sim RT (X a0) (X2 b0)) ?_ (fun j12 gj12 h_j12 => ?_)
  · intro s0_12 gs0_12 h_s0_12
    refine sim_tb (s_X6_refuseIf h_s0_12 h_v) (fun r_12 gr_12 h_r_12 w_12 gw_12 h_w_12 => ?_)
    refine sim_bd (s_X6_keepState h_w_12) (fun r_16 gr_16 h_r_16 => ?_)
    refine sim_bd (s_X0_copyFrom (by decide) (by decide) h_r_16) (fun r_27 gr_27 h_r_27 => ?_)
    refine sim_rd h_r_27 (at_n0 (i := 0) (atkb (k := 1) (o := 0) (L := 10) (by decide) rfl (by decide)) (by decide)) (fun y1 ey1 => ?_)
    exact sim_T ey1 h_r_27
  · refine sim_rd h_v (at_n0 (i := 3) (atk0 (k := 0) (L := 8) (by decide) rfl) (by decide)) (fun y2 ey2 => ?_)
    refine sim_if (ic_eq ey2 (qi_lit 0)) ?_ ?_
    · exact h_j12 _ _ (qi_lit 3)
    · exact h_j12 _ _ (qi_lit 0)
set_option maxRecDepth 20000 in
theorem s_X6_singers {v : mC} {gv : MG} (h_v : RM v gv) : Sim RI (f_X6_singers v) (g_X6_singers gv) := by
  unfold f_X6_singers g_X6_singers
  refine sim_rd h_v (at_n0 (i := 0) (atkb (k := 2) (o := 0) (L := 1) (by decide) rfl (by decide)) (by decide)) (fun y1 ey1 => ?_)
  exact sim_Iv ey1
set_option maxRecDepth 20000 in
theorem s_X6_requireSinger {x1 : Int32} {gx1 : Nat} {v : mC} {gv : MG} (h_x1 : RI x1 gx1) (h_v : RM v gv) : Sim RT (f_X6_requireSinger x1 v) (g_X6_requireSinger gx1 gv) := by
  unfold f_X6_requireSinger g_X6_requireSinger
  refine sim_jn (fun (X : Int32 → Option (Int32 × Nat × mC)) (X2 : Nat → Option (Nat × Nat × MG)) => ∀ (a0 : Int32) (b0 : Nat), RI a0 b0 → Sim RT (X a0) (X2 b0)) ?_ (fun j19 gj19 h_j19 => ?_)
  · intro s0_19 gs0_19 h_s0_19
    refine sim_tb (s_X6_refuseIf h_s0_19 h_v) (fun r_19 gr_19 h_r_19 w_19 gw_19 h_w_19 => ?_)
    exact sim_T (qi_lit 0) h_w_19
  · refine sim_bd (s_X5_has (by decide) h_x1 h_v) (fun r_8 gr_8 h_r_8 => ?_)
    refine sim_if (ic_eq h_r_8 (qi_lit 0)) ?_ ?_
    · exact h_j19 _ _ (qi_lit 1)
    · exact h_j19 _ _ (qi_lit 0)
set_option maxRecDepth 20000 in
theorem s_X6_isInChoir {x1 : Int32} {gx1 : Nat} {v : mC} {gv : MG} (h_x1 : RI x1 gx1) (h_v : RM v gv) : Sim RT (f_X6_isInChoir x1 v) (g_X6_isInChoir gx1 gv) := by
  unfold f_X6_isInChoir g_X6_isInChoir
  refine sim_tb (s_X6_requireSinger h_x1 h_v) (fun r_2 gr_2 h_r_2 w_2 gw_2 h_w_2 => ?_)
  refine sim_rd h_w_2 (at_n0 (i := 0) (atkb (k := 1) (o := 0) (L := 10) (by decide) rfl (by decide)) (by decide)) (fun y1 ey1 => ?_)
  refine sim_bd (s_X5_hasLeftBy (by decide) h_x1 ey1 h_w_2) (fun r_20 gr_20 h_r_20 => ?_)
  refine sim_if (ic_eq h_r_20 (qi_lit 0)) ?_ ?_
  · refine sim_zb1 ?_
    exact sim_T (qi_lit 1) h_w_2
  · refine sim_zb0 ?_
    exact sim_T (qi_lit 0) h_w_2
set_option maxRecDepth 20000 in
theorem s_X6_ageOf {x1 : Int32} {gx1 : Nat} {v : mC} {gv : MG} (h_x1 : RI x1 gx1) (h_v : RM v gv) : Sim RT (f_X6_ageOf x1 v) (g_X6_ageOf gx1 gv) := by
  unfold f_X6_ageOf g_X6_ageOf
  refine sim_tb (s_X6_requireSinger h_x1 h_v) (fun r_2 gr_2 h_r_2 w_2 gw_2 h_w_2 => ?_)
  refine sim_inb h_x1 (by decide) (fun hc1 => ?_)
  refine sim_rd h_w_2 (at_n0 (i := 0) (atkb (k := 1) (o := 0) (L := 10) (by decide) rfl (by decide)) (by decide)) (fun y2 ey2 => ?_)
  refine sim_rd h_w_2 (at_x0 (atkb (k := 6) (o := 0) (L := 30) (by decide) rfl (by decide)) h_x1 hc1 (by decide)) (fun y3 ey3 => ?_)
  refine sim_lt (ia_sub ey2 ey3) (fun y24_1 gy24_1 h_y24_1 => ?_)
  refine sim_chk (fun hc4 => ?_)
  exact sim_T (ia_div (d := 360) h_y24_1 hc4 (by decide) (by decide)) h_w_2
set_option maxRecDepth 20000 in
theorem s_X6_lowestNoteOf {x1 : Int32} {gx1 : Nat} {v : mC} {gv : MG} (h_x1 : RI x1 gx1) (h_v : RM v gv) : Sim RT (f_X6_lowestNoteOf x1 v) (g_X6_lowestNoteOf gx1 gv) := by
  unfold f_X6_lowestNoteOf g_X6_lowestNoteOf
  refine sim_tb (s_X6_requireSinger h_x1 h_v) (fun r_2 gr_2 h_r_2 w_2 gw_2 h_w_2 => ?_)
  refine sim_inb h_x1 (by decide) (fun hc1 => ?_)
  refine sim_rd h_w_2 (at_n0 (i := 0) (atkb (k := 1) (o := 0) (L := 10) (by decide) rfl (by decide)) (by decide)) (fun y2 ey2 => ?_)
  refine sim_rd h_w_2 (at_x0 (atkb (k := 4) (o := 0) (L := 30) (by decide) rfl (by decide)) h_x1 hc1 (by decide)) (fun y3 ey3 => ?_)
  refine sim_bd (s_X5_noteOn (by decide) h_x1 ey2 ey3 h_w_2) (fun r_32 gr_32 h_r_32 => ?_)
  exact sim_T h_r_32 h_w_2
set_option maxRecDepth 20000 in
theorem s_X6_highestNoteOf {x1 : Int32} {gx1 : Nat} {v : mC} {gv : MG} (h_x1 : RI x1 gx1) (h_v : RM v gv) : Sim RT (f_X6_highestNoteOf x1 v) (g_X6_highestNoteOf gx1 gv) := by
  unfold f_X6_highestNoteOf g_X6_highestNoteOf
  refine sim_tb (s_X6_requireSinger h_x1 h_v) (fun r_2 gr_2 h_r_2 w_2 gw_2 h_w_2 => ?_)
  refine sim_inb h_x1 (by decide) (fun hc1 => ?_)
  refine sim_rd h_w_2 (at_n0 (i := 0) (atkb (k := 1) (o := 0) (L := 10) (by decide) rfl (by decide)) (by decide)) (fun y2 ey2 => ?_)
  refine sim_rd h_w_2 (at_x0 (atkb (k := 5) (o := 0) (L := 30) (by decide) rfl (by decide)) h_x1 hc1 (by decide)) (fun y3 ey3 => ?_)
  refine sim_bd (s_X5_noteOn (by decide) h_x1 ey2 ey3 h_w_2) (fun r_32 gr_32 h_r_32 => ?_)
  exact sim_T h_r_32 h_w_2
set_option maxRecDepth 20000 in
theorem s_X6_breakDayOf {x1 : Int32} {gx1 : Nat} {v : mC} {gv : MG} (h_x1 : RI x1 gx1) (h_v : RM v gv) : Sim RT (f_X6_breakDayOf x1 v) (g_X6_breakDayOf gx1 gv) := by
  unfold f_X6_breakDayOf g_X6_breakDayOf
  refine sim_tb (s_X6_requireSinger h_x1 h_v) (fun r_2 gr_2 h_r_2 w_2 gw_2 h_w_2 => ?_)
  refine sim_inb h_x1 (by decide) (fun hc1 => ?_)
  refine sim_rd h_w_2 (at_x0 (atkb (k := 7) (o := 0) (L := 30) (by decide) rfl (by decide)) h_x1 hc1 (by decide)) (fun y2 ey2 => ?_)
  exact sim_T ey2 h_w_2
set_option maxRecDepth 20000 in
theorem sl_X5_nextBreakingAfter_4 {o : Nat} {x1 : Int32} {gx1 : Nat} {v : mC} {gv : MG} {self4 : Int32 → Int32 → Option Int32} {gself4 : Nat → Nat → Option Nat} (h_o : o < 7) (h_x1 : RI x1 gx1) (h_v : RM v gv) (h_self4 : (fun (X : Int32 → Int32 → Option Int32) (X2 : Nat → Nat → Option Nat) => ∀ (a0 : Int32) (b0 : Nat) (a1 : Int32) (b1 : Nat), RI a0 b0 → RI a1 b1 → Sim RI (X a0 a1) (X2 b0 b1)) self4 gself4) : (fun (X : Int32 → Int32 → Option Int32) (X2 : Nat → Nat → Option Nat) => ∀ (a0 : Int32) (b0 : Nat) (a1 : Int32) (b1 : Nat), RI a0 b0 → RI a1 b1 → Sim RI (X a0 a1) (X2 b0 b1)) (L_X5_nextBreakingAfter_4 o x1 v self4) (GL_X5_nextBreakingAfter_4 o gx1 gv gself4) := by
  intro x2_4 gx2_4 x3_4 gx3_4 h_x2_4 h_x3_4
  show Sim RI _ _
  unfold L_X5_nextBreakingAfter_4 GL_X5_nextBreakingAfter_4
  show Sim RI _ _
  refine sim_rd h_v (at_n0 (i := 0) (atkb (k := 2) (o := o) (L := 1) (by decide) rfl h_o) (by decide)) (fun y1 ey1 => ?_)
  refine sim_if (ic_le ey1 h_x3_4) ?_ ?_
  · exact sim_Iv h_x2_4
  · refine sim_jn (fun (X : Int32 → Option Int32) (X2 : Nat → Option Nat) => ∀ (a0 : Int32) (b0 : Nat), RI a0 b0 → Sim RI (X a0) (X2 b0)) ?_ (fun j36 gj36 h_j36 => ?_)
    · intro s0_36 gs0_36 h_s0_36
      refine sim_if (ic_eq h_s0_36 (qi_lit 0)) ?_ ?_
      · refine sim_sq (ia_add h_x3_4 (qi_lit 1)) (fun y2 ey2 => ?_)
        exact h_self4 _ _ _ _ h_x2_4 ey2
      · refine sim_if (ic_eq h_x2_4 il_m1) ?_ ?_
        · refine sim_sq (ia_add h_x3_4 (qi_lit 1)) (fun y3 ey3 => ?_)
          exact h_self4 _ _ _ _ h_x3_4 ey3
        · refine sim_inb h_x3_4 (by decide) (fun hc4 => ?_)
          refine sim_inb h_x2_4 (by decide) (fun hc5 => ?_)
          refine sim_rd h_v (at_x0 (atkb (k := 7) (o := o) (L := 30) (by decide) rfl h_o) h_x2_4 hc5 (by decide)) (fun y6 ey6 => ?_)
          refine sim_rd h_v (at_x0 (atkb (k := 7) (o := o) (L := 30) (by decide) rfl h_o) h_x3_4 hc4 (by decide)) (fun y7 ey7 => ?_)
          refine sim_if (ic_le ey6 ey7) ?_ ?_
          · refine sim_sq (ia_add h_x3_4 (qi_lit 1)) (fun y8 ey8 => ?_)
            exact h_self4 _ _ _ _ h_x2_4 ey8
          · refine sim_sq (ia_add h_x3_4 (qi_lit 1)) (fun y9 ey9 => ?_)
            exact h_self4 _ _ _ _ h_x3_4 ey9
    · refine sim_jn (fun (X : Unit → Option Int32) (X2 : Unit → Option Nat) => Sim RI (X ()) (X2 ())) ?_ (fun j35 gj35 h_j35 => ?_)
      · exact h_j36 _ _ (qi_lit 0)
      · refine sim_inb h_x3_4 (by decide) (fun hc10 => ?_)
        refine sim_rd h_v (at_x0 (atkb (k := 7) (o := o) (L := 30) (by decide) rfl h_o) h_x3_4 hc10 (by decide)) (fun y11 ey11 => ?_)
        refine sim_if (ic_le ey11 h_x1) ?_ ?_
        · exact h_j35 
        · refine sim_bd (s_X5_hasLeftBy h_o h_x3_4 h_x1 h_v) (fun r_25 gr_25 h_r_25 => ?_)
          refine sim_if (ic_eq h_r_25 (qi_lit 0)) ?_ ?_
          · exact h_j36 _ _ (qi_lit 1)
          · exact h_j35 
set_option maxRecDepth 20000 in
theorem s_X5_nextBreakingAfter {o : Nat} {x1 : Int32} {gx1 : Nat} {v : mC} {gv : MG} (h_o : o < 7) (h_x1 : RI x1 gx1) (h_v : RM v gv) : Sim RI (f_X5_nextBreakingAfter o x1 v) (g_X5_nextBreakingAfter o gx1 gv) := by
  unfold f_X5_nextBreakingAfter g_X5_nextBreakingAfter
  refine lp_sim (fun (X : Int32 → Int32 → Option Int32) (X2 : Nat → Nat → Option Nat) => ∀ (a0 : Int32) (b0 : Nat) (a1 : Int32) (b1 : Nat), RI a0 b0 → RI a1 b1 → Sim RI (X a0 a1) (X2 b0 b1)) (fun _ _ _ _ _ _ => sim_none) (fun self gself hself => ?_) 8192 _ _ _ _ il_m1 (qi_lit 0)
  · exact sl_X5_nextBreakingAfter_4 h_o h_x1 h_v hself
set_option maxRecDepth 20000 in
theorem s_X6_nextToBreak {v : mC} {gv : MG} (h_v : RM v gv) : Sim RI (f_X6_nextToBreak v) (g_X6_nextToBreak gv) := by
  unfold f_X6_nextToBreak g_X6_nextToBreak
  refine sim_rd h_v (at_n0 (i := 0) (atkb (k := 1) (o := 0) (L := 10) (by decide) rfl (by decide)) (by decide)) (fun y1 ey1 => ?_)
  refine sim_bd (s_X5_nextBreakingAfter (by decide) ey1 h_v) (fun r_14 gr_14 h_r_14 => ?_)
  exact sim_Iv h_r_14
set_option maxRecDepth 20000 in
theorem s_X6_choirOf {x1 : Int32} {gx1 : Nat} {v : mC} {gv : MG} (h_x1 : RI x1 gx1) (h_v : RM v gv) : Sim RT (f_X6_choirOf x1 v) (g_X6_choirOf gx1 gv) := by
  unfold f_X6_choirOf g_X6_choirOf
  refine sim_tb (s_X6_requireSinger h_x1 h_v) (fun r_2 gr_2 h_r_2 w_2 gw_2 h_w_2 => ?_)
  refine sim_inb h_x1 (by decide) (fun hc1 => ?_)
  refine sim_rd h_w_2 (at_x0 (atkb (k := 8) (o := 0) (L := 30) (by decide) rfl (by decide)) h_x1 hc1 (by decide)) (fun y2 ey2 => ?_)
  exact sim_T ey2 h_w_2
set_option maxRecDepth 20000 in
theorem s_X6_awayUntil {x1 : Int32} {gx1 : Nat} {v : mC} {gv : MG} (h_x1 : RI x1 gx1) (h_v : RM v gv) : Sim RT (f_X6_awayUntil x1 v) (g_X6_awayUntil gx1 gv) := by
  unfold f_X6_awayUntil g_X6_awayUntil
  refine sim_tb (s_X6_requireSinger h_x1 h_v) (fun r_2 gr_2 h_r_2 w_2 gw_2 h_w_2 => ?_)
  refine sim_rd h_w_2 (at_n0 (i := 0) (atkb (k := 1) (o := 0) (L := 10) (by decide) rfl (by decide)) (by decide)) (fun y1 ey1 => ?_)
  refine sim_bd (s_X5_isAwayOn (by decide) h_x1 ey1 h_w_2) (fun r_20 gr_20 h_r_20 => ?_)
  refine sim_if (ic_eq h_r_20 (qi_lit 0)) ?_ ?_
  · exact sim_T il_m1 h_w_2
  · refine sim_inb h_x1 (by decide) (fun hc2 => ?_)
    refine sim_rd h_w_2 (at_x0 (atkb (k := 11) (o := 0) (L := 30) (by decide) rfl (by decide)) h_x1 hc2 (by decide)) (fun y3 ey3 => ?_)
    exact sim_T ey3 h_w_2
set_option maxRecDepth 20000 in
theorem s_X6_isExcused {x1 : Int32} {gx1 : Nat} {x2 : Int32} {gx2 : Nat} {v : mC} {gv : MG} (h_x1 : RI x1 gx1) (h_x2 : RI x2 gx2) (h_v : RM v gv) : Sim RT (f_X6_isExcused x1 x2 v) (g_X6_isExcused gx1 gx2 gv) := by
  unfold f_X6_isExcused g_X6_isExcused
  refine sim_jn (fun (X : Int32 → Option (Int32 × Nat × mC)) (X2 : Nat → Option (Nat × Nat × MG)) => ∀ (a0 : Int32) (b0 : Nat), RI a0 b0 → Sim RT (X a0) (X2 b0)) ?_ (fun j21 gj21 h_j21 => ?_)
  · intro s0_21 gs0_21 h_s0_21
    refine sim_tb (s_X6_refuseIf h_s0_21 h_v) (fun r_21 gr_21 h_r_21 w_21 gw_21 h_w_21 => ?_)
    refine sim_bd (s_X4_coverAnyOf (by decide) h_x1 h_x2 h_x2 h_w_21) (fun r_34 gr_34 h_r_34 => ?_)
    refine sim_zb h_r_34 ?_
    exact sim_T h_r_34 h_w_21
  · refine sim_tb (s_X6_requireSinger h_x1 h_v) (fun r_2 gr_2 h_r_2 w_2 gw_2 h_w_2 => ?_)
    refine sim_bd (s_X6_isWithin h_x2 (qi_lit 0) (qi_lit 9999) h_w_2) (fun r_10 gr_10 h_r_10 => ?_)
    refine sim_if (ic_eq h_r_10 (qi_lit 0)) ?_ ?_
    · exact h_j21 _ _ (qi_lit 2)
    · exact h_j21 _ _ (qi_lit 0)
set_option maxRecDepth 20000 in
theorem s_X6_feastsOf {x1 : Int32} {gx1 : Nat} {v : mC} {gv : MG} (h_x1 : RI x1 gx1) (h_v : RM v gv) : Sim RT (f_X6_feastsOf x1 v) (g_X6_feastsOf gx1 gv) := by
  unfold f_X6_feastsOf g_X6_feastsOf
  refine sim_tb (s_X6_requireSinger h_x1 h_v) (fun r_2 gr_2 h_r_2 w_2 gw_2 h_w_2 => ?_)
  refine sim_inb h_x1 (by decide) (fun hc1 => ?_)
  refine sim_rd h_w_2 (at_x0 (atkb (k := 12) (o := 0) (L := 30) (by decide) rfl (by decide)) h_x1 hc1 (by decide)) (fun y2 ey2 => ?_)
  exact sim_T ey2 h_w_2
set_option maxRecDepth 20000 in
theorem s_X6_descantsOf {x1 : Int32} {gx1 : Nat} {v : mC} {gv : MG} (h_x1 : RI x1 gx1) (h_v : RM v gv) : Sim RT (f_X6_descantsOf x1 v) (g_X6_descantsOf gx1 gv) := by
  unfold f_X6_descantsOf g_X6_descantsOf
  refine sim_tb (s_X6_requireSinger h_x1 h_v) (fun r_2 gr_2 h_r_2 w_2 gw_2 h_w_2 => ?_)
  refine sim_inb h_x1 (by decide) (fun hc1 => ?_)
  refine sim_rd h_w_2 (at_x0 (atkb (k := 13) (o := 0) (L := 30) (by decide) rfl (by decide)) h_x1 hc1 (by decide)) (fun y2 ey2 => ?_)
  exact sim_T ey2 h_w_2
set_option maxRecDepth 20000 in
theorem s_X6_feasts {v : mC} {gv : MG} (h_v : RM v gv) : Sim RI (f_X6_feasts v) (g_X6_feasts gv) := by
  unfold f_X6_feasts g_X6_feasts
  refine sim_rd h_v (at_n0 (i := 0) (atkb (k := 18) (o := 0) (L := 1) (by decide) rfl (by decide)) (by decide)) (fun y1 ey1 => ?_)
  exact sim_Iv ey1
set_option maxRecDepth 20000 in
theorem s_X6_requireFeast {x1 : Int32} {gx1 : Nat} {v : mC} {gv : MG} (h_x1 : RI x1 gx1) (h_v : RM v gv) : Sim RT (f_X6_requireFeast x1 v) (g_X6_requireFeast gx1 gv) := by
  unfold f_X6_requireFeast g_X6_requireFeast
  refine sim_jn (fun (X : Int32 → Option (Int32 × Nat × mC)) (X2 : Nat → Option (Nat × Nat × MG)) => ∀ (a0 : Int32) (b0 : Nat), RI a0 b0 → Sim RT (X a0) (X2 b0)) ?_ (fun j19 gj19 h_j19 => ?_)
  · intro s0_19 gs0_19 h_s0_19
    refine sim_tb (s_X6_refuseIf h_s0_19 h_v) (fun r_19 gr_19 h_r_19 w_19 gw_19 h_w_19 => ?_)
    exact sim_T (qi_lit 0) h_w_19
  · refine sim_bd (s_X1_has (by decide) h_x1 h_v) (fun r_8 gr_8 h_r_8 => ?_)
    refine sim_if (ic_eq h_r_8 (qi_lit 0)) ?_ ?_
    · exact h_j19 _ _ (qi_lit 1)
    · exact h_j19 _ _ (qi_lit 0)
set_option maxRecDepth 20000 in
theorem s_X6_dayOf {x1 : Int32} {gx1 : Nat} {v : mC} {gv : MG} (h_x1 : RI x1 gx1) (h_v : RM v gv) : Sim RT (f_X6_dayOf x1 v) (g_X6_dayOf gx1 gv) := by
  unfold f_X6_dayOf g_X6_dayOf
  refine sim_tb (s_X6_requireFeast h_x1 h_v) (fun r_2 gr_2 h_r_2 w_2 gw_2 h_w_2 => ?_)
  refine sim_inb h_x1 (by decide) (fun hc1 => ?_)
  refine sim_rd h_w_2 (at_x0 (atkb (k := 19) (o := 0) (L := 20) (by decide) rfl (by decide)) h_x1 hc1 (by decide)) (fun y2 ey2 => ?_)
  exact sim_T ey2 h_w_2
set_option maxRecDepth 20000 in
theorem s_X6_isHeld {x1 : Int32} {gx1 : Nat} {v : mC} {gv : MG} (h_x1 : RI x1 gx1) (h_v : RM v gv) : Sim RT (f_X6_isHeld x1 v) (g_X6_isHeld gx1 gv) := by
  unfold f_X6_isHeld g_X6_isHeld
  refine sim_tb (s_X6_requireFeast h_x1 h_v) (fun r_2 gr_2 h_r_2 w_2 gw_2 h_w_2 => ?_)
  refine sim_bd (s_X0_hasHeld (by decide) h_x1 h_w_2) (fun r_10 gr_10 h_r_10 => ?_)
  refine sim_zb h_r_10 ?_
  exact sim_T h_r_10 h_w_2
set_option maxRecDepth 20000 in
theorem s_X6_requireLine {x0 : Int32} {gx0 : Nat} {v : mC} {gv : MG} (h_x0 : RI x0 gx0) (h_v : RM v gv) : Sim RT (f_X6_requireLine x0 v) (g_X6_requireLine gx0 gv) := by
  unfold f_X6_requireLine g_X6_requireLine
  refine sim_jn (fun (X : Int32 → Option (Int32 × Nat × mC)) (X2 : Nat → Option (Nat × Nat × MG)) => ∀ (a0 : Int32) (b0 : Nat), RI a0 b0 → Sim RT (X a0) (X2 b0)) ?_ (fun j12 gj12 h_j12 => ?_)
  · intro s0_12 gs0_12 h_s0_12
    refine sim_tb (s_X6_refuseIf h_s0_12 h_v) (fun r_12 gr_12 h_r_12 w_12 gw_12 h_w_12 => ?_)
    exact sim_T (qi_lit 0) h_w_12
  · refine sim_bd (s_X6_isLine h_x0 h_v) (fun r_1 gr_1 h_r_1 => ?_)
    refine sim_if (ic_eq h_r_1 (qi_lit 0)) ?_ ?_
    · exact h_j12 _ _ (qi_lit 1)
    · exact h_j12 _ _ (qi_lit 0)
set_option maxRecDepth 20000 in
theorem s_X6_placesIn {x1 : Int32} {gx1 : Nat} {x2 : Int32} {gx2 : Nat} {v : mC} {gv : MG} (h_x1 : RI x1 gx1) (h_x2 : RI x2 gx2) (h_v : RM v gv) : Sim RT (f_X6_placesIn x1 x2 v) (g_X6_placesIn gx1 gx2 gv) := by
  unfold f_X6_placesIn g_X6_placesIn
  refine sim_tb (s_X6_requireFeast h_x1 h_v) (fun r_2 gr_2 h_r_2 w_2 gw_2 h_w_2 => ?_)
  refine sim_tb (s_X6_requireLine h_x2 h_w_2) (fun r_6 gr_6 h_r_6 w_6 gw_6 h_w_6 => ?_)
  refine sim_inb h_x1 (by decide) (fun hc1 => ?_)
  refine sim_inb h_x2 (by decide) (fun hc2 => ?_)
  refine sim_rd h_w_6 (at_x (atkr4 (k := 26) (o := 0) (by decide) rfl h_x1 hc1) h_x2 hc2 (by decide)) (fun y3 ey3 => ?_)
  exact sim_T ey3 h_w_6
set_option maxRecDepth 20000 in
theorem s_X6_whyNot {x1 : Int32} {gx1 : Nat} {x2 : Int32} {gx2 : Nat} {x3 : Int32} {gx3 : Nat} {v : mC} {gv : MG} (h_x1 : RI x1 gx1) (h_x2 : RI x2 gx2) (h_x3 : RI x3 gx3) (h_v : RM v gv) : Sim RT (f_X6_whyNot x1 x2 x3 v) (g_X6_whyNot gx1 gx2 gx3 gv) := by
  unfold f_X6_whyNot g_X6_whyNot
  refine sim_jn (fun (X : Int32 → Option (Int32 × Nat × mC)) (X2 : Nat → Option (Nat × Nat × MG)) => ∀ (a0 : Int32) (b0 : Nat), RI a0 b0 → Sim RT (X a0) (X2 b0)) ?_ (fun j30 gj30 h_j30 => ?_)
  · intro s0_30 gs0_30 h_s0_30
    refine sim_tb (s_X6_refuseIf h_s0_30 h_v) (fun r_30 gr_30 h_r_30 w_30 gw_30 h_w_30 => ?_)
    refine sim_inb h_x1 (by decide) (fun hc1 => ?_)
    refine sim_rd h_w_30 (at_x0 (atkb (k := 19) (o := 0) (L := 20) (by decide) rfl (by decide)) h_x1 hc1 (by decide)) (fun y2 ey2 => ?_)
    refine sim_bd (s_X0_hindrance (by decide) h_x2 ey2 h_w_30) (fun r_50 gr_50 h_r_50 => ?_)
    refine sim_if (ic_eq h_r_50 (qi_lit 0)) ?_ ?_
    · refine sim_bd (s_X0_misfit (by decide) h_x1 h_x2 h_x3 h_w_30) (fun r_72 gr_72 h_r_72 => ?_)
      exact sim_T h_r_72 h_w_30
    · exact sim_T h_r_50 h_w_30
  · refine sim_tb (s_X6_requireFeast h_x1 h_v) (fun r_2 gr_2 h_r_2 w_2 gw_2 h_w_2 => ?_)
    refine sim_tb (s_X6_requireSinger h_x2 h_w_2) (fun r_7 gr_7 h_r_7 w_7 gw_7 h_w_7 => ?_)
    refine sim_tb (s_X6_requireLine h_x3 h_w_7) (fun r_11 gr_11 h_r_11 w_11 gw_11 h_w_11 => ?_)
    refine sim_bd (s_X0_hasHeld (by decide) h_x1 h_w_11) (fun r_19 gr_19 h_r_19 => ?_)
    refine sim_if (ic_eq h_r_19 (qi_lit 0)) ?_ ?_
    · exact h_j30 _ _ (qi_lit 0)
    · exact h_j30 _ _ (qi_lit 3)
set_option maxRecDepth 20000 in
theorem s_X3_tell {o : Nat} {x2 : Int32} {gx2 : Nat} {v : mC} {gv : MG} (h_o : o < 7) (h_x2 : RI x2 gx2) (h_v : RM v gv) : Sim RM (f_X3_tell o x2 v) (g_X3_tell o gx2 gv) := by
  unfold f_X3_tell g_X3_tell
  refine sim_bd (s_X0_hasHeld h_o h_x2 h_v) (fun r_2 gr_2 h_r_2 => ?_)
  refine sim_if (ic_eq h_r_2 (qi_lit 0)) ?_ ?_
  · refine sim_bd (s_X3_make h_o h_x2 h_v) (fun r_34 gr_34 h_r_34 => ?_)
    exact sim_some h_r_34
  · refine sim_inb h_x2 (by decide) (fun hc1 => ?_)
    refine sim_cpo (qi_lit 30) (by decide) (fun hc2 => ?_)
    refine sim_cp h_v (atk0 (k := 36) (L := 30) (by decide) rfl) (atkr30 (k := 29) (o := o) rfl rfl h_x2 hc1) (qi_lit 30) (by decide) (by decide) (fun w25_1 gw25_1 h_w25_1 => ?_)
    exact sim_some h_w25_1
set_option maxRecDepth 20000 in
theorem s_X6_lineOf {x1 : Int32} {gx1 : Nat} {x2 : Int32} {gx2 : Nat} {v : mC} {gv : MG} (h_x1 : RI x1 gx1) (h_x2 : RI x2 gx2) (h_v : RM v gv) : Sim RT (f_X6_lineOf x1 x2 v) (g_X6_lineOf gx1 gx2 gv) := by
  unfold f_X6_lineOf g_X6_lineOf
  refine sim_tb (s_X6_requireFeast h_x1 h_v) (fun r_2 gr_2 h_r_2 w_2 gw_2 h_w_2 => ?_)
  refine sim_tb (s_X6_requireSinger h_x2 h_w_2) (fun r_7 gr_7 h_r_7 w_7 gw_7 h_w_7 => ?_)
  refine sim_bd (s_X3_tell (by decide) h_x1 h_w_7) (fun r_19 gr_19 h_r_19 => ?_)
  refine sim_inb h_x2 (by decide) (fun hc1 => ?_)
  refine sim_rd h_r_19 (at_x0 (atk0 (k := 36) (L := 30) (by decide) rfl) h_x2 hc1 (by decide)) (fun y2 ey2 => ?_)
  exact sim_T ey2 h_r_19
set_option maxRecDepth 20000 in
theorem s_X6_singersIn {x1 : Int32} {gx1 : Nat} {x2 : Int32} {gx2 : Nat} {v : mC} {gv : MG} (h_x1 : RI x1 gx1) (h_x2 : RI x2 gx2) (h_v : RM v gv) : Sim RT (f_X6_singersIn x1 x2 v) (g_X6_singersIn gx1 gx2 gv) := by
  unfold f_X6_singersIn g_X6_singersIn
  refine sim_tb (s_X6_requireFeast h_x1 h_v) (fun r_2 gr_2 h_r_2 w_2 gw_2 h_w_2 => ?_)
  refine sim_tb (s_X6_requireLine h_x2 h_w_2) (fun r_6 gr_6 h_r_6 w_6 gw_6 h_w_6 => ?_)
  refine sim_bd (s_X3_tell (by decide) h_x1 h_w_6) (fun r_18 gr_18 h_r_18 => ?_)
  refine sim_bd (s_X3_countIn h_x2 h_r_18) (fun r_26 gr_26 h_r_26 => ?_)
  exact sim_T h_r_26 h_r_18
set_option maxRecDepth 20000 in
theorem s_X6_shortfall {x1 : Int32} {gx1 : Nat} {v : mC} {gv : MG} (h_x1 : RI x1 gx1) (h_v : RM v gv) : Sim RT (f_X6_shortfall x1 v) (g_X6_shortfall gx1 gv) := by
  unfold f_X6_shortfall g_X6_shortfall
  refine sim_tb (s_X6_requireFeast h_x1 h_v) (fun r_2 gr_2 h_r_2 w_2 gw_2 h_w_2 => ?_)
  refine sim_bd (s_X3_tell (by decide) h_x1 h_w_2) (fun r_14 gr_14 h_r_14 => ?_)
  refine sim_bd (s_X1_allPlaces (by decide) h_x1 h_r_14) (fun r_25 gr_25 h_r_25 => ?_)
  refine sim_bd (s_X3_countAll h_r_14) (fun r_32 gr_32 h_r_32 => ?_)
  exact sim_T (ia_sub h_r_25 h_r_32) h_r_14
set_option maxRecDepth 20000 in
theorem sl_X3_lackBySets_38 {o : Nat} {x2 : Int32} {gx2 : Nat} {x3 : Int32} {gx3 : Nat} {x4_12 : Int32} {gx4_12 : Nat} {x5_12 : Int32} {gx5_12 : Nat} {self12 : Int32 → Int32 → Option (Int32 × mC)} {gself12 : Nat → Nat → Option (Nat × MG)} {r_3 : mC} {gr_3 : MG} {self38 : Int32 → Int32 → Option (Int32 × mC)} {gself38 : Nat → Nat → Option (Nat × MG)} (h_o : o < 7) (h_x2 : RI x2 gx2) (h_x3 : RI x3 gx3) (h_x4_12 : RI x4_12 gx4_12) (h_x5_12 : RI x5_12 gx5_12) (h_self12 : (fun (X : Int32 → Int32 → Option (Int32 × mC)) (X2 : Nat → Nat → Option (Nat × MG)) => ∀ (a0 : Int32) (b0 : Nat) (a1 : Int32) (b1 : Nat), RI a0 b0 → RI a1 b1 → Sim RP (X a0 a1) (X2 b0 b1)) self12 gself12) (h_r_3 : RM r_3 gr_3) (h_self38 : (fun (X : Int32 → Int32 → Option (Int32 × mC)) (X2 : Nat → Nat → Option (Nat × MG)) => ∀ (a0 : Int32) (b0 : Nat) (a1 : Int32) (b1 : Nat), RI a0 b0 → RI a1 b1 → Sim RP (X a0 a1) (X2 b0 b1)) self38 gself38) : (fun (X : Int32 → Int32 → Option (Int32 × mC)) (X2 : Nat → Nat → Option (Nat × MG)) => ∀ (a0 : Int32) (b0 : Nat) (a1 : Int32) (b1 : Nat), RI a0 b0 → RI a1 b1 → Sim RP (X a0 a1) (X2 b0 b1)) (L_X3_lackBySets_38 o x2 x3 x4_12 x5_12 self12 r_3 self38) (GL_X3_lackBySets_38 o gx2 gx3 gx4_12 gx5_12 gself12 gr_3 gself38) := by
  intro x6_38 gx6_38 x7_38 gx7_38 h_x6_38 h_x7_38
  show Sim RP _ _
  unfold L_X3_lackBySets_38 GL_X3_lackBySets_38
  show Sim RP _ _
  refine sim_if (ic_le (qi_lit 4) h_x7_38) ?_ ?_
  · refine sim_if (ic_le h_x6_38 h_x4_12) ?_ ?_
    · refine sim_sq (ia_add h_x5_12 (qi_lit 1)) (fun y1 ey1 => ?_)
      exact h_self12 _ _ _ _ h_x4_12 ey1
    · refine sim_sq (ia_add h_x5_12 (qi_lit 1)) (fun y2 ey2 => ?_)
      exact h_self12 _ _ _ _ h_x6_38 ey2
  · refine sim_bd (s_X3_contains h_x5_12 h_x7_38 h_r_3) (fun r_48 gr_48 h_r_48 => ?_)
    refine sim_if (ic_eq h_r_48 (qi_lit 0)) ?_ ?_
    · refine sim_sq (ia_add h_x7_38 (qi_lit 1)) (fun y3 ey3 => ?_)
      exact h_self38 _ _ _ _ h_x6_38 ey3
    · refine sim_inb h_x2 (by decide) (fun hc4 => ?_)
      refine sim_inb h_x7_38 (by decide) (fun hc5 => ?_)
      refine sim_if (ic_eq h_x7_38 h_x3) ?_ ?_
      · refine sim_rd h_r_3 (at_x (atkr4 (k := 26) (o := o) (by decide) rfl h_x2 hc4) h_x7_38 hc5 (by decide)) (fun y6 ey6 => ?_)
        refine sim_lt (ia_sub ey6 (qi_lit 1)) (fun y79_2 gy79_2 h_y79_2 => ?_)
        refine sim_sq (ia_add h_x6_38 h_y79_2) (fun y7 ey7 => ?_)
        refine sim_sq (ia_add h_x7_38 (qi_lit 1)) (fun y8 ey8 => ?_)
        exact h_self38 _ _ _ _ ey7 ey8
      · refine sim_rd h_r_3 (at_x (atkr4 (k := 26) (o := o) (by decide) rfl h_x2 hc4) h_x7_38 hc5 (by decide)) (fun y9 ey9 => ?_)
        refine sim_lt (ia_sub ey9 (qi_lit 0)) (fun y79_1 gy79_1 h_y79_1 => ?_)
        refine sim_sq (ia_add h_x6_38 h_y79_1) (fun y10 ey10 => ?_)
        refine sim_sq (ia_add h_x7_38 (qi_lit 1)) (fun y11 ey11 => ?_)
        exact h_self38 _ _ _ _ ey10 ey11
set_option maxRecDepth 20000 in
theorem sl_X3_lackBySets_12 {o : Nat} {x2 : Int32} {gx2 : Nat} {x3 : Int32} {gx3 : Nat} {r_3 : mC} {gr_3 : MG} {self12 : Int32 → Int32 → Option (Int32 × mC)} {gself12 : Nat → Nat → Option (Nat × MG)} (h_o : o < 7) (h_x2 : RI x2 gx2) (h_x3 : RI x3 gx3) (h_r_3 : RM r_3 gr_3) (h_self12 : (fun (X : Int32 → Int32 → Option (Int32 × mC)) (X2 : Nat → Nat → Option (Nat × MG)) => ∀ (a0 : Int32) (b0 : Nat) (a1 : Int32) (b1 : Nat), RI a0 b0 → RI a1 b1 → Sim RP (X a0 a1) (X2 b0 b1)) self12 gself12) : (fun (X : Int32 → Int32 → Option (Int32 × mC)) (X2 : Nat → Nat → Option (Nat × MG)) => ∀ (a0 : Int32) (b0 : Nat) (a1 : Int32) (b1 : Nat), RI a0 b0 → RI a1 b1 → Sim RP (X a0 a1) (X2 b0 b1)) (L_X3_lackBySets_12 o x2 x3 r_3 self12) (GL_X3_lackBySets_12 o gx2 gx3 gr_3 gself12) := by
  intro x4_12 gx4_12 x5_12 gx5_12 h_x4_12 h_x5_12
  show Sim RP _ _
  unfold L_X3_lackBySets_12 GL_X3_lackBySets_12
  show Sim RP _ _
  refine sim_if (ic_le (qi_lit 16) h_x5_12) ?_ ?_
  · exact sim_P h_x4_12 h_r_3
  · refine sim_rd h_r_3 (at_n0 (i := 0) (atkb (k := 2) (o := o) (L := 1) (by decide) rfl h_o) (by decide)) (fun y1 ey1 => ?_)
    refine sim_bd (s_X3_countWhoCanSing h_x5_12 ey1 h_r_3) (fun r_29 gr_29 h_r_29 => ?_)
    refine sim_sq (ia_neg h_r_29) (fun y2 ey2 => ?_)
    refine lp_sim (fun (X : Int32 → Int32 → Option (Int32 × mC)) (X2 : Nat → Nat → Option (Nat × MG)) => ∀ (a0 : Int32) (b0 : Nat) (a1 : Int32) (b1 : Nat), RI a0 b0 → RI a1 b1 → Sim RP (X a0 a1) (X2 b0 b1)) (fun _ _ _ _ _ _ => sim_none) (fun self gself hself => ?_) 8192 _ _ _ _ ey2 (qi_lit 0)
    · exact sl_X3_lackBySets_38 h_o h_x2 h_x3 h_x4_12 h_x5_12 h_self12 h_r_3 hself
set_option maxRecDepth 20000 in
theorem s_X3_lackBySets {o : Nat} {x2 : Int32} {gx2 : Nat} {x3 : Int32} {gx3 : Nat} {v : mC} {gv : MG} (h_o : o < 7) (h_x2 : RI x2 gx2) (h_x3 : RI x3 gx3) (h_v : RM v gv) : Sim RP (f_X3_lackBySets o x2 x3 v) (g_X3_lackBySets o gx2 gx3 gv) := by
  unfold f_X3_lackBySets g_X3_lackBySets
  refine sim_bd (s_X3_listWhoCanSing h_o h_x2 h_v) (fun r_3 gr_3 h_r_3 => ?_)
  refine lp_sim (fun (X : Int32 → Int32 → Option (Int32 × mC)) (X2 : Nat → Nat → Option (Nat × MG)) => ∀ (a0 : Int32) (b0 : Nat) (a1 : Int32) (b1 : Nat), RI a0 b0 → RI a1 b1 → Sim RP (X a0 a1) (X2 b0 b1)) (fun _ _ _ _ _ _ => sim_none) (fun self gself hself => ?_) 8192 _ _ _ _ (qi_lit 0) (qi_lit 0)
  · exact sl_X3_lackBySets_12 h_o h_x2 h_x3 h_r_3 hself
set_option maxRecDepth 20000 in
theorem s_X6_shortfallBySets {x1 : Int32} {gx1 : Nat} {v : mC} {gv : MG} (h_x1 : RI x1 gx1) (h_v : RM v gv) : Sim RT (f_X6_shortfallBySets x1 v) (g_X6_shortfallBySets gx1 gv) := by
  unfold f_X6_shortfallBySets g_X6_shortfallBySets
  refine sim_jn (fun (X : Int32 → Option (Int32 × Nat × mC)) (X2 : Nat → Option (Nat × Nat × MG)) => ∀ (a0 : Int32) (b0 : Nat), RI a0 b0 → Sim RT (X a0) (X2 b0)) ?_ (fun j21 gj21 h_j21 => ?_)
  · intro s0_21 gs0_21 h_s0_21
    refine sim_tb (s_X6_refuseIf h_s0_21 h_v) (fun r_21 gr_21 h_r_21 w_21 gw_21 h_w_21 => ?_)
    refine sim_bd (s_X3_lackBySets (by decide) h_x1 il_m1 h_w_21) (fun r_34 gr_34 h_r_34 => ?_)
    exact sim_T h_r_34.1 h_r_34.2
  · refine sim_tb (s_X6_requireFeast h_x1 h_v) (fun r_2 gr_2 h_r_2 w_2 gw_2 h_w_2 => ?_)
    refine sim_bd (s_X0_hasHeld (by decide) h_x1 h_w_2) (fun r_10 gr_10 h_r_10 => ?_)
    refine sim_if (ic_eq h_r_10 (qi_lit 0)) ?_ ?_
    · exact h_j21 _ _ (qi_lit 0)
    · exact h_j21 _ _ (qi_lit 3)
set_option maxRecDepth 20000 in
theorem sl_X6_neededLine_40 {x1 : Int32} {gx1 : Nat} {r_34 : (Int32 × mC)} {gr_34 : (Nat × MG)} {self40 : Int32 → mC → Option (Int32 × Nat × mC)} {gself40 : Nat → MG → Option (Nat × Nat × MG)} (h_x1 : RI x1 gx1) (h_r_34 : RP r_34 gr_34) (h_self40 : (fun (X : Int32 → mC → Option (Int32 × Nat × mC)) (X2 : Nat → MG → Option (Nat × Nat × MG)) => ∀ (a0 : Int32) (b0 : Nat) (a1 : mC) (b1 : MG), RI a0 b0 → RM a1 b1 → Sim RT (X a0 a1) (X2 b0 b1)) self40 gself40) : (fun (X : Int32 → mC → Option (Int32 × Nat × mC)) (X2 : Nat → MG → Option (Nat × Nat × MG)) => ∀ (a0 : Int32) (b0 : Nat) (a1 : mC) (b1 : MG), RI a0 b0 → RM a1 b1 → Sim RT (X a0 a1) (X2 b0 b1)) (L_X6_neededLine_40 x1 r_34 self40) (GL_X6_neededLine_40 gx1 gr_34 gself40) := by
  intro x3_40 gx3_40 v_40 gv_40 h_x3_40 h_v_40
  show Sim RT _ _
  unfold L_X6_neededLine_40 GL_X6_neededLine_40
  show Sim RT _ _
  refine sim_if (ic_le (qi_lit 4) h_x3_40) ?_ ?_
  · exact sim_T il_m1 h_v_40
  · refine sim_inb h_x1 (by decide) (fun hc1 => ?_)
    refine sim_inb h_x3_40 (by decide) (fun hc2 => ?_)
    refine sim_rd h_v_40 (at_x (atkr4 (k := 26) (o := 0) (by decide) rfl h_x1 hc1) h_x3_40 hc2 (by decide)) (fun y3 ey3 => ?_)
    refine sim_if (ic_le ey3 (qi_lit 0)) ?_ ?_
    · refine sim_sq (ia_add h_x3_40 (qi_lit 1)) (fun y4 ey4 => ?_)
      exact h_self40 _ _ _ _ ey4 h_v_40
    · refine sim_bd (s_X3_lackBySets (by decide) h_x1 h_x3_40 h_v_40) (fun r_72 gr_72 h_r_72 => ?_)
      refine sim_if (ic_le h_r_34.1 h_r_72.1) ?_ ?_
      · refine sim_sq (ia_add h_x3_40 (qi_lit 1)) (fun y5 ey5 => ?_)
        exact h_self40 _ _ _ _ ey5 h_r_72.2
      · exact sim_T h_x3_40 h_r_72.2
set_option maxRecDepth 20000 in
theorem s_X6_neededLine {x1 : Int32} {gx1 : Nat} {v : mC} {gv : MG} (h_x1 : RI x1 gx1) (h_v : RM v gv) : Sim RT (f_X6_neededLine x1 v) (g_X6_neededLine gx1 gv) := by
  unfold f_X6_neededLine g_X6_neededLine
  refine sim_jn (fun (X : Int32 → Option (Int32 × Nat × mC)) (X2 : Nat → Option (Nat × Nat × MG)) => ∀ (a0 : Int32) (b0 : Nat), RI a0 b0 → Sim RT (X a0) (X2 b0)) ?_ (fun j21 gj21 h_j21 => ?_)
  · intro s0_21 gs0_21 h_s0_21
    refine sim_tb (s_X6_refuseIf h_s0_21 h_v) (fun r_21 gr_21 h_r_21 w_21 gw_21 h_w_21 => ?_)
    refine sim_bd (s_X3_lackBySets (by decide) h_x1 il_m1 h_w_21) (fun r_34 gr_34 h_r_34 => ?_)
    refine lp_sim (fun (X : Int32 → mC → Option (Int32 × Nat × mC)) (X2 : Nat → MG → Option (Nat × Nat × MG)) => ∀ (a0 : Int32) (b0 : Nat) (a1 : mC) (b1 : MG), RI a0 b0 → RM a1 b1 → Sim RT (X a0 a1) (X2 b0 b1)) (fun _ _ _ _ _ _ => sim_none) (fun self gself hself => ?_) 8192 _ _ _ _ (qi_lit 0) h_r_34.2
    · exact sl_X6_neededLine_40 h_x1 h_r_34 hself
  · refine sim_tb (s_X6_requireFeast h_x1 h_v) (fun r_2 gr_2 h_r_2 w_2 gw_2 h_w_2 => ?_)
    refine sim_bd (s_X0_hasHeld (by decide) h_x1 h_w_2) (fun r_10 gr_10 h_r_10 => ?_)
    refine sim_if (ic_eq h_r_10 (qi_lit 0)) ?_ ?_
    · exact h_j21 _ _ (qi_lit 0)
    · exact h_j21 _ _ (qi_lit 3)
set_option maxRecDepth 20000 in
theorem sl_X3_descantToCome_33 {o : Nat} {x2 : Int32} {gx2 : Nat} {self33 : Int32 → Int32 → mC → Option (Int32 × mC)} {gself33 : Nat → Nat → MG → Option (Nat × MG)} (h_o : o < 7) (h_x2 : RI x2 gx2) (h_self33 : (fun (X : Int32 → Int32 → mC → Option (Int32 × mC)) (X2 : Nat → Nat → MG → Option (Nat × MG)) => ∀ (a0 : Int32) (b0 : Nat) (a1 : Int32) (b1 : Nat) (a2 : mC) (b2 : MG), RI a0 b0 → RI a1 b1 → RM a2 b2 → Sim RP (X a0 a1 a2) (X2 b0 b1 b2)) self33 gself33) : (fun (X : Int32 → Int32 → mC → Option (Int32 × mC)) (X2 : Nat → Nat → MG → Option (Nat × MG)) => ∀ (a0 : Int32) (b0 : Nat) (a1 : Int32) (b1 : Nat) (a2 : mC) (b2 : MG), RI a0 b0 → RI a1 b1 → RM a2 b2 → Sim RP (X a0 a1 a2) (X2 b0 b1 b2)) (L_X3_descantToCome_33 o x2 self33) (GL_X3_descantToCome_33 o gx2 gself33) := by
  intro x3_33 gx3_33 x4_33 gx4_33 v_33 gv_33 h_x3_33 h_x4_33 h_v_33
  show Sim RP _ _
  unfold L_X3_descantToCome_33 GL_X3_descantToCome_33
  show Sim RP _ _
  refine sim_if (ic_le (qi_lit 20) h_x4_33) ?_ ?_
  · exact sim_P il_m1 h_v_33
  · refine sim_if (ic_eq h_x3_33 il_m1) ?_ ?_
    · exact sim_P il_m1 h_v_33
    · refine sim_bd (s_X3_make h_o h_x3_33 h_v_33) (fun r_48 gr_48 h_r_48 => ?_)
      refine sim_bd (s_X3_chooseDescant h_o (atk0 (k := 40) (L := 30) (by decide) rfl) h_r_48) (fun r_60 gr_60 h_r_60 => ?_)
      refine sim_if (ic_eq h_x3_33 h_x2) ?_ ?_
      · exact sim_P h_r_60 h_r_48
      · refine sim_jn (fun (X : mC → Option (Int32 × mC)) (X2 : MG → Option (Nat × MG)) => ∀ (a0 : mC) (b0 : MG), RM a0 b0 → Sim RP (X a0) (X2 b0)) ?_ (fun j90 gj90 h_j90 => ?_)
        · intro v_90 gv_90 h_v_90
          refine sim_inb h_x3_33 (by decide) (fun hc1 => ?_)
          refine sim_rd h_v_90 (at_x0 (atkb (k := 19) (o := o) (L := 20) (by decide) rfl h_o) h_x3_33 hc1 (by decide)) (fun y2 ey2 => ?_)
          refine sim_bd (s_X1_nextAfter h_o ey2 h_v_90) (fun r_103 gr_103 h_r_103 => ?_)
          refine sim_sq (ia_add h_x4_33 (qi_lit 1)) (fun y3 ey3 => ?_)
          exact h_self33 _ _ _ _ _ _ h_r_103 ey3 h_v_90
        · refine sim_if (ic_eq h_r_60 il_m1) ?_ ?_
          · exact h_j90 _ _ h_r_48
          · refine sim_inb h_r_60 (by decide) (fun hc4 => ?_)
            refine sim_inb0 h_r_60 hc4 (by decide) ?_
            refine sim_rd h_r_48 (at_x0 (atk0 (k := 40) (L := 30) (by decide) rfl) h_r_60 hc4 (by decide)) (fun y5 ey5 => ?_)
            refine sim_sq (ia_add ey5 (qi_lit 1)) (fun y6 ey6 => ?_)
            refine sim_wr h_r_48 (at_x0 (atk0 (k := 40) (L := 30) (by decide) rfl) h_r_60 hc4 (by decide)) ey6 (fun w89_2 gw89_2 h_w89_2 => ?_)
            exact h_j90 _ _ h_w89_2
set_option maxRecDepth 20000 in
theorem s_X3_descantToCome {o : Nat} {x2 : Int32} {gx2 : Nat} {v : mC} {gv : MG} (h_o : o < 7) (h_x2 : RI x2 gx2) (h_v : RM v gv) : Sim RP (f_X3_descantToCome o x2 v) (g_X3_descantToCome o gx2 gv) := by
  unfold f_X3_descantToCome g_X3_descantToCome
  refine sim_cpo (qi_lit 30) (by decide) (fun hc1 => ?_)
  refine sim_cp h_v (atk0 (k := 40) (L := 30) (by decide) rfl) (atkb (k := 13) (o := o) (L := 30) (by decide) rfl h_o) (qi_lit 30) (by decide) (by decide) (fun w15_1 gw15_1 h_w15_1 => ?_)
  refine sim_rd h_w15_1 (at_n0 (i := 0) (atkb (k := 1) (o := o) (L := 10) (by decide) rfl h_o) (by decide)) (fun y2 ey2 => ?_)
  refine sim_bd (s_X1_nextAfter h_o ey2 h_w15_1) (fun r_26 gr_26 h_r_26 => ?_)
  refine lp_sim (fun (X : Int32 → Int32 → mC → Option (Int32 × mC)) (X2 : Nat → Nat → MG → Option (Nat × MG)) => ∀ (a0 : Int32) (b0 : Nat) (a1 : Int32) (b1 : Nat) (a2 : mC) (b2 : MG), RI a0 b0 → RI a1 b1 → RM a2 b2 → Sim RP (X a0 a1 a2) (X2 b0 b1 b2)) (fun _ _ _ _ _ _ _ _ _ => sim_none) (fun self gself hself => ?_) 8192 _ _ _ _ _ _ h_r_26 (qi_lit 0) h_w15_1
  · exact sl_X3_descantToCome_33 h_o h_x2 hself
set_option maxRecDepth 20000 in
theorem s_X6_descantIn {x1 : Int32} {gx1 : Nat} {v : mC} {gv : MG} (h_x1 : RI x1 gx1) (h_v : RM v gv) : Sim RT (f_X6_descantIn x1 v) (g_X6_descantIn gx1 gv) := by
  unfold f_X6_descantIn g_X6_descantIn
  refine sim_tb (s_X6_requireFeast h_x1 h_v) (fun r_2 gr_2 h_r_2 w_2 gw_2 h_w_2 => ?_)
  refine sim_bd (s_X0_hasHeld (by decide) h_x1 h_w_2) (fun r_10 gr_10 h_r_10 => ?_)
  refine sim_if (ic_eq h_r_10 (qi_lit 0)) ?_ ?_
  · refine sim_bd (s_X3_descantToCome (by decide) h_x1 h_w_2) (fun r_40 gr_40 h_r_40 => ?_)
    exact sim_T h_r_40.1 h_r_40.2
  · refine sim_inb h_x1 (by decide) (fun hc1 => ?_)
    refine sim_rd h_w_2 (at_x0 (atkb (k := 21) (o := 0) (L := 20) (by decide) rfl (by decide)) h_x1 hc1 (by decide)) (fun y2 ey2 => ?_)
    exact sim_T ey2 h_w_2
set_option maxRecDepth 20000 in
theorem s_X5_sitsBefore {o : Nat} {x1 : Int32} {gx1 : Nat} {x2 : Int32} {gx2 : Nat} {v : mC} {gv : MG} (h_o : o < 7) (h_x1 : RI x1 gx1) (h_x2 : RI x2 gx2) (h_v : RM v gv) : Sim RI (f_X5_sitsBefore o x1 x2 v) (g_X5_sitsBefore o gx1 gx2 gv) := by
  unfold f_X5_sitsBefore g_X5_sitsBefore
  refine sim_inb h_x1 (by decide) (fun hc1 => ?_)
  refine sim_inb h_x2 (by decide) (fun hc2 => ?_)
  refine sim_rd h_v (at_x0 (atkb (k := 3) (o := o) (L := 30) (by decide) rfl h_o) h_x1 hc1 (by decide)) (fun y3 ey3 => ?_)
  refine sim_rd h_v (at_x0 (atkb (k := 3) (o := o) (L := 30) (by decide) rfl h_o) h_x2 hc2 (by decide)) (fun y4 ey4 => ?_)
  refine sim_if (ic_lt ey3 ey4) ?_ ?_
  · refine sim_zb1 ?_
    exact sim_Iv (qi_lit 1)
  · refine sim_inb0 h_x1 hc1 (by decide) ?_
    refine sim_inb0 h_x2 hc2 (by decide) ?_
    refine sim_if (ic_eq ey3 ey4) ?_ ?_
    · refine sim_if (ic_le h_x2 h_x1) ?_ ?_
      · refine sim_zb0 ?_
        exact sim_Iv (qi_lit 0)
      · refine sim_zb1 ?_
        exact sim_Iv (qi_lit 1)
    · refine sim_zb0 ?_
      exact sim_Iv (qi_lit 0)
set_option maxRecDepth 20000 in
theorem sl_X3_rankByHeight_17 {o : Nat} {x2 : Int32} {gx2 : Nat} {v : mC} {gv : MG} {self17 : Int32 → Int32 → Option Int32} {gself17 : Nat → Nat → Option Nat} (h_o : o < 7) (h_x2 : RI x2 gx2) (h_v : RM v gv) (h_self17 : (fun (X : Int32 → Int32 → Option Int32) (X2 : Nat → Nat → Option Nat) => ∀ (a0 : Int32) (b0 : Nat) (a1 : Int32) (b1 : Nat), RI a0 b0 → RI a1 b1 → Sim RI (X a0 a1) (X2 b0 b1)) self17 gself17) : (fun (X : Int32 → Int32 → Option Int32) (X2 : Nat → Nat → Option Nat) => ∀ (a0 : Int32) (b0 : Nat) (a1 : Int32) (b1 : Nat), RI a0 b0 → RI a1 b1 → Sim RI (X a0 a1) (X2 b0 b1)) (L_X3_rankByHeight_17 o x2 v self17) (GL_X3_rankByHeight_17 o gx2 gv gself17) := by
  intro x3_17 gx3_17 x4_17 gx4_17 h_x3_17 h_x4_17
  show Sim RI _ _
  unfold L_X3_rankByHeight_17 GL_X3_rankByHeight_17
  show Sim RI _ _
  refine sim_rd h_v (at_n0 (i := 0) (atkb (k := 2) (o := o) (L := 1) (by decide) rfl h_o) (by decide)) (fun y1 ey1 => ?_)
  refine sim_if (ic_le ey1 h_x4_17) ?_ ?_
  · exact sim_Iv h_x3_17
  · refine sim_inb h_x4_17 (by decide) (fun hc2 => ?_)
    refine sim_inb h_x2 (by decide) (fun hc3 => ?_)
    refine sim_rd h_v (at_x0 (atk0 (k := 36) (L := 30) (by decide) rfl) h_x4_17 hc2 (by decide)) (fun y4 ey4 => ?_)
    refine sim_rd h_v (at_x0 (atk0 (k := 36) (L := 30) (by decide) rfl) h_x2 hc3 (by decide)) (fun y5 ey5 => ?_)
    refine sim_if (ic_eq ey4 ey5) ?_ ?_
    · refine sim_bd (s_X5_sitsBefore h_o h_x4_17 h_x2 h_v) (fun r_46 gr_46 h_r_46 => ?_)
      refine sim_if (ic_eq h_r_46 (qi_lit 0)) ?_ ?_
      · refine sim_sq (ia_add h_x4_17 (qi_lit 1)) (fun y6 ey6 => ?_)
        exact h_self17 _ _ _ _ h_x3_17 ey6
      · refine sim_sq (ia_add h_x3_17 (qi_lit 1)) (fun y7 ey7 => ?_)
        refine sim_sq (ia_add h_x4_17 (qi_lit 1)) (fun y8 ey8 => ?_)
        exact h_self17 _ _ _ _ ey7 ey8
    · refine sim_sq (ia_add h_x4_17 (qi_lit 1)) (fun y9 ey9 => ?_)
      exact h_self17 _ _ _ _ h_x3_17 ey9
set_option maxRecDepth 20000 in
theorem s_X3_rankByHeight {o : Nat} {x2 : Int32} {gx2 : Nat} {v : mC} {gv : MG} (h_o : o < 7) (h_x2 : RI x2 gx2) (h_v : RM v gv) : Sim RI (f_X3_rankByHeight o x2 v) (g_X3_rankByHeight o gx2 gv) := by
  unfold f_X3_rankByHeight g_X3_rankByHeight
  refine sim_inb h_x2 (by decide) (fun hc1 => ?_)
  refine sim_rd h_v (at_x0 (atk0 (k := 36) (L := 30) (by decide) rfl) h_x2 hc1 (by decide)) (fun y2 ey2 => ?_)
  refine sim_if (ic_eq ey2 il_m1) ?_ ?_
  · exact sim_Iv il_m1
  · refine lp_sim (fun (X : Int32 → Int32 → Option Int32) (X2 : Nat → Nat → Option Nat) => ∀ (a0 : Int32) (b0 : Nat) (a1 : Int32) (b1 : Nat), RI a0 b0 → RI a1 b1 → Sim RI (X a0 a1) (X2 b0 b1)) (fun _ _ _ _ _ _ => sim_none) (fun self gself hself => ?_) 8192 _ _ _ _ (qi_lit 0) (qi_lit 0)
    · exact sl_X3_rankByHeight_17 h_o h_x2 h_v hself
set_option maxRecDepth 20000 in
theorem s_X6_pewOf {x1 : Int32} {gx1 : Nat} {x2 : Int32} {gx2 : Nat} {v : mC} {gv : MG} (h_x1 : RI x1 gx1) (h_x2 : RI x2 gx2) (h_v : RM v gv) : Sim RT (f_X6_pewOf x1 x2 v) (g_X6_pewOf gx1 gx2 gv) := by
  unfold f_X6_pewOf g_X6_pewOf
  refine sim_tb (s_X6_requireFeast h_x1 h_v) (fun r_2 gr_2 h_r_2 w_2 gw_2 h_w_2 => ?_)
  refine sim_tb (s_X6_requireSinger h_x2 h_w_2) (fun r_7 gr_7 h_r_7 w_7 gw_7 h_w_7 => ?_)
  refine sim_bd (s_X3_tell (by decide) h_x1 h_w_7) (fun r_19 gr_19 h_r_19 => ?_)
  refine sim_bd (s_X3_rankByHeight (by decide) h_x2 h_r_19) (fun r_34 gr_34 h_r_34 => ?_)
  refine sim_if (ic_eq h_r_34 il_m1) ?_ ?_
  · exact sim_T il_m1 h_r_19
  · refine sim_chk (fun hc1 => ?_)
    exact sim_T (ia_div (d := 2) h_r_34 hc1 (by decide) (by decide)) h_r_19
set_option maxRecDepth 20000 in
theorem s_X6_seatOf {x1 : Int32} {gx1 : Nat} {x2 : Int32} {gx2 : Nat} {v : mC} {gv : MG} (h_x1 : RI x1 gx1) (h_x2 : RI x2 gx2) (h_v : RM v gv) : Sim RT (f_X6_seatOf x1 x2 v) (g_X6_seatOf gx1 gx2 gv) := by
  unfold f_X6_seatOf g_X6_seatOf
  refine sim_tb (s_X6_requireFeast h_x1 h_v) (fun r_2 gr_2 h_r_2 w_2 gw_2 h_w_2 => ?_)
  refine sim_tb (s_X6_requireSinger h_x2 h_w_2) (fun r_7 gr_7 h_r_7 w_7 gw_7 h_w_7 => ?_)
  refine sim_bd (s_X3_tell (by decide) h_x1 h_w_7) (fun r_19 gr_19 h_r_19 => ?_)
  refine sim_bd (s_X3_rankByHeight (by decide) h_x2 h_r_19) (fun r_34 gr_34 h_r_34 => ?_)
  refine sim_if (ic_eq h_r_34 il_m1) ?_ ?_
  · exact sim_T il_m1 h_r_19
  · refine sim_chk (fun hc1 => ?_)
    exact sim_T (ia_sub h_r_34 (ia_mul (ia_div (d := 2) h_r_34 hc1 (by decide) (by decide)) (qi_lit 2))) h_r_19
set_option maxRecDepth 20000 in
theorem sl_X6_firstShortFeast_20 {self20 : Int32 → Int32 → mC → Option (Int32 × mC)} {gself20 : Nat → Nat → MG → Option (Nat × MG)} (h_self20 : (fun (X : Int32 → Int32 → mC → Option (Int32 × mC)) (X2 : Nat → Nat → MG → Option (Nat × MG)) => ∀ (a0 : Int32) (b0 : Nat) (a1 : Int32) (b1 : Nat) (a2 : mC) (b2 : MG), RI a0 b0 → RI a1 b1 → RM a2 b2 → Sim RP (X a0 a1 a2) (X2 b0 b1 b2)) self20 gself20) : (fun (X : Int32 → Int32 → mC → Option (Int32 × mC)) (X2 : Nat → Nat → MG → Option (Nat × MG)) => ∀ (a0 : Int32) (b0 : Nat) (a1 : Int32) (b1 : Nat) (a2 : mC) (b2 : MG), RI a0 b0 → RI a1 b1 → RM a2 b2 → Sim RP (X a0 a1 a2) (X2 b0 b1 b2)) (L_X6_firstShortFeast_20 self20) (GL_X6_firstShortFeast_20 gself20) := by
  intro x1_20 gx1_20 x2_20 gx2_20 v_20 gv_20 h_x1_20 h_x2_20 h_v_20
  show Sim RP _ _
  unfold L_X6_firstShortFeast_20 GL_X6_firstShortFeast_20
  show Sim RP _ _
  refine sim_if (ic_le (qi_lit 20) h_x2_20) ?_ ?_
  · exact sim_P il_m1 h_v_20
  · refine sim_if (ic_eq h_x1_20 il_m1) ?_ ?_
    · exact sim_P il_m1 h_v_20
    · refine sim_bd (s_X3_lackBySets (by decide) h_x1_20 il_m1 h_v_20) (fun r_41 gr_41 h_r_41 => ?_)
      refine sim_if (ic_le h_r_41.1 (qi_lit 0)) ?_ ?_
      · refine sim_inb h_x1_20 (by decide) (fun hc1 => ?_)
        refine sim_rd h_r_41.2 (at_x0 (atkb (k := 19) (o := 0) (L := 20) (by decide) rfl (by decide)) h_x1_20 hc1 (by decide)) (fun y2 ey2 => ?_)
        refine sim_bd (s_X1_nextAfter (by decide) ey2 h_r_41.2) (fun r_68 gr_68 h_r_68 => ?_)
        refine sim_sq (ia_add h_x2_20 (qi_lit 1)) (fun y3 ey3 => ?_)
        exact h_self20 _ _ _ _ _ _ h_r_68 ey3 h_r_41.2
      · exact sim_P h_x1_20 h_r_41.2
set_option maxRecDepth 20000 in
theorem s_X6_firstShortFeast {v : mC} {gv : MG} (h_v : RM v gv) : Sim RP (f_X6_firstShortFeast v) (g_X6_firstShortFeast gv) := by
  unfold f_X6_firstShortFeast g_X6_firstShortFeast
  refine sim_rd h_v (at_n0 (i := 0) (atkb (k := 1) (o := 0) (L := 10) (by decide) rfl (by decide)) (by decide)) (fun y1 ey1 => ?_)
  refine sim_bd (s_X1_nextAfter (by decide) ey1 h_v) (fun r_14 gr_14 h_r_14 => ?_)
  refine lp_sim (fun (X : Int32 → Int32 → mC → Option (Int32 × mC)) (X2 : Nat → Nat → MG → Option (Nat × MG)) => ∀ (a0 : Int32) (b0 : Nat) (a1 : Int32) (b1 : Nat) (a2 : mC) (b2 : MG), RI a0 b0 → RI a1 b1 → RM a2 b2 → Sim RP (X a0 a1 a2) (X2 b0 b1 b2)) (fun _ _ _ _ _ _ _ _ _ => sim_none) (fun self gself hself => ?_) 8192 _ _ _ _ _ _ h_r_14 (qi_lit 0) h_v
  · exact sl_X6_firstShortFeast_20  hself
set_option maxRecDepth 20000 in
theorem s_X6_favoursOf {x1 : Int32} {gx1 : Nat} {v : mC} {gv : MG} (h_x1 : RI x1 gx1) (h_v : RM v gv) : Sim RT (f_X6_favoursOf x1 v) (g_X6_favoursOf gx1 gv) := by
  unfold f_X6_favoursOf g_X6_favoursOf
  refine sim_jn (fun (X : Int32 → Option (Int32 × Nat × mC)) (X2 : Nat → Option (Nat × Nat × MG)) => ∀ (a0 : Int32) (b0 : Nat), RI a0 b0 → Sim RT (X a0) (X2 b0)) ?_ (fun j14 gj14 h_j14 => ?_)
  · intro s0_14 gs0_14 h_s0_14
    refine sim_tb (s_X6_refuseIf h_s0_14 h_v) (fun r_14 gr_14 h_r_14 w_14 gw_14 h_w_14 => ?_)
    refine sim_inb h_x1 (by decide) (fun hc1 => ?_)
    refine sim_rd h_w_14 (at_x0 (atkb (k := 30) (o := 0) (L := 5) (by decide) rfl (by decide)) h_x1 hc1 (by decide)) (fun y2 ey2 => ?_)
    exact sim_T ey2 h_w_14
  · refine sim_bd (s_X6_isWithin h_x1 (qi_lit 0) (qi_lit 4) h_v) (fun r_3 gr_3 h_r_3 => ?_)
    refine sim_if (ic_eq h_r_3 (qi_lit 0)) ?_ ?_
    · exact h_j14 _ _ (qi_lit 1)
    · exact h_j14 _ _ (qi_lit 0)
set_option maxRecDepth 20000 in
theorem s_X6_purse {v : mC} {gv : MG} (h_v : RM v gv) : Sim RI (f_X6_purse v) (g_X6_purse gv) := by
  unfold f_X6_purse g_X6_purse
  refine sim_rd h_v (at_n0 (i := 5) (atkb (k := 1) (o := 0) (L := 10) (by decide) rfl (by decide)) (by decide)) (fun y1 ey1 => ?_)
  exact sim_Iv ey1
set_option maxRecDepth 20000 in
theorem s_X6_purseByAccounts {v : mC} {gv : MG} (h_v : RM v gv) : Sim RI (f_X6_purseByAccounts v) (g_X6_purseByAccounts gv) := by
  unfold f_X6_purseByAccounts g_X6_purseByAccounts
  refine sim_rd h_v (at_n0 (i := 7) (atkb (k := 1) (o := 0) (L := 10) (by decide) rfl (by decide)) (by decide)) (fun y1 ey1 => ?_)
  refine sim_rd h_v (at_n0 (i := 6) (atkb (k := 1) (o := 0) (L := 10) (by decide) rfl (by decide)) (by decide)) (fun y2 ey2 => ?_)
  refine sim_lt (ia_add (ia_add (qi_lit 50) ey1) ey2) (fun y17_1 gy17_1 h_y17_1 => ?_)
  refine sim_rd h_v (at_n0 (i := 8) (atkb (k := 1) (o := 0) (L := 10) (by decide) rfl (by decide)) (by decide)) (fun y3 ey3 => ?_)
  refine sim_rd h_v (at_n0 (i := 9) (atkb (k := 1) (o := 0) (L := 10) (by decide) rfl (by decide)) (by decide)) (fun y4 ey4 => ?_)
  refine sim_lt (ia_sub (ia_sub h_y17_1 ey3) ey4) (fun y33_2 gy33_2 h_y33_2 => ?_)
  exact sim_Iv h_y33_2
set_option maxRecDepth 20000 in
theorem s_X6_collected {v : mC} {gv : MG} (h_v : RM v gv) : Sim RI (f_X6_collected v) (g_X6_collected gv) := by
  unfold f_X6_collected g_X6_collected
  refine sim_rd h_v (at_n0 (i := 7) (atkb (k := 1) (o := 0) (L := 10) (by decide) rfl (by decide)) (by decide)) (fun y1 ey1 => ?_)
  exact sim_Iv ey1
set_option maxRecDepth 20000 in
theorem s_X6_fees {v : mC} {gv : MG} (h_v : RM v gv) : Sim RI (f_X6_fees v) (g_X6_fees gv) := by
  unfold f_X6_fees g_X6_fees
  refine sim_rd h_v (at_n0 (i := 8) (atkb (k := 1) (o := 0) (L := 10) (by decide) rfl (by decide)) (by decide)) (fun y1 ey1 => ?_)
  exact sim_Iv ey1
set_option maxRecDepth 20000 in
theorem s_X6_fines {v : mC} {gv : MG} (h_v : RM v gv) : Sim RI (f_X6_fines v) (g_X6_fines gv) := by
  unfold f_X6_fines g_X6_fines
  refine sim_rd h_v (at_n0 (i := 9) (atkb (k := 1) (o := 0) (L := 10) (by decide) rfl (by decide)) (by decide)) (fun y1 ey1 => ?_)
  exact sim_Iv ey1
set_option maxRecDepth 20000 in
theorem s_X6_day {v : mC} {gv : MG} (h_v : RM v gv) : Sim RI (f_X6_day v) (g_X6_day gv) := by
  unfold f_X6_day g_X6_day
  refine sim_rd h_v (at_n0 (i := 0) (atkb (k := 1) (o := 0) (L := 10) (by decide) rfl (by decide)) (by decide)) (fun y1 ey1 => ?_)
  exact sim_Iv ey1
set_option maxRecDepth 20000 in
theorem s_X6_recordedStates {v : mC} {gv : MG} (h_v : RM v gv) : Sim RI (f_X6_recordedStates v) (g_X6_recordedStates gv) := by
  unfold f_X6_recordedStates g_X6_recordedStates
  refine sim_rd h_v (at_n0 (i := 5) (atk0 (k := 0) (L := 8) (by decide) rfl) (by decide)) (fun y1 ey1 => ?_)
  exact sim_Iv ey1
