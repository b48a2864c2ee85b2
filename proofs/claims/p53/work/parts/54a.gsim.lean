/-! the functions do what the fast ones do (printed by wip/p53/gprint.py) -/
set_option maxRecDepth 20000 in
theorem s_X6_isWithin {x0 : Int32} {gx0 : Nat} {x1 : Int32} {gx1 : Nat} {x2 : Int32} {gx2 : Nat} {v : mC} {gv : MG} (h_x0 : RI x0 gx0) (h_x1 : RI x1 gx1) (h_x2 : RI x2 gx2) (h_v : RM v gv) : Sim RI (f_X6_isWithin x0 x1 x2 v) (g_X6_isWithin gx0 gx1 gx2 gv) := by
  unfold f_X6_isWithin g_X6_isWithin
  refine sim_if (ic_lt h_x0 h_x1) ?_ ?_
  · refine sim_zb0 ?_
    exact sim_Iv (qi_lit 0)
  · refine sim_if (ic_lt h_x2 h_x0) ?_ ?_
    · refine sim_zb0 ?_
      exact sim_Iv (qi_lit 0)
    · refine sim_zb1 ?_
      exact sim_Iv (qi_lit 1)
set_option maxRecDepth 20000 in
theorem s_X6_isRange {x0 : Int32} {gx0 : Nat} {x1 : Int32} {gx1 : Nat} {v : mC} {gv : MG} (h_x0 : RI x0 gx0) (h_x1 : RI x1 gx1) (h_v : RM v gv) : Sim RI (f_X6_isRange x0 x1 v) (g_X6_isRange gx0 gx1 gv) := by
  unfold f_X6_isRange g_X6_isRange
  refine sim_bd (s_X6_isWithin h_x0 (qi_lit 0) (qi_lit 48) h_v) (fun r_4 gr_4 h_r_4 => ?_)
  refine sim_if (ic_eq h_r_4 (qi_lit 0)) ?_ ?_
  · refine sim_zb0 ?_
    exact sim_Iv (qi_lit 0)
  · refine sim_bd (s_X6_isWithin h_x1 h_x0 (qi_lit 48) h_v) (fun r_14 gr_14 h_r_14 => ?_)
    refine sim_if (ic_eq h_r_14 (qi_lit 0)) ?_ ?_
    · refine sim_zb0 ?_
      exact sim_Iv (qi_lit 0)
    · refine sim_zb1 ?_
      exact sim_Iv (qi_lit 1)
set_option maxRecDepth 20000 in
theorem s_X6_isHeightAndRange {x0 : Int32} {gx0 : Nat} {x1 : Int32} {gx1 : Nat} {x2 : Int32} {gx2 : Nat} {v : mC} {gv : MG} (h_x0 : RI x0 gx0) (h_x1 : RI x1 gx1) (h_x2 : RI x2 gx2) (h_v : RM v gv) : Sim RI (f_X6_isHeightAndRange x0 x1 x2 v) (g_X6_isHeightAndRange gx0 gx1 gx2 gv) := by
  unfold f_X6_isHeightAndRange g_X6_isHeightAndRange
  refine sim_bd (s_X6_isWithin h_x0 (qi_lit 90) (qi_lit 210) h_v) (fun r_6 gr_6 h_r_6 => ?_)
  refine sim_if (ic_eq h_r_6 (qi_lit 0)) ?_ ?_
  · refine sim_zb0 ?_
    exact sim_Iv (qi_lit 0)
  · refine sim_bd (s_X6_isRange h_x1 h_x2 h_v) (fun r_14 gr_14 h_r_14 => ?_)
    refine sim_if (ic_eq h_r_14 (qi_lit 0)) ?_ ?_
    · refine sim_zb0 ?_
      exact sim_Iv (qi_lit 0)
    · refine sim_zb1 ?_
      exact sim_Iv (qi_lit 1)
set_option maxRecDepth 20000 in
theorem s_X5_isFull {o : Nat} {v : mC} {gv : MG} (h_o : o < 7) (h_v : RM v gv) : Sim RI (f_X5_isFull o v) (g_X5_isFull o gv) := by
  unfold f_X5_isFull g_X5_isFull
  refine sim_rd h_v (at_n0 (i := 0) (atkb (k := 2) (o := o) (L := 1) (by decide) rfl h_o) (by decide)) (fun y1 ey1 => ?_)
  refine sim_if (ic_lt ey1 (qi_lit 30)) ?_ ?_
  · refine sim_zb0 ?_
    exact sim_Iv (qi_lit 0)
  · refine sim_zb1 ?_
    exact sim_Iv (qi_lit 1)
set_option maxRecDepth 20000 in
theorem s_X0_refusalToEnrol {o : Nat} {x1 : Int32} {gx1 : Nat} {x2 : Int32} {gx2 : Nat} {x3 : Int32} {gx3 : Nat} {x4 : Int32} {gx4 : Nat} {x5 : Int32} {gx5 : Nat} {v : mC} {gv : MG} (h_o : o < 7) (h_x1 : RI x1 gx1) (h_x2 : RI x2 gx2) (h_x3 : RI x3 gx3) (h_x4 : RI x4 gx4) (h_x5 : RI x5 gx5) (h_v : RM v gv) : Sim RI (f_X0_refusalToEnrol o x1 x2 x3 x4 x5 v) (g_X0_refusalToEnrol o gx1 gx2 gx3 gx4 gx5 gv) := by
  unfold f_X0_refusalToEnrol g_X0_refusalToEnrol
  refine sim_bd (s_X6_isWithin h_x1 (qi_lit 7) (qi_lit 70) h_v) (fun r_5 gr_5 h_r_5 => ?_)
  refine sim_if (ic_eq h_r_5 (qi_lit 0)) ?_ ?_
  · exact sim_Iv (qi_lit 2)
  · refine sim_bd (s_X6_isHeightAndRange h_x2 h_x3 h_x4 h_v) (fun r_15 gr_15 h_r_15 => ?_)
    refine sim_if (ic_eq h_r_15 (qi_lit 0)) ?_ ?_
    · exact sim_Iv (qi_lit 2)
    · refine sim_jn (fun (X : Unit → Option Int32) (X2 : Unit → Option Nat) => Sim RI (X ()) (X2 ())) ?_ (fun j42 gj42 h_j42 => ?_)
      · refine sim_bd (s_X5_isFull h_o h_v) (fun r_46 gr_46 h_r_46 => ?_)
        refine sim_if (ic_eq h_r_46 (qi_lit 0)) ?_ ?_
        · exact sim_Iv (qi_lit 0)
        · exact sim_Iv (qi_lit 3)
      · refine sim_if (ic_eq h_x5 (qi_lit 0)) ?_ ?_
        · exact h_j42 
        · refine sim_bd (s_X6_isWithin h_x5 (qi_lit 12) (qi_lit 17) h_v) (fun r_34 gr_34 h_r_34 => ?_)
          refine sim_if (ic_eq h_r_34 (qi_lit 0)) ?_ ?_
          · exact sim_Iv (qi_lit 2)
          · exact h_j42 
set_option maxRecDepth 20000 in
theorem s_X6_refuseIf {x0 : Int32} {gx0 : Nat} {v : mC} {gv : MG} (h_x0 : RI x0 gx0) (h_v : RM v gv) : Sim RT (f_X6_refuseIf x0 v) (g_X6_refuseIf gx0 gv) := by
  unfold f_X6_refuseIf g_X6_refuseIf
  refine sim_if (ic_eq h_x0 (qi_lit 1)) ?_ ?_
  · exact sim_T (qi_lit 0) h_v
  · refine sim_if (ic_eq h_x0 (qi_lit 2)) ?_ ?_
    · exact sim_T (qi_lit 0) h_v
    · refine sim_if (ic_eq h_x0 (qi_lit 3)) ?_ ?_
      · exact sim_T (qi_lit 0) h_v
      · exact sim_T (qi_lit 0) h_v
set_option maxRecDepth 20000 in
theorem sl_X6_forgetOldestState_9 {v : mC} {gv : MG} {self9 : Int32 → mC → Option mC} {gself9 : Nat → MG → Option MG} (h_v : RM v gv) (h_self9 : (fun (X : Int32 → mC → Option mC) (X2 : Nat → MG → Option MG) => ∀ (a0 : Int32) (b0 : Nat) (a1 : mC) (b1 : MG), RI a0 b0 → RM a1 b1 → Sim RM (X a0 a1) (X2 b0 b1)) self9 gself9) : (fun (X : Int32 → mC → Option mC) (X2 : Nat → MG → Option MG) => ∀ (a0 : Int32) (b0 : Nat) (a1 : mC) (b1 : MG), RI a0 b0 → RM a1 b1 → Sim RM (X a0 a1) (X2 b0 b1)) (L_X6_forgetOldestState_9 v self9) (GL_X6_forgetOldestState_9 gv gself9) := by
  intro x2_9 gx2_9 v_9 gv_9 h_x2_9 h_v_9
  show Sim RM _ _
  unfold L_X6_forgetOldestState_9 GL_X6_forgetOldestState_9
  show Sim RM _ _
  refine sim_if (ic_le (qi_lit 4) h_x2_9) ?_ ?_
  · refine sim_inb0 (qi_lit 3) (by decide) (by decide) ?_
    refine sim_rd h_v (at_x0 (atk0 (k := 31) (L := 4) (by decide) rfl) (qi_lit 0) (by decide) (by decide)) (fun y1 ey1 => ?_)
    refine sim_wr h_v_9 (at_x0 (atk0 (k := 31) (L := 4) (by decide) rfl) (qi_lit 3) (by decide) (by decide)) ey1 (fun w40_1 gw40_1 h_w40_1 => ?_)
    refine sim_wr h_w40_1 (at_n0 (i := 5) (atk0 (k := 0) (L := 8) (by decide) rfl) (by decide)) (qi_lit 3) (fun w43_2 gw43_2 h_w43_2 => ?_)
    exact sim_some h_w43_2
  · refine sim_inb h_x2_9 (by decide) (fun hc2 => ?_)
    refine sim_rd h_v_9 (at_x0 (atk0 (k := 31) (L := 4) (by decide) rfl) h_x2_9 hc2 (by decide)) (fun y3 ey3 => ?_)
    refine sim_ix7 ey3 (fun hc4 => ?_)
    refine sim_sq (ia_sub h_x2_9 (qi_lit 1)) (fun y5 ey5 => ?_)
    refine sim_inb ey5 (by decide) (fun hc6 => ?_)
    refine sim_wr h_v_9 (at_x0 (atk0 (k := 31) (L := 4) (by decide) rfl) ey5 hc6 (by decide)) ey3 (fun w27_3 gw27_3 h_w27_3 => ?_)
    refine sim_sq (ia_add h_x2_9 (qi_lit 1)) (fun y7 ey7 => ?_)
    exact h_self9 _ _ _ _ ey7 h_w27_3
set_option maxRecDepth 20000 in
theorem s_X6_forgetOldestState {v : mC} {gv : MG} (h_v : RM v gv) : Sim RM (f_X6_forgetOldestState v) (g_X6_forgetOldestState gv) := by
  unfold f_X6_forgetOldestState g_X6_forgetOldestState
  refine sim_inb0 (qi_lit 0) (by decide) (by decide) ?_
  refine sim_rd h_v (at_x0 (atk0 (k := 31) (L := 4) (by decide) rfl) (qi_lit 0) (by decide) (by decide)) (fun y1 ey1 => ?_)
  refine sim_ix7 ey1 (fun hc2 => ?_)
  refine lp_sim (fun (X : Int32 → mC → Option mC) (X2 : Nat → MG → Option MG) => ∀ (a0 : Int32) (b0 : Nat) (a1 : mC) (b1 : MG), RI a0 b0 → RM a1 b1 → Sim RM (X a0 a1) (X2 b0 b1)) (fun _ _ _ _ _ _ => sim_none) (fun self gself hself => ?_) 8192 _ _ _ _ (qi_lit 1) h_v
  · exact sl_X6_forgetOldestState_9 h_v hself
set_option maxRecDepth 20000 in
theorem s_X5_copyFrom {o : Nat} {o1 : Nat} {v : mC} {gv : MG} (h_o : o < 7) (h_o1 : o1 < 7) (h_v : RM v gv) : Sim RM (f_X5_copyFrom o o1 v) (g_X5_copyFrom o o1 gv) := by
  unfold f_X5_copyFrom g_X5_copyFrom
  refine sim_rd h_v (at_n0 (i := 0) (atkb (k := 2) (o := o1) (L := 1) (by decide) rfl h_o1) (by decide)) (fun y1 ey1 => ?_)
  refine sim_wr h_v (at_n0 (i := 0) (atkb (k := 2) (o := o) (L := 1) (by decide) rfl h_o) (by decide)) ey1 (fun w5_1 gw5_1 h_w5_1 => ?_)
  refine sim_rd h_w5_1 (at_n0 (i := 0) (atkb (k := 2) (o := o) (L := 1) (by decide) rfl h_o) (by decide)) (fun y2 ey2 => ?_)
  refine sim_cpo ey2 (by decide) (fun hc3 => ?_)
  refine sim_cp h_w5_1 (atkb (k := 3) (o := o) (L := 30) (by decide) rfl h_o) (atkb (k := 3) (o := o1) (L := 30) (by decide) rfl h_o1) ey2 hc3 (by decide) (fun w22_2 gw22_2 h_w22_2 => ?_)
  refine sim_rd h_w22_2 (at_n0 (i := 0) (atkb (k := 2) (o := o) (L := 1) (by decide) rfl h_o) (by decide)) (fun y4 ey4 => ?_)
  refine sim_cpo ey4 (by decide) (fun hc5 => ?_)
  refine sim_cp h_w22_2 (atkb (k := 4) (o := o) (L := 30) (by decide) rfl h_o) (atkb (k := 4) (o := o1) (L := 30) (by decide) rfl h_o1) ey4 hc5 (by decide) (fun w39_3 gw39_3 h_w39_3 => ?_)
  refine sim_rd h_w39_3 (at_n0 (i := 0) (atkb (k := 2) (o := o) (L := 1) (by decide) rfl h_o) (by decide)) (fun y6 ey6 => ?_)
  refine sim_cpo ey6 (by decide) (fun hc7 => ?_)
  refine sim_cp h_w39_3 (atkb (k := 5) (o := o) (L := 30) (by decide) rfl h_o) (atkb (k := 5) (o := o1) (L := 30) (by decide) rfl h_o1) ey6 hc7 (by decide) (fun w56_4 gw56_4 h_w56_4 => ?_)
  refine sim_rd h_w56_4 (at_n0 (i := 0) (atkb (k := 2) (o := o) (L := 1) (by decide) rfl h_o) (by decide)) (fun y8 ey8 => ?_)
  refine sim_cpo ey8 (by decide) (fun hc9 => ?_)
  refine sim_cp h_w56_4 (atkb (k := 6) (o := o) (L := 30) (by decide) rfl h_o) (atkb (k := 6) (o := o1) (L := 30) (by decide) rfl h_o1) ey8 hc9 (by decide) (fun w73_5 gw73_5 h_w73_5 => ?_)
  refine sim_rd h_w73_5 (at_n0 (i := 0) (atkb (k := 2) (o := o) (L := 1) (by decide) rfl h_o) (by decide)) (fun y10 ey10 => ?_)
  refine sim_cpo ey10 (by decide) (fun hc11 => ?_)
  refine sim_cp h_w73_5 (atkb (k := 7) (o := o) (L := 30) (by decide) rfl h_o) (atkb (k := 7) (o := o1) (L := 30) (by decide) rfl h_o1) ey10 hc11 (by decide) (fun w90_6 gw90_6 h_w90_6 => ?_)
  refine sim_rd h_w90_6 (at_n0 (i := 0) (atkb (k := 2) (o := o) (L := 1) (by decide) rfl h_o) (by decide)) (fun y12 ey12 => ?_)
  refine sim_cpo ey12 (by decide) (fun hc13 => ?_)
  refine sim_cp h_w90_6 (atkb (k := 8) (o := o) (L := 30) (by decide) rfl h_o) (atkb (k := 8) (o := o1) (L := 30) (by decide) rfl h_o1) ey12 hc13 (by decide) (fun w107_7 gw107_7 h_w107_7 => ?_)
  refine sim_rd h_w107_7 (at_n0 (i := 0) (atkb (k := 2) (o := o) (L := 1) (by decide) rfl h_o) (by decide)) (fun y14 ey14 => ?_)
  refine sim_cpo ey14 (by decide) (fun hc15 => ?_)
  refine sim_cp h_w107_7 (atkb (k := 9) (o := o) (L := 30) (by decide) rfl h_o) (atkb (k := 9) (o := o1) (L := 30) (by decide) rfl h_o1) ey14 hc15 (by decide) (fun w124_8 gw124_8 h_w124_8 => ?_)
  refine sim_rd h_w124_8 (at_n0 (i := 0) (atkb (k := 2) (o := o) (L := 1) (by decide) rfl h_o) (by decide)) (fun y16 ey16 => ?_)
  refine sim_cpo ey16 (by decide) (fun hc17 => ?_)
  refine sim_cp h_w124_8 (atkb (k := 10) (o := o) (L := 30) (by decide) rfl h_o) (atkb (k := 10) (o := o1) (L := 30) (by decide) rfl h_o1) ey16 hc17 (by decide) (fun w141_9 gw141_9 h_w141_9 => ?_)
  refine sim_rd h_w141_9 (at_n0 (i := 0) (atkb (k := 2) (o := o) (L := 1) (by decide) rfl h_o) (by decide)) (fun y18 ey18 => ?_)
  refine sim_cpo ey18 (by decide) (fun hc19 => ?_)
  refine sim_cp h_w141_9 (atkb (k := 11) (o := o) (L := 30) (by decide) rfl h_o) (atkb (k := 11) (o := o1) (L := 30) (by decide) rfl h_o1) ey18 hc19 (by decide) (fun w158_10 gw158_10 h_w158_10 => ?_)
  refine sim_rd h_w158_10 (at_n0 (i := 0) (atkb (k := 2) (o := o) (L := 1) (by decide) rfl h_o) (by decide)) (fun y20 ey20 => ?_)
  refine sim_cpo ey20 (by decide) (fun hc21 => ?_)
  refine sim_cp h_w158_10 (atkb (k := 12) (o := o) (L := 30) (by decide) rfl h_o) (atkb (k := 12) (o := o1) (L := 30) (by decide) rfl h_o1) ey20 hc21 (by decide) (fun w175_11 gw175_11 h_w175_11 => ?_)
  refine sim_rd h_w175_11 (at_n0 (i := 0) (atkb (k := 2) (o := o) (L := 1) (by decide) rfl h_o) (by decide)) (fun y22 ey22 => ?_)
  refine sim_cpo ey22 (by decide) (fun hc23 => ?_)
  refine sim_cp h_w175_11 (atkb (k := 13) (o := o) (L := 30) (by decide) rfl h_o) (atkb (k := 13) (o := o1) (L := 30) (by decide) rfl h_o1) ey22 hc23 (by decide) (fun w192_12 gw192_12 h_w192_12 => ?_)
  exact sim_some h_w192_12
set_option maxRecDepth 20000 in
theorem s_X4_copyFrom {o : Nat} {o1 : Nat} {v : mC} {gv : MG} (h_o : o < 7) (h_o1 : o1 < 7) (h_v : RM v gv) : Sim RM (f_X4_copyFrom o o1 v) (g_X4_copyFrom o o1 gv) := by
  unfold f_X4_copyFrom g_X4_copyFrom
  refine sim_rd h_v (at_n0 (i := 0) (atkb (k := 14) (o := o1) (L := 1) (by decide) rfl h_o1) (by decide)) (fun y1 ey1 => ?_)
  refine sim_wr h_v (at_n0 (i := 0) (atkb (k := 14) (o := o) (L := 1) (by decide) rfl h_o) (by decide)) ey1 (fun w5_1 gw5_1 h_w5_1 => ?_)
  refine sim_rd h_w5_1 (at_n0 (i := 0) (atkb (k := 14) (o := o) (L := 1) (by decide) rfl h_o) (by decide)) (fun y2 ey2 => ?_)
  refine sim_cpo ey2 (by decide) (fun hc3 => ?_)
  refine sim_cp h_w5_1 (atkb (k := 15) (o := o) (L := 60) (by decide) rfl h_o) (atkb (k := 15) (o := o1) (L := 60) (by decide) rfl h_o1) ey2 hc3 (by decide) (fun w22_2 gw22_2 h_w22_2 => ?_)
  refine sim_rd h_w22_2 (at_n0 (i := 0) (atkb (k := 14) (o := o) (L := 1) (by decide) rfl h_o) (by decide)) (fun y4 ey4 => ?_)
  refine sim_cpo ey4 (by decide) (fun hc5 => ?_)
  refine sim_cp h_w22_2 (atkb (k := 16) (o := o) (L := 60) (by decide) rfl h_o) (atkb (k := 16) (o := o1) (L := 60) (by decide) rfl h_o1) ey4 hc5 (by decide) (fun w39_3 gw39_3 h_w39_3 => ?_)
  refine sim_rd h_w39_3 (at_n0 (i := 0) (atkb (k := 14) (o := o) (L := 1) (by decide) rfl h_o) (by decide)) (fun y6 ey6 => ?_)
  refine sim_cpo ey6 (by decide) (fun hc7 => ?_)
  refine sim_cp h_w39_3 (atkb (k := 17) (o := o) (L := 60) (by decide) rfl h_o) (atkb (k := 17) (o := o1) (L := 60) (by decide) rfl h_o1) ey6 hc7 (by decide) (fun w56_4 gw56_4 h_w56_4 => ?_)
  exact sim_some h_w56_4
set_option maxRecDepth 20000 in
theorem sl_X1_copyFrom_61 {o : Nat} {o1 : Nat} {self61 : Int32 → mC → Option mC} {gself61 : Nat → MG → Option MG} (h_o : o < 7) (h_o1 : o1 < 7) (h_self61 : (fun (X : Int32 → mC → Option mC) (X2 : Nat → MG → Option MG) => ∀ (a0 : Int32) (b0 : Nat) (a1 : mC) (b1 : MG), RI a0 b0 → RM a1 b1 → Sim RM (X a0 a1) (X2 b0 b1)) self61 gself61) : (fun (X : Int32 → mC → Option mC) (X2 : Nat → MG → Option MG) => ∀ (a0 : Int32) (b0 : Nat) (a1 : mC) (b1 : MG), RI a0 b0 → RM a1 b1 → Sim RM (X a0 a1) (X2 b0 b1)) (L_X1_copyFrom_61 o o1 self61) (GL_X1_copyFrom_61 o o1 gself61) := by
  intro x2_61 gx2_61 v_61 gv_61 h_x2_61 h_v_61
  show Sim RM _ _
  unfold L_X1_copyFrom_61 GL_X1_copyFrom_61
  show Sim RM _ _
  refine sim_rd h_v_61 (at_n0 (i := 0) (atkb (k := 18) (o := o) (L := 1) (by decide) rfl h_o) (by decide)) (fun y1 ey1 => ?_)
  refine sim_if (ic_le ey1 h_x2_61) ?_ ?_
  · exact sim_some h_v_61
  · refine sim_inb h_x2_61 (by decide) (fun hc2 => ?_)
    refine sim_inb0 h_x2_61 hc2 (by decide) ?_
    refine sim_cpo (qi_lit 4) (by decide) (fun hc3 => ?_)
    refine sim_cp h_v_61 (atkr4 (k := 26) (o := o) (by decide) rfl h_x2_61 hc2) (atkr4 (k := 26) (o := o1) (by decide) rfl h_x2_61 hc2) (qi_lit 4) (by decide) (by decide) (fun w84_5 gw84_5 h_w84_5 => ?_)
    refine sim_inb0 h_x2_61 hc2 (by decide) ?_
    refine sim_inb0 h_x2_61 hc2 (by decide) ?_
    refine sim_cpo (qi_lit 4) (by decide) (fun hc4 => ?_)
    refine sim_cp h_w84_5 (atkr4 (k := 27) (o := o) (by decide) rfl h_x2_61 hc2) (atkr4 (k := 27) (o := o1) (by decide) rfl h_x2_61 hc2) (qi_lit 4) (by decide) (by decide) (fun w102_6 gw102_6 h_w102_6 => ?_)
    refine sim_inb0 h_x2_61 hc2 (by decide) ?_
    refine sim_inb0 h_x2_61 hc2 (by decide) ?_
    refine sim_cpo (qi_lit 4) (by decide) (fun hc5 => ?_)
    refine sim_cp h_w102_6 (atkr4 (k := 28) (o := o) (by decide) rfl h_x2_61 hc2) (atkr4 (k := 28) (o := o1) (by decide) rfl h_x2_61 hc2) (qi_lit 4) (by decide) (by decide) (fun w120_7 gw120_7 h_w120_7 => ?_)
    refine sim_inb0 h_x2_61 hc2 (by decide) ?_
    refine sim_inb0 h_x2_61 hc2 (by decide) ?_
    refine sim_cpo (qi_lit 30) (by decide) (fun hc6 => ?_)
    refine sim_cp h_w120_7 (atkr30 (k := 29) (o := o) rfl rfl h_x2_61 hc2) (atkr30 (k := 29) (o := o1) rfl rfl h_x2_61 hc2) (qi_lit 30) (by decide) (by decide) (fun w139_8 gw139_8 h_w139_8 => ?_)
    refine sim_sq (ia_add h_x2_61 (qi_lit 1)) (fun y7 ey7 => ?_)
    exact h_self61 _ _ _ _ ey7 h_w139_8
set_option maxRecDepth 20000 in
theorem s_X1_copyFrom {o : Nat} {o1 : Nat} {v : mC} {gv : MG} (h_o : o < 7) (h_o1 : o1 < 7) (h_v : RM v gv) : Sim RM (f_X1_copyFrom o o1 v) (g_X1_copyFrom o o1 gv) := by
  unfold f_X1_copyFrom g_X1_copyFrom
  refine sim_rd h_v (at_n0 (i := 0) (atkb (k := 18) (o := o1) (L := 1) (by decide) rfl h_o1) (by decide)) (fun y1 ey1 => ?_)
  refine sim_wr h_v (at_n0 (i := 0) (atkb (k := 18) (o := o) (L := 1) (by decide) rfl h_o) (by decide)) ey1 (fun w5_1 gw5_1 h_w5_1 => ?_)
  refine sim_rd h_w5_1 (at_n0 (i := 0) (atkb (k := 18) (o := o) (L := 1) (by decide) rfl h_o) (by decide)) (fun y2 ey2 => ?_)
  refine sim_cpo ey2 (by decide) (fun hc3 => ?_)
  refine sim_cp h_w5_1 (atkb (k := 19) (o := o) (L := 20) (by decide) rfl h_o) (atkb (k := 19) (o := o1) (L := 20) (by decide) rfl h_o1) ey2 hc3 (by decide) (fun w22_2 gw22_2 h_w22_2 => ?_)
  refine sim_rd h_w22_2 (at_n0 (i := 0) (atkb (k := 18) (o := o) (L := 1) (by decide) rfl h_o) (by decide)) (fun y4 ey4 => ?_)
  refine sim_cpo ey4 (by decide) (fun hc5 => ?_)
  refine sim_cp h_w22_2 (atkb (k := 20) (o := o) (L := 20) (by decide) rfl h_o) (atkb (k := 20) (o := o1) (L := 20) (by decide) rfl h_o1) ey4 hc5 (by decide) (fun w39_3 gw39_3 h_w39_3 => ?_)
  refine sim_rd h_w39_3 (at_n0 (i := 0) (atkb (k := 18) (o := o) (L := 1) (by decide) rfl h_o) (by decide)) (fun y6 ey6 => ?_)
  refine sim_cpo ey6 (by decide) (fun hc7 => ?_)
  refine sim_cp h_w39_3 (atkb (k := 21) (o := o) (L := 20) (by decide) rfl h_o) (atkb (k := 21) (o := o1) (L := 20) (by decide) rfl h_o1) ey6 hc7 (by decide) (fun w56_4 gw56_4 h_w56_4 => ?_)
  refine lp_sim (fun (X : Int32 → mC → Option mC) (X2 : Nat → MG → Option MG) => ∀ (a0 : Int32) (b0 : Nat) (a1 : mC) (b1 : MG), RI a0 b0 → RM a1 b1 → Sim RM (X a0 a1) (X2 b0 b1)) (fun _ _ _ _ _ _ => sim_none) (fun self gself hself => ?_) 8192 _ _ _ _ (qi_lit 0) h_w56_4
  · exact sl_X1_copyFrom_61 h_o h_o1 hself
set_option maxRecDepth 20000 in
theorem s_X0_copyFrom {o : Nat} {o1 : Nat} {v : mC} {gv : MG} (h_o : o < 7) (h_o1 : o1 < 7) (h_v : RM v gv) : Sim RM (f_X0_copyFrom o o1 v) (g_X0_copyFrom o o1 gv) := by
  unfold f_X0_copyFrom g_X0_copyFrom
  refine sim_rd h_v (at_n0 (i := 0) (atkb (k := 1) (o := o1) (L := 10) (by decide) rfl h_o1) (by decide)) (fun y1 ey1 => ?_)
  refine sim_wr h_v (at_n0 (i := 0) (atkb (k := 1) (o := o) (L := 10) (by decide) rfl h_o) (by decide)) ey1 (fun w5_1 gw5_1 h_w5_1 => ?_)
  refine sim_bd (s_X5_copyFrom h_o h_o1 h_w5_1) (fun r_16 gr_16 h_r_16 => ?_)
  refine sim_bd (s_X4_copyFrom h_o h_o1 h_r_16) (fun r_27 gr_27 h_r_27 => ?_)
  refine sim_bd (s_X1_copyFrom h_o h_o1 h_r_27) (fun r_38 gr_38 h_r_38 => ?_)
  refine sim_cpo (qi_lit 5) (by decide) (fun hc2 => ?_)
  refine sim_cp h_r_38 (atkb (k := 30) (o := o) (L := 5) (by decide) rfl h_o) (atkb (k := 30) (o := o1) (L := 5) (by decide) rfl h_o1) (qi_lit 5) (by decide) (by decide) (fun w52_2 gw52_2 h_w52_2 => ?_)
  refine sim_rd h_w52_2 (at_n0 (i := 5) (atkb (k := 1) (o := o1) (L := 10) (by decide) rfl h_o1) (by decide)) (fun y3 ey3 => ?_)
  refine sim_wr h_w52_2 (at_n0 (i := 5) (atkb (k := 1) (o := o) (L := 10) (by decide) rfl h_o) (by decide)) ey3 (fun w60_3 gw60_3 h_w60_3 => ?_)
  refine sim_rd h_w60_3 (at_n0 (i := 6) (atkb (k := 1) (o := o1) (L := 10) (by decide) rfl h_o1) (by decide)) (fun y4 ey4 => ?_)
  refine sim_wr h_w60_3 (at_n0 (i := 6) (atkb (k := 1) (o := o) (L := 10) (by decide) rfl h_o) (by decide)) ey4 (fun w68_4 gw68_4 h_w68_4 => ?_)
  refine sim_rd h_w68_4 (at_n0 (i := 7) (atkb (k := 1) (o := o1) (L := 10) (by decide) rfl h_o1) (by decide)) (fun y5 ey5 => ?_)
  refine sim_wr h_w68_4 (at_n0 (i := 7) (atkb (k := 1) (o := o) (L := 10) (by decide) rfl h_o) (by decide)) ey5 (fun w76_5 gw76_5 h_w76_5 => ?_)
  refine sim_rd h_w76_5 (at_n0 (i := 8) (atkb (k := 1) (o := o1) (L := 10) (by decide) rfl h_o1) (by decide)) (fun y6 ey6 => ?_)
  refine sim_wr h_w76_5 (at_n0 (i := 8) (atkb (k := 1) (o := o) (L := 10) (by decide) rfl h_o) (by decide)) ey6 (fun w84_6 gw84_6 h_w84_6 => ?_)
  refine sim_rd h_w84_6 (at_n0 (i := 9) (atkb (k := 1) (o := o1) (L := 10) (by decide) rfl h_o1) (by decide)) (fun y7 ey7 => ?_)
  refine sim_wr h_w84_6 (at_n0 (i := 9) (atkb (k := 1) (o := o) (L := 10) (by decide) rfl h_o) (by decide)) ey7 (fun w92_7 gw92_7 h_w92_7 => ?_)
  exact sim_some h_w92_7
set_option maxRecDepth 20000 in
theorem s_X6_keepState {v : mC} {gv : MG} (h_v : RM v gv) : Sim RM (f_X6_keepState v) (g_X6_keepState gv) := by
  unfold f_X6_keepState g_X6_keepState
  refine sim_jn (fun (X : mC → Option mC) (X2 : MG → Option MG) => ∀ (a0 : mC) (b0 : MG), RM a0 b0 → Sim RM (X a0) (X2 b0)) ?_ (fun j12 gj12 h_j12 => ?_)
  · intro v_12 gv_12 h_v_12
    refine sim_rd h_v_12 (at_n0 (i := 5) (atk0 (k := 0) (L := 8) (by decide) rfl) (by decide)) (fun y1 ey1 => ?_)
    refine sim_inb ey1 (by decide) (fun hc2 => ?_)
    refine sim_rd h_v_12 (at_x0 (atk0 (k := 31) (L := 4) (by decide) rfl) ey1 hc2 (by decide)) (fun y3 ey3 => ?_)
    refine sim_ix7 ey3 (fun hc4 => ?_)
    rw [ix_of ey3 (Nat.lt_trans hc4 (by decide))]
    refine sim_bd (s_X0_copyFrom hc4 (by decide) h_v_12) (fun r_25 gr_25 h_r_25 => ?_)
    refine sim_rd h_r_25 (at_n0 (i := 5) (atk0 (k := 0) (L := 8) (by decide) rfl) (by decide)) (fun y5 ey5 => ?_)
    refine sim_sq (ia_add ey5 (qi_lit 1)) (fun y6 ey6 => ?_)
    refine sim_wr h_r_25 (at_n0 (i := 5) (atk0 (k := 0) (L := 8) (by decide) rfl) (by decide)) ey6 (fun w35_1 gw35_1 h_w35_1 => ?_)
    exact sim_some h_w35_1
  · refine sim_rd h_v (at_n0 (i := 5) (atk0 (k := 0) (L := 8) (by decide) rfl) (by decide)) (fun y7 ey7 => ?_)
    refine sim_if (ic_lt ey7 (qi_lit 4)) ?_ ?_
    · exact h_j12 _ _ h_v
    · refine sim_bd (s_X6_forgetOldestState h_v) (fun r_9 gr_9 h_r_9 => ?_)
      exact h_j12 _ _ h_r_9
set_option maxRecDepth 20000 in
theorem s_X5_add {o : Nat} {x1 : Int32} {gx1 : Nat} {x2 : Int32} {gx2 : Nat} {x3 : Int32} {gx3 : Nat} {x4 : Int32} {gx4 : Nat} {v : mC} {gv : MG} (h_o : o < 7) (h_x1 : RI x1 gx1) (h_x2 : RI x2 gx2) (h_x3 : RI x3 gx3) (h_x4 : RI x4 gx4) (h_v : RM v gv) : Sim RP (f_X5_add o x1 x2 x3 x4 v) (g_X5_add o gx1 gx2 gx3 gx4 gv) := by
  unfold f_X5_add g_X5_add
  refine sim_rd h_v (at_n0 (i := 0) (atkb (k := 2) (o := o) (L := 1) (by decide) rfl h_o) (by decide)) (fun y1 ey1 => ?_)
  refine sim_inb ey1 (by decide) (fun hc2 => ?_)
  refine sim_wr h_v (at_x0 (atkb (k := 3) (o := o) (L := 30) (by decide) rfl h_o) ey1 hc2 (by decide)) h_x2 (fun w13_1 gw13_1 h_w13_1 => ?_)
  refine sim_inb0 ey1 hc2 (by decide) ?_
  refine sim_wr h_w13_1 (at_x0 (atkb (k := 4) (o := o) (L := 30) (by decide) rfl h_o) ey1 hc2 (by decide)) h_x3 (fun w21_2 gw21_2 h_w21_2 => ?_)
  refine sim_inb0 ey1 hc2 (by decide) ?_
  refine sim_wr h_w21_2 (at_x0 (atkb (k := 5) (o := o) (L := 30) (by decide) rfl h_o) ey1 hc2 (by decide)) h_x4 (fun w30_3 gw30_3 h_w30_3 => ?_)
  refine sim_inb0 ey1 hc2 (by decide) ?_
  refine sim_wr h_w30_3 (at_x0 (atkb (k := 6) (o := o) (L := 30) (by decide) rfl h_o) ey1 hc2 (by decide)) h_x1 (fun w38_4 gw38_4 h_w38_4 => ?_)
  refine sim_inb0 ey1 hc2 (by decide) ?_
  refine sim_wr h_w38_4 (at_x0 (atkb (k := 7) (o := o) (L := 30) (by decide) rfl h_o) ey1 hc2 (by decide)) il_m1 (fun w46_5 gw46_5 h_w46_5 => ?_)
  refine sim_inb0 ey1 hc2 (by decide) ?_
  refine sim_wr h_w46_5 (at_x0 (atkb (k := 8) (o := o) (L := 30) (by decide) rfl h_o) ey1 hc2 (by decide)) il_m1 (fun w54_6 gw54_6 h_w54_6 => ?_)
  refine sim_inb0 ey1 hc2 (by decide) ?_
  refine sim_wr h_w54_6 (at_x0 (atkb (k := 9) (o := o) (L := 30) (by decide) rfl h_o) ey1 hc2 (by decide)) (qi_lit 0) (fun w62_7 gw62_7 h_w62_7 => ?_)
  refine sim_inb0 ey1 hc2 (by decide) ?_
  refine sim_wr h_w62_7 (at_x0 (atkb (k := 10) (o := o) (L := 30) (by decide) rfl h_o) ey1 hc2 (by decide)) (qi_lit 1000000) (fun w71_8 gw71_8 h_w71_8 => ?_)
  refine sim_inb0 ey1 hc2 (by decide) ?_
  refine sim_wr h_w71_8 (at_x0 (atkb (k := 11) (o := o) (L := 30) (by decide) rfl h_o) ey1 hc2 (by decide)) il_m1 (fun w79_9 gw79_9 h_w79_9 => ?_)
  refine sim_inb0 ey1 hc2 (by decide) ?_
  refine sim_wr h_w79_9 (at_x0 (atkb (k := 12) (o := o) (L := 30) (by decide) rfl h_o) ey1 hc2 (by decide)) (qi_lit 0) (fun w87_10 gw87_10 h_w87_10 => ?_)
  refine sim_inb0 ey1 hc2 (by decide) ?_
  refine sim_wr h_w87_10 (at_x0 (atkb (k := 13) (o := o) (L := 30) (by decide) rfl h_o) ey1 hc2 (by decide)) (qi_lit 0) (fun w95_11 gw95_11 h_w95_11 => ?_)
  refine sim_rd h_w95_11 (at_n0 (i := 0) (atkb (k := 2) (o := o) (L := 1) (by decide) rfl h_o) (by decide)) (fun y3 ey3 => ?_)
  refine sim_sq (ia_add ey3 (qi_lit 1)) (fun y4 ey4 => ?_)
  refine sim_wr h_w95_11 (at_n0 (i := 0) (atkb (k := 2) (o := o) (L := 1) (by decide) rfl h_o) (by decide)) ey4 (fun w103_12 gw103_12 h_w103_12 => ?_)
  exact sim_P ey1 h_w103_12
set_option maxRecDepth 20000 in
theorem s_X0_enrol {o : Nat} {x1 : Int32} {gx1 : Nat} {x2 : Int32} {gx2 : Nat} {x3 : Int32} {gx3 : Nat} {x4 : Int32} {gx4 : Nat} {x5 : Int32} {gx5 : Nat} {v : mC} {gv : MG} (h_o : o < 7) (h_x1 : RI x1 gx1) (h_x2 : RI x2 gx2) (h_x3 : RI x3 gx3) (h_x4 : RI x4 gx4) (h_x5 : RI x5 gx5) (h_v : RM v gv) : Sim RP (f_X0_enrol o x1 x2 x3 x4 x5 v) (g_X0_enrol o gx1 gx2 gx3 gx4 gx5 gv) := by
  unfold f_X0_enrol g_X0_enrol
  refine sim_rd h_v (at_n0 (i := 0) (atkb (k := 1) (o := o) (L := 10) (by decide) rfl h_o) (by decide)) (fun y1 ey1 => ?_)
  refine sim_sq (ia_sub ey1 (ia_mul h_x1 (qi_lit 360))) (fun y2 ey2 => ?_)
  refine sim_bd (s_X5_add h_o ey2 h_x2 h_x3 h_x4 h_v) (fun r_18 gr_18 h_r_18 => ?_)
  refine sim_if (ic_le h_x5 h_x1) ?_ ?_
  · exact sim_P h_r_18.1 h_r_18.2
  · refine sim_rd h_r_18.2 (at_n0 (i := 0) (atkb (k := 1) (o := o) (L := 10) (by decide) rfl h_o) (by decide)) (fun y3 ey3 => ?_)
    refine sim_lt (ia_add ey3 (ia_mul (ia_sub h_x5 h_x1) (qi_lit 360))) (fun y50_1 gy50_1 h_y50_1 => ?_)
    refine sim_inb h_r_18.1 (by decide) (fun hc4 => ?_)
    refine sim_wr h_r_18.2 (at_x0 (atkb (k := 7) (o := o) (L := 30) (by decide) rfl h_o) h_r_18.1 hc4 (by decide)) h_y50_1 (fun w51_2 gw51_2 h_w51_2 => ?_)
    exact sim_P h_r_18.1 h_w51_2
set_option maxRecDepth 20000 in
theorem s_X6_register {x1 : Int32} {gx1 : Nat} {x2 : Int32} {gx2 : Nat} {x3 : Int32} {gx3 : Nat} {x4 : Int32} {gx4 : Nat} {x5 : Int32} {gx5 : Nat} {v : mC} {gv : MG} (h_x1 : RI x1 gx1) (h_x2 : RI x2 gx2) (h_x3 : RI x3 gx3) (h_x4 : RI x4 gx4) (h_x5 : RI x5 gx5) (h_v : RM v gv) : Sim RT (f_X6_register x1 x2 x3 x4 x5 v) (g_X6_register gx1 gx2 gx3 gx4 gx5 gv) := by
  unfold f_X6_register g_X6_register
  refine sim_bd (s_X0_refusalToEnrol (by decide) h_x1 h_x2 h_x3 h_x4 h_x5 h_v) (fun r_11 gr_11 h_r_11 => ?_)
  refine sim_tb (s_X6_refuseIf h_r_11 h_v) (fun r_14 gr_14 h_r_14 w_14 gw_14 h_w_14 => ?_)
  refine sim_bd (s_X6_keepState h_w_14) (fun r_18 gr_18 h_r_18 => ?_)
  refine sim_bd (s_X0_enrol (by decide) h_x1 h_x2 h_x3 h_x4 h_x5 h_r_18) (fun r_32 gr_32 h_r_32 => ?_)
  exact sim_T h_r_32.1 h_r_32.2
set_option maxRecDepth 20000 in
theorem s_X5_has {o : Nat} {x1 : Int32} {gx1 : Nat} {v : mC} {gv : MG} (h_o : o < 7) (h_x1 : RI x1 gx1) (h_v : RM v gv) : Sim RI (f_X5_has o x1 v) (g_X5_has o gx1 gv) := by
  unfold f_X5_has g_X5_has
  refine sim_if (ic_lt h_x1 (qi_lit 0)) ?_ ?_
  · refine sim_zb0 ?_
    exact sim_Iv (qi_lit 0)
  · refine sim_rd h_v (at_n0 (i := 0) (atkb (k := 2) (o := o) (L := 1) (by decide) rfl h_o) (by decide)) (fun y1 ey1 => ?_)
    refine sim_if (ic_le ey1 h_x1) ?_ ?_
    · refine sim_zb0 ?_
      exact sim_Iv (qi_lit 0)
    · refine sim_zb1 ?_
      exact sim_Iv (qi_lit 1)
set_option maxRecDepth 20000 in
theorem s_X5_hasLeftBy {o : Nat} {x1 : Int32} {gx1 : Nat} {x2 : Int32} {gx2 : Nat} {v : mC} {gv : MG} (h_o : o < 7) (h_x1 : RI x1 gx1) (h_x2 : RI x2 gx2) (h_v : RM v gv) : Sim RI (f_X5_hasLeftBy o x1 x2 v) (g_X5_hasLeftBy o gx1 gx2 gv) := by
  unfold f_X5_hasLeftBy g_X5_hasLeftBy
  refine sim_inb h_x1 (by decide) (fun hc1 => ?_)
  refine sim_rd h_v (at_x0 (atkb (k := 10) (o := o) (L := 30) (by decide) rfl h_o) h_x1 hc1 (by decide)) (fun y2 ey2 => ?_)
  refine sim_if (ic_le h_x2 ey2) ?_ ?_
  · refine sim_zb0 ?_
    exact sim_Iv (qi_lit 0)
  · refine sim_zb1 ?_
    exact sim_Iv (qi_lit 1)
set_option maxRecDepth 20000 in
theorem s_X0_refusalToDismiss {o : Nat} {x1 : Int32} {gx1 : Nat} {v : mC} {gv : MG} (h_o : o < 7) (h_x1 : RI x1 gx1) (h_v : RM v gv) : Sim RI (f_X0_refusalToDismiss o x1 v) (g_X0_refusalToDismiss o gx1 gv) := by
  unfold f_X0_refusalToDismiss g_X0_refusalToDismiss
  refine sim_bd (s_X5_has h_o h_x1 h_v) (fun r_5 gr_5 h_r_5 => ?_)
  refine sim_if (ic_eq h_r_5 (qi_lit 0)) ?_ ?_
  · exact sim_Iv (qi_lit 1)
  · refine sim_rd h_v (at_n0 (i := 0) (atkb (k := 1) (o := o) (L := 10) (by decide) rfl h_o) (by decide)) (fun y1 ey1 => ?_)
    refine sim_bd (s_X5_hasLeftBy h_o h_x1 ey1 h_v) (fun r_22 gr_22 h_r_22 => ?_)
    refine sim_if (ic_eq h_r_22 (qi_lit 0)) ?_ ?_
    · exact sim_Iv (qi_lit 0)
    · exact sim_Iv (qi_lit 3)
set_option maxRecDepth 20000 in
theorem sl_X5_countInChoir_4 {o : Nat} {x1 : Int32} {gx1 : Nat} {v : mC} {gv : MG} {self4 : Int32 → Int32 → Option Int32} {gself4 : Nat → Nat → Option Nat} (h_o : o < 7) (h_x1 : RI x1 gx1) (h_v : RM v gv) (h_self4 : (fun (X : Int32 → Int32 → Option Int32) (X2 : Nat → Nat → Option Nat) => ∀ (a0 : Int32) (b0 : Nat) (a1 : Int32) (b1 : Nat), RI a0 b0 → RI a1 b1 → Sim RI (X a0 a1) (X2 b0 b1)) self4 gself4) : (fun (X : Int32 → Int32 → Option Int32) (X2 : Nat → Nat → Option Nat) => ∀ (a0 : Int32) (b0 : Nat) (a1 : Int32) (b1 : Nat), RI a0 b0 → RI a1 b1 → Sim RI (X a0 a1) (X2 b0 b1)) (L_X5_countInChoir_4 o x1 v self4) (GL_X5_countInChoir_4 o gx1 gv gself4) := by
  intro x2_4 gx2_4 x3_4 gx3_4 h_x2_4 h_x3_4
  show Sim RI _ _
  unfold L_X5_countInChoir_4 GL_X5_countInChoir_4
  show Sim RI _ _
  refine sim_rd h_v (at_n0 (i := 0) (atkb (k := 2) (o := o) (L := 1) (by decide) rfl h_o) (by decide)) (fun y1 ey1 => ?_)
  refine sim_if (ic_le ey1 h_x3_4) ?_ ?_
  · exact sim_Iv h_x2_4
  · refine sim_bd (s_X5_hasLeftBy h_o h_x3_4 h_x1 h_v) (fun r_15 gr_15 h_r_15 => ?_)
    refine sim_if (ic_eq h_r_15 (qi_lit 0)) ?_ ?_
    · refine sim_sq (ia_add h_x2_4 (qi_lit 1)) (fun y2 ey2 => ?_)
      refine sim_sq (ia_add h_x3_4 (qi_lit 1)) (fun y3 ey3 => ?_)
      exact h_self4 _ _ _ _ ey2 ey3
    · refine sim_sq (ia_add h_x3_4 (qi_lit 1)) (fun y4 ey4 => ?_)
      exact h_self4 _ _ _ _ h_x2_4 ey4
set_option maxRecDepth 20000 in
theorem s_X5_countInChoir {o : Nat} {x1 : Int32} {gx1 : Nat} {v : mC} {gv : MG} (h_o : o < 7) (h_x1 : RI x1 gx1) (h_v : RM v gv) : Sim RI (f_X5_countInChoir o x1 v) (g_X5_countInChoir o gx1 gv) := by
  unfold f_X5_countInChoir g_X5_countInChoir
  refine lp_sim (fun (X : Int32 → Int32 → Option Int32) (X2 : Nat → Nat → Option Nat) => ∀ (a0 : Int32) (b0 : Nat) (a1 : Int32) (b1 : Nat), RI a0 b0 → RI a1 b1 → Sim RI (X a0 a1) (X2 b0 b1)) (fun _ _ _ _ _ _ => sim_none) (fun self gself hself => ?_) 8192 _ _ _ _ (qi_lit 0) (qi_lit 0)
  · exact sl_X5_countInChoir_4 h_o h_x1 h_v hself
set_option maxRecDepth 20000 in
theorem s_X0_dismiss {o : Nat} {x1 : Int32} {gx1 : Nat} {v : mC} {gv : MG} (h_o : o < 7) (h_x1 : RI x1 gx1) (h_v : RM v gv) : Sim RP (f_X0_dismiss o x1 v) (g_X0_dismiss o gx1 gv) := by
  unfold f_X0_dismiss g_X0_dismiss
  refine sim_inb h_x1 (by decide) (fun hc1 => ?_)
  refine sim_rd h_v (at_n0 (i := 0) (atkb (k := 1) (o := o) (L := 10) (by decide) rfl h_o) (by decide)) (fun y2 ey2 => ?_)
  refine sim_sq (ia_sub ey2 (qi_lit 1)) (fun y3 ey3 => ?_)
  refine sim_wr h_v (at_x0 (atkb (k := 10) (o := o) (L := 30) (by decide) rfl h_o) h_x1 hc1 (by decide)) ey3 (fun w14_1 gw14_1 h_w14_1 => ?_)
  refine sim_rd h_w14_1 (at_n0 (i := 0) (atkb (k := 1) (o := o) (L := 10) (by decide) rfl h_o) (by decide)) (fun y4 ey4 => ?_)
  refine sim_bd (s_X5_countInChoir h_o ey4 h_w14_1) (fun r_23 gr_23 h_r_23 => ?_)
  exact sim_P h_r_23 h_w14_1
set_option maxRecDepth 20000 in
theorem s_X6_leave {x1 : Int32} {gx1 : Nat} {v : mC} {gv : MG} (h_x1 : RI x1 gx1) (h_v : RM v gv) : Sim RT (f_X6_leave x1 v) (g_X6_leave gx1 gv) := by
  unfold f_X6_leave g_X6_leave
  refine sim_bd (s_X0_refusalToDismiss (by decide) h_x1 h_v) (fun r_5 gr_5 h_r_5 => ?_)
  refine sim_tb (s_X6_refuseIf h_r_5 h_v) (fun r_8 gr_8 h_r_8 w_8 gw_8 h_w_8 => ?_)
  refine sim_bd (s_X6_keepState h_w_8) (fun r_12 gr_12 h_r_12 => ?_)
  refine sim_bd (s_X0_dismiss (by decide) h_x1 h_r_12) (fun r_20 gr_20 h_r_20 => ?_)
  exact sim_T h_r_20.1 h_r_20.2
set_option maxRecDepth 20000 in
theorem s_X0_refusalToHire {o : Nat} {x1 : Int32} {gx1 : Nat} {x2 : Int32} {gx2 : Nat} {x3 : Int32} {gx3 : Nat} {x4 : Int32} {gx4 : Nat} {x5 : Int32} {gx5 : Nat} {x6 : Int32} {gx6 : Nat} {v : mC} {gv : MG} (h_o : o < 7) (h_x1 : RI x1 gx1) (h_x2 : RI x2 gx2) (h_x3 : RI x3 gx3) (h_x4 : RI x4 gx4) (h_x5 : RI x5 gx5) (h_x6 : RI x6 gx6) (h_v : RM v gv) : Sim RI (f_X0_refusalToHire o x1 x2 x3 x4 x5 x6 v) (g_X0_refusalToHire o gx1 gx2 gx3 gx4 gx5 gx6 gv) := by
  unfold f_X0_refusalToHire g_X0_refusalToHire
  refine sim_bd (s_X6_isWithin h_x1 (qi_lit 0) (qi_lit 4) h_v) (fun r_3 gr_3 h_r_3 => ?_)
  refine sim_if (ic_eq h_r_3 (qi_lit 0)) ?_ ?_
  · exact sim_Iv (qi_lit 1)
  · refine sim_jn (fun (X : Int32 → Option Int32) (X2 : Nat → Option Nat) => ∀ (a0 : Int32) (b0 : Nat), RI a0 b0 → Sim RI (X a0) (X2 b0)) ?_ (fun j37 gj37 h_j37 => ?_)
    · intro s0_37 gs0_37 h_s0_37
      refine sim_if (ic_eq h_s0_37 (qi_lit 0)) ?_ ?_
      · exact sim_Iv (qi_lit 2)
      · refine sim_bd (s_X6_isHeightAndRange h_x3 h_x4 h_x5 h_v) (fun r_49 gr_49 h_r_49 => ?_)
        refine sim_if (ic_eq h_r_49 (qi_lit 0)) ?_ ?_
        · exact sim_Iv (qi_lit 2)
        · refine sim_bd (s_X5_isFull h_o h_v) (fun r_61 gr_61 h_r_61 => ?_)
          refine sim_if (ic_eq h_r_61 (qi_lit 0)) ?_ ?_
          · refine sim_inb h_x1 (by decide) (fun hc1 => ?_)
            refine sim_rd h_v (at_x0 (atkb (k := 30) (o := o) (L := 5) (by decide) rfl h_o) h_x1 hc1 (by decide)) (fun y2 ey2 => ?_)
            refine sim_if (ic_lt il_m3 ey2) ?_ ?_
            · exact sim_Iv (qi_lit 0)
            · exact sim_Iv (qi_lit 3)
          · exact sim_Iv (qi_lit 3)
    · refine sim_jn (fun (X : Unit → Option Int32) (X2 : Unit → Option Nat) => Sim RI (X ()) (X2 ())) ?_ (fun j36 gj36 h_j36 => ?_)
      · exact h_j37 _ _ (qi_lit 0)
      · refine sim_bd (s_X6_isWithin h_x2 (qi_lit 0) (qi_lit 9) h_v) (fun r_15 gr_15 h_r_15 => ?_)
        refine sim_if (ic_eq h_r_15 (qi_lit 0)) ?_ ?_
        · exact h_j36 
        · refine sim_bd (s_X6_isWithin h_x6 (qi_lit 1) (qi_lit 90) h_v) (fun r_26 gr_26 h_r_26 => ?_)
          refine sim_if (ic_eq h_r_26 (qi_lit 0)) ?_ ?_
          · exact h_j36 
          · exact h_j37 _ _ (qi_lit 1)
set_option maxRecDepth 20000 in
theorem s_X0_hire {o : Nat} {x1 : Int32} {gx1 : Nat} {x2 : Int32} {gx2 : Nat} {x3 : Int32} {gx3 : Nat} {x4 : Int32} {gx4 : Nat} {x5 : Int32} {gx5 : Nat} {x6 : Int32} {gx6 : Nat} {v : mC} {gv : MG} (h_o : o < 7) (h_x1 : RI x1 gx1) (h_x2 : RI x2 gx2) (h_x3 : RI x3 gx3) (h_x4 : RI x4 gx4) (h_x5 : RI x5 gx5) (h_x6 : RI x6 gx6) (h_v : RM v gv) : Sim RP (f_X0_hire o x1 x2 x3 x4 x5 x6 v) (g_X0_hire o gx1 gx2 gx3 gx4 gx5 gx6 gv) := by
  unfold f_X0_hire g_X0_hire
  refine sim_rd h_v (at_n0 (i := 0) (atkb (k := 1) (o := o) (L := 10) (by decide) rfl h_o) (by decide)) (fun y1 ey1 => ?_)
  refine sim_sq (ia_sub ey1 (qi_lit 10800)) (fun y2 ey2 => ?_)
  refine sim_bd (s_X5_add h_o ey2 h_x3 h_x4 h_x5 h_v) (fun r_17 gr_17 h_r_17 => ?_)
  refine sim_inb h_r_17.1 (by decide) (fun hc3 => ?_)
  refine sim_wr h_r_17.2 (at_x0 (atkb (k := 8) (o := o) (L := 30) (by decide) rfl h_o) h_r_17.1 hc3 (by decide)) h_x1 (fun w32_1 gw32_1 h_w32_1 => ?_)
  refine sim_inb0 h_r_17.1 hc3 (by decide) ?_
  refine sim_wr h_w32_1 (at_x0 (atkb (k := 9) (o := o) (L := 30) (by decide) rfl h_o) h_r_17.1 hc3 (by decide)) h_x2 (fun w43_2 gw43_2 h_w43_2 => ?_)
  refine sim_inb0 h_r_17.1 hc3 (by decide) ?_
  refine sim_rd h_w43_2 (at_n0 (i := 0) (atkb (k := 1) (o := o) (L := 10) (by decide) rfl h_o) (by decide)) (fun y4 ey4 => ?_)
  refine sim_sq (ia_add ey4 h_x6) (fun y5 ey5 => ?_)
  refine sim_wr h_w43_2 (at_x0 (atkb (k := 10) (o := o) (L := 30) (by decide) rfl h_o) h_r_17.1 hc3 (by decide)) ey5 (fun w60_3 gw60_3 h_w60_3 => ?_)
  refine sim_inb h_x1 (by decide) (fun hc6 => ?_)
  refine sim_inb0 h_x1 hc6 (by decide) ?_
  refine sim_rd h_w60_3 (at_x0 (atkb (k := 30) (o := o) (L := 5) (by decide) rfl h_o) h_x1 hc6 (by decide)) (fun y7 ey7 => ?_)
  refine sim_sq (ia_sub ey7 (qi_lit 1)) (fun y8 ey8 => ?_)
  refine sim_wr h_w60_3 (at_x0 (atkb (k := 30) (o := o) (L := 5) (by decide) rfl h_o) h_x1 hc6 (by decide)) ey8 (fun w70_4 gw70_4 h_w70_4 => ?_)
  exact sim_P h_r_17.1 h_w70_4
set_option maxRecDepth 20000 in
theorem s_X6_borrow {x1 : Int32} {gx1 : Nat} {x2 : Int32} {gx2 : Nat} {x3 : Int32} {gx3 : Nat} {x4 : Int32} {gx4 : Nat} {x5 : Int32} {gx5 : Nat} {x6 : Int32} {gx6 : Nat} {v : mC} {gv : MG} (h_x1 : RI x1 gx1) (h_x2 : RI x2 gx2) (h_x3 : RI x3 gx3) (h_x4 : RI x4 gx4) (h_x5 : RI x5 gx5) (h_x6 : RI x6 gx6) (h_v : RM v gv) : Sim RT (f_X6_borrow x1 x2 x3 x4 x5 x6 v) (g_X6_borrow gx1 gx2 gx3 gx4 gx5 gx6 gv) := by
  unfold f_X6_borrow g_X6_borrow
  refine sim_bd (s_X0_refusalToHire (by decide) h_x1 h_x2 h_x3 h_x4 h_x5 h_x6 h_v) (fun r_13 gr_13 h_r_13 => ?_)
  refine sim_tb (s_X6_refuseIf h_r_13 h_v) (fun r_16 gr_16 h_r_16 w_16 gw_16 h_w_16 => ?_)
  refine sim_bd (s_X6_keepState h_w_16) (fun r_20 gr_20 h_r_20 => ?_)
  refine sim_bd (s_X0_hire (by decide) h_x1 h_x2 h_x3 h_x4 h_x5 h_x6 h_r_20) (fun r_36 gr_36 h_r_36 => ?_)
  exact sim_T h_r_36.1 h_r_36.2
set_option maxRecDepth 20000 in
theorem s_X5_isAwayOn {o : Nat} {x1 : Int32} {gx1 : Nat} {x2 : Int32} {gx2 : Nat} {v : mC} {gv : MG} (h_o : o < 7) (h_x1 : RI x1 gx1) (h_x2 : RI x2 gx2) (h_v : RM v gv) : Sim RI (f_X5_isAwayOn o x1 x2 v) (g_X5_isAwayOn o gx1 gx2 gv) := by
  unfold f_X5_isAwayOn g_X5_isAwayOn
  refine sim_inb h_x1 (by decide) (fun hc1 => ?_)
  refine sim_rd h_v (at_x0 (atkb (k := 11) (o := o) (L := 30) (by decide) rfl h_o) h_x1 hc1 (by decide)) (fun y2 ey2 => ?_)
  refine sim_if (ic_lt ey2 h_x2) ?_ ?_
  · refine sim_zb0 ?_
    exact sim_Iv (qi_lit 0)
  · refine sim_zb1 ?_
    exact sim_Iv (qi_lit 1)
set_option maxRecDepth 20000 in
theorem s_X0_refusalToSendAway {o : Nat} {x1 : Int32} {gx1 : Nat} {x2 : Int32} {gx2 : Nat} {x3 : Int32} {gx3 : Nat} {v : mC} {gv : MG} (h_o : o < 7) (h_x1 : RI x1 gx1) (h_x2 : RI x2 gx2) (h_x3 : RI x3 gx3) (h_v : RM v gv) : Sim RI (f_X0_refusalToSendAway o x1 x2 x3 v) (g_X0_refusalToSendAway o gx1 gx2 gx3 gv) := by
  unfold f_X0_refusalToSendAway g_X0_refusalToSendAway
  refine sim_bd (s_X5_has h_o h_x1 h_v) (fun r_5 gr_5 h_r_5 => ?_)
  refine sim_if (ic_eq h_r_5 (qi_lit 0)) ?_ ?_
  · exact sim_Iv (qi_lit 1)
  · refine sim_bd (s_X6_isWithin h_x2 (qi_lit 0) (qi_lit 4) h_v) (fun r_14 gr_14 h_r_14 => ?_)
    refine sim_if (ic_eq h_r_14 (qi_lit 0)) ?_ ?_
    · exact sim_Iv (qi_lit 1)
    · refine sim_bd (s_X6_isWithin h_x3 (qi_lit 1) (qi_lit 90) h_v) (fun r_26 gr_26 h_r_26 => ?_)
      refine sim_if (ic_eq h_r_26 (qi_lit 0)) ?_ ?_
      · exact sim_Iv (qi_lit 2)
      · refine sim_jn (fun (X : Int32 → Option Int32) (X2 : Nat → Option Nat) => ∀ (a0 : Int32) (b0 : Nat), RI a0 b0 → Sim RI (X a0) (X2 b0)) ?_ (fun j69 gj69 h_j69 => ?_)
        · intro s0_69 gs0_69 h_s0_69
          refine sim_if (ic_eq h_s0_69 (qi_lit 0)) ?_ ?_
          · exact sim_Iv (qi_lit 3)
          · refine sim_inb h_x1 (by decide) (fun hc1 => ?_)
            refine sim_rd h_v (at_x0 (atkb (k := 8) (o := o) (L := 30) (by decide) rfl h_o) h_x1 hc1 (by decide)) (fun y2 ey2 => ?_)
            refine sim_if (ic_eq ey2 il_m1) ?_ ?_
            · exact sim_Iv (qi_lit 0)
            · exact sim_Iv (qi_lit 3)
        · refine sim_jn (fun (X : Unit → Option Int32) (X2 : Unit → Option Nat) => Sim RI (X ()) (X2 ())) ?_ (fun j68 gj68 h_j68 => ?_)
          · exact h_j69 _ _ (qi_lit 0)
          · refine sim_rd h_v (at_n0 (i := 0) (atkb (k := 1) (o := o) (L := 10) (by decide) rfl h_o) (by decide)) (fun y3 ey3 => ?_)
            refine sim_bd (s_X5_hasLeftBy h_o h_x1 ey3 h_v) (fun r_43 gr_43 h_r_43 => ?_)
            refine sim_if (ic_eq h_r_43 (qi_lit 0)) ?_ ?_
            · refine sim_bd (s_X5_isAwayOn h_o h_x1 ey3 h_v) (fun r_58 gr_58 h_r_58 => ?_)
              refine sim_if (ic_eq h_r_58 (qi_lit 0)) ?_ ?_
              · exact h_j69 _ _ (qi_lit 1)
              · exact h_j68 
            · exact h_j68 
set_option maxRecDepth 20000 in
theorem s_X0_sendAway {o : Nat} {x1 : Int32} {gx1 : Nat} {x2 : Int32} {gx2 : Nat} {x3 : Int32} {gx3 : Nat} {v : mC} {gv : MG} (h_o : o < 7) (h_x1 : RI x1 gx1) (h_x2 : RI x2 gx2) (h_x3 : RI x3 gx3) (h_v : RM v gv) : Sim RP (f_X0_sendAway o x1 x2 x3 v) (g_X0_sendAway o gx1 gx2 gx3 gv) := by
  unfold f_X0_sendAway g_X0_sendAway
  refine sim_inb h_x1 (by decide) (fun hc1 => ?_)
  refine sim_rd h_v (at_n0 (i := 0) (atkb (k := 1) (o := o) (L := 10) (by decide) rfl h_o) (by decide)) (fun y2 ey2 => ?_)
  refine sim_sq (ia_add ey2 h_x3) (fun y3 ey3 => ?_)
  refine sim_wr h_v (at_x0 (atkb (k := 11) (o := o) (L := 30) (by decide) rfl h_o) h_x1 hc1 (by decide)) ey3 (fun w14_1 gw14_1 h_w14_1 => ?_)
  refine sim_inb h_x2 (by decide) (fun hc4 => ?_)
  refine sim_inb0 h_x2 hc4 (by decide) ?_
  refine sim_rd h_w14_1 (at_x0 (atkb (k := 30) (o := o) (L := 5) (by decide) rfl h_o) h_x2 hc4 (by decide)) (fun y5 ey5 => ?_)
  refine sim_sq (ia_add ey5 (qi_lit 1)) (fun y6 ey6 => ?_)
  refine sim_wr h_w14_1 (at_x0 (atkb (k := 30) (o := o) (L := 5) (by decide) rfl h_o) h_x2 hc4 (by decide)) ey6 (fun w24_2 gw24_2 h_w24_2 => ?_)
  refine sim_rd h_w24_2 (at_n0 (i := 6) (atkb (k := 1) (o := o) (L := 10) (by decide) rfl h_o) (by decide)) (fun y7 ey7 => ?_)
  refine sim_sq (ia_add ey7 (ia_mul (qi_lit 2) h_x3)) (fun y8 ey8 => ?_)
  refine sim_wr h_w24_2 (at_n0 (i := 6) (atkb (k := 1) (o := o) (L := 10) (by decide) rfl h_o) (by decide)) ey8 (fun w34_3 gw34_3 h_w34_3 => ?_)
  refine sim_rd h_w34_3 (at_n0 (i := 5) (atkb (k := 1) (o := o) (L := 10) (by decide) rfl h_o) (by decide)) (fun y9 ey9 => ?_)
  refine sim_sq (ia_add ey9 (ia_mul (qi_lit 2) h_x3)) (fun y10 ey10 => ?_)
  refine sim_wr h_w34_3 (at_n0 (i := 5) (atkb (k := 1) (o := o) (L := 10) (by decide) rfl h_o) (by decide)) ey10 (fun w46_4 gw46_4 h_w46_4 => ?_)
  refine sim_inb0 h_x1 hc1 (by decide) ?_
  refine sim_rd h_w46_4 (at_x0 (atkb (k := 11) (o := o) (L := 30) (by decide) rfl h_o) h_x1 hc1 (by decide)) (fun y11 ey11 => ?_)
  exact sim_P ey11 h_w46_4
set_option maxRecDepth 20000 in
theorem s_X6_lend {x1 : Int32} {gx1 : Nat} {x2 : Int32} {gx2 : Nat} {x3 : Int32} {gx3 : Nat} {v : mC} {gv : MG} (h_x1 : RI x1 gx1) (h_x2 : RI x2 gx2) (h_x3 : RI x3 gx3) (h_v : RM v gv) : Sim RT (f_X6_lend x1 x2 x3 v) (g_X6_lend gx1 gx2 gx3 gv) := by
  unfold f_X6_lend g_X6_lend
  refine sim_bd (s_X0_refusalToSendAway (by decide) h_x1 h_x2 h_x3 h_v) (fun r_7 gr_7 h_r_7 => ?_)
  refine sim_tb (s_X6_refuseIf h_r_7 h_v) (fun r_10 gr_10 h_r_10 w_10 gw_10 h_w_10 => ?_)
  refine sim_bd (s_X6_keepState h_w_10) (fun r_14 gr_14 h_r_14 => ?_)
  refine sim_bd (s_X0_sendAway (by decide) h_x1 h_x2 h_x3 h_r_14) (fun r_24 gr_24 h_r_24 => ?_)
  exact sim_T h_r_24.1 h_r_24.2
set_option maxRecDepth 20000 in
theorem s_X4_areFull {o : Nat} {v : mC} {gv : MG} (h_o : o < 7) (h_v : RM v gv) : Sim RI (f_X4_areFull o v) (g_X4_areFull o gv) := by
  unfold f_X4_areFull g_X4_areFull
  refine sim_rd h_v (at_n0 (i := 0) (atkb (k := 14) (o := o) (L := 1) (by decide) rfl h_o) (by decide)) (fun y1 ey1 => ?_)
  refine sim_if (ic_lt ey1 (qi_lit 60)) ?_ ?_
  · refine sim_zb0 ?_
    exact sim_Iv (qi_lit 0)
  · refine sim_zb1 ?_
    exact sim_Iv (qi_lit 1)
set_option maxRecDepth 20000 in
theorem sl_X4_coverAnyOf_3 {o : Nat} {x1 : Int32} {gx1 : Nat} {x2 : Int32} {gx2 : Nat} {x3 : Int32} {gx3 : Nat} {v : mC} {gv : MG} {self3 : Int32 → Option Int32} {gself3 : Nat → Option Nat} (h_o : o < 7) (h_x1 : RI x1 gx1) (h_x2 : RI x2 gx2) (h_x3 : RI x3 gx3) (h_v : RM v gv) (h_self3 : (fun (X : Int32 → Option Int32) (X2 : Nat → Option Nat) => ∀ (a0 : Int32) (b0 : Nat), RI a0 b0 → Sim RI (X a0) (X2 b0)) self3 gself3) : (fun (X : Int32 → Option Int32) (X2 : Nat → Option Nat) => ∀ (a0 : Int32) (b0 : Nat), RI a0 b0 → Sim RI (X a0) (X2 b0)) (L_X4_coverAnyOf_3 o x1 x2 x3 v self3) (GL_X4_coverAnyOf_3 o gx1 gx2 gx3 gv gself3) := by
  intro x4_3 gx4_3 h_x4_3
  show Sim RI _ _
  unfold L_X4_coverAnyOf_3 GL_X4_coverAnyOf_3
  show Sim RI _ _
  refine sim_rd h_v (at_n0 (i := 0) (atkb (k := 14) (o := o) (L := 1) (by decide) rfl h_o) (by decide)) (fun y1 ey1 => ?_)
  refine sim_if (ic_le ey1 h_x4_3) ?_ ?_
  · refine sim_zb0 ?_
    exact sim_Iv (qi_lit 0)
  · refine sim_inb h_x4_3 (by decide) (fun hc2 => ?_)
    refine sim_rd h_v (at_x0 (atkb (k := 15) (o := o) (L := 60) (by decide) rfl h_o) h_x4_3 hc2 (by decide)) (fun y3 ey3 => ?_)
    refine sim_if (ic_eq ey3 h_x1) ?_ ?_
    · refine sim_inb0 h_x4_3 hc2 (by decide) ?_
      refine sim_rd h_v (at_x0 (atkb (k := 16) (o := o) (L := 60) (by decide) rfl h_o) h_x4_3 hc2 (by decide)) (fun y4 ey4 => ?_)
      refine sim_if (ic_lt h_x3 ey4) ?_ ?_
      · refine sim_sq (ia_add h_x4_3 (qi_lit 1)) (fun y5 ey5 => ?_)
        exact h_self3 _ _ ey5
      · refine sim_inb0 h_x4_3 hc2 (by decide) ?_
        refine sim_rd h_v (at_x0 (atkb (k := 17) (o := o) (L := 60) (by decide) rfl h_o) h_x4_3 hc2 (by decide)) (fun y6 ey6 => ?_)
        refine sim_if (ic_lt ey6 h_x2) ?_ ?_
        · refine sim_sq (ia_add h_x4_3 (qi_lit 1)) (fun y7 ey7 => ?_)
          exact h_self3 _ _ ey7
        · refine sim_zb1 ?_
          exact sim_Iv (qi_lit 1)
    · refine sim_sq (ia_add h_x4_3 (qi_lit 1)) (fun y8 ey8 => ?_)
      exact h_self3 _ _ ey8
set_option maxRecDepth 20000 in
theorem s_X4_coverAnyOf {o : Nat} {x1 : Int32} {gx1 : Nat} {x2 : Int32} {gx2 : Nat} {x3 : Int32} {gx3 : Nat} {v : mC} {gv : MG} (h_o : o < 7) (h_x1 : RI x1 gx1) (h_x2 : RI x2 gx2) (h_x3 : RI x3 gx3) (h_v : RM v gv) : Sim RI (f_X4_coverAnyOf o x1 x2 x3 v) (g_X4_coverAnyOf o gx1 gx2 gx3 gv) := by
  unfold f_X4_coverAnyOf g_X4_coverAnyOf
  refine lp_sim (fun (X : Int32 → Option Int32) (X2 : Nat → Option Nat) => ∀ (a0 : Int32) (b0 : Nat), RI a0 b0 → Sim RI (X a0) (X2 b0)) (fun _ _ _ => sim_none) (fun self gself hself => ?_) 8192 _ _ (qi_lit 0)
  · exact sl_X4_coverAnyOf_3 h_o h_x1 h_x2 h_x3 h_v hself
set_option maxRecDepth 20000 in
theorem s_X0_refusalToTakeNote {o : Nat} {x1 : Int32} {gx1 : Nat} {x2 : Int32} {gx2 : Nat} {x3 : Int32} {gx3 : Nat} {v : mC} {gv : MG} (h_o : o < 7) (h_x1 : RI x1 gx1) (h_x2 : RI x2 gx2) (h_x3 : RI x3 gx3) (h_v : RM v gv) : Sim RI (f_X0_refusalToTakeNote o x1 x2 x3 v) (g_X0_refusalToTakeNote o gx1 gx2 gx3 gv) := by
  unfold f_X0_refusalToTakeNote g_X0_refusalToTakeNote
  refine sim_bd (s_X5_has h_o h_x1 h_v) (fun r_5 gr_5 h_r_5 => ?_)
  refine sim_if (ic_eq h_r_5 (qi_lit 0)) ?_ ?_
  · exact sim_Iv (qi_lit 1)
  · refine sim_rd h_v (at_n0 (i := 0) (atkb (k := 1) (o := o) (L := 10) (by decide) rfl h_o) (by decide)) (fun y1 ey1 => ?_)
    refine sim_sq (ia_add ey1 (qi_lit 1)) (fun y2 ey2 => ?_)
    refine sim_bd (s_X6_isWithin h_x2 ey2 (qi_lit 9999) h_v) (fun r_23 gr_23 h_r_23 => ?_)
    refine sim_if (ic_eq h_r_23 (qi_lit 0)) ?_ ?_
    · exact sim_Iv (qi_lit 2)
    · refine sim_sq (ia_add h_x2 (qi_lit 60)) (fun y3 ey3 => ?_)
      refine sim_bd (s_X6_isWithin h_x3 h_x2 ey3 h_v) (fun r_35 gr_35 h_r_35 => ?_)
      refine sim_if (ic_eq h_r_35 (qi_lit 0)) ?_ ?_
      · exact sim_Iv (qi_lit 2)
      · refine sim_jn (fun (X : Int32 → Option Int32) (X2 : Nat → Option Nat) => ∀ (a0 : Int32) (b0 : Nat), RI a0 b0 → Sim RI (X a0) (X2 b0)) ?_ (fun j71 gj71 h_j71 => ?_)
        · intro s0_71 gs0_71 h_s0_71
          refine sim_if (ic_eq h_s0_71 (qi_lit 0)) ?_ ?_
          · exact sim_Iv (qi_lit 3)
          · refine sim_bd (s_X5_hasLeftBy h_o h_x1 ey1 h_v) (fun r_87 gr_87 h_r_87 => ?_)
            refine sim_if (ic_eq h_r_87 (qi_lit 0)) ?_ ?_
            · exact sim_Iv (qi_lit 0)
            · exact sim_Iv (qi_lit 3)
        · refine sim_jn (fun (X : Unit → Option Int32) (X2 : Unit → Option Nat) => Sim RI (X ()) (X2 ())) ?_ (fun j70 gj70 h_j70 => ?_)
          · exact h_j71 _ _ (qi_lit 0)
          · refine sim_bd (s_X4_areFull h_o h_v) (fun r_47 gr_47 h_r_47 => ?_)
            refine sim_if (ic_eq h_r_47 (qi_lit 0)) ?_ ?_
            · refine sim_bd (s_X4_coverAnyOf h_o h_x1 h_x2 h_x3 h_v) (fun r_60 gr_60 h_r_60 => ?_)
              refine sim_if (ic_eq h_r_60 (qi_lit 0)) ?_ ?_
              · exact h_j71 _ _ (qi_lit 1)
              · exact h_j70 
            · exact h_j70 
set_option maxRecDepth 20000 in
theorem sl_X4_add_46 {o : Nat} {x1 : Int32} {gx1 : Nat} {w37_4 : mC} {gw37_4 : MG} {self46 : Int32 → Int32 → Option (Int32 × mC)} {gself46 : Nat → Nat → Option (Nat × MG)} (h_o : o < 7) (h_x1 : RI x1 gx1) (h_w37_4 : RM w37_4 gw37_4) (h_self46 : (fun (X : Int32 → Int32 → Option (Int32 × mC)) (X2 : Nat → Nat → Option (Nat × MG)) => ∀ (a0 : Int32) (b0 : Nat) (a1 : Int32) (b1 : Nat), RI a0 b0 → RI a1 b1 → Sim RP (X a0 a1) (X2 b0 b1)) self46 gself46) : (fun (X : Int32 → Int32 → Option (Int32 × mC)) (X2 : Nat → Nat → Option (Nat × MG)) => ∀ (a0 : Int32) (b0 : Nat) (a1 : Int32) (b1 : Nat), RI a0 b0 → RI a1 b1 → Sim RP (X a0 a1) (X2 b0 b1)) (L_X4_add_46 o x1 w37_4 self46) (GL_X4_add_46 o gx1 gw37_4 gself46) := by
  intro x4_46 gx4_46 x5_46 gx5_46 h_x4_46 h_x5_46
  show Sim RP _ _
  unfold L_X4_add_46 GL_X4_add_46
  show Sim RP _ _
  refine sim_rd h_w37_4 (at_n0 (i := 0) (atkb (k := 14) (o := o) (L := 1) (by decide) rfl h_o) (by decide)) (fun y1 ey1 => ?_)
  refine sim_if (ic_le ey1 h_x5_46) ?_ ?_
  · exact sim_P h_x4_46 h_w37_4
  · refine sim_inb h_x5_46 (by decide) (fun hc2 => ?_)
    refine sim_rd h_w37_4 (at_x0 (atkb (k := 15) (o := o) (L := 60) (by decide) rfl h_o) h_x5_46 hc2 (by decide)) (fun y3 ey3 => ?_)
    refine sim_if (ic_eq ey3 h_x1) ?_ ?_
    · refine sim_sq (ia_add h_x4_46 (qi_lit 1)) (fun y4 ey4 => ?_)
      refine sim_sq (ia_add h_x5_46 (qi_lit 1)) (fun y5 ey5 => ?_)
      exact h_self46 _ _ _ _ ey4 ey5
    · refine sim_sq (ia_add h_x5_46 (qi_lit 1)) (fun y6 ey6 => ?_)
      exact h_self46 _ _ _ _ h_x4_46 ey6
set_option maxRecDepth 20000 in
theorem s_X4_add {o : Nat} {x1 : Int32} {gx1 : Nat} {x2 : Int32} {gx2 : Nat} {x3 : Int32} {gx3 : Nat} {v : mC} {gv : MG} (h_o : o < 7) (h_x1 : RI x1 gx1) (h_x2 : RI x2 gx2) (h_x3 : RI x3 gx3) (h_v : RM v gv) : Sim RP (f_X4_add o x1 x2 x3 v) (g_X4_add o gx1 gx2 gx3 gv) := by
  unfold f_X4_add g_X4_add
  refine sim_rd h_v (at_n0 (i := 0) (atkb (k := 14) (o := o) (L := 1) (by decide) rfl h_o) (by decide)) (fun y1 ey1 => ?_)
  refine sim_inb ey1 (by decide) (fun hc2 => ?_)
  refine sim_wr h_v (at_x0 (atkb (k := 15) (o := o) (L := 60) (by decide) rfl h_o) ey1 hc2 (by decide)) h_x1 (fun w9_1 gw9_1 h_w9_1 => ?_)
  refine sim_rd h_w9_1 (at_n0 (i := 0) (atkb (k := 14) (o := o) (L := 1) (by decide) rfl h_o) (by decide)) (fun y3 ey3 => ?_)
  refine sim_inb ey3 (by decide) (fun hc4 => ?_)
  refine sim_wr h_w9_1 (at_x0 (atkb (k := 16) (o := o) (L := 60) (by decide) rfl h_o) ey3 hc4 (by decide)) h_x2 (fun w19_2 gw19_2 h_w19_2 => ?_)
  refine sim_rd h_w19_2 (at_n0 (i := 0) (atkb (k := 14) (o := o) (L := 1) (by decide) rfl h_o) (by decide)) (fun y5 ey5 => ?_)
  refine sim_inb ey5 (by decide) (fun hc6 => ?_)
  refine sim_wr h_w19_2 (at_x0 (atkb (k := 17) (o := o) (L := 60) (by decide) rfl h_o) ey5 hc6 (by decide)) h_x3 (fun w29_3 gw29_3 h_w29_3 => ?_)
  refine sim_rd h_w29_3 (at_n0 (i := 0) (atkb (k := 14) (o := o) (L := 1) (by decide) rfl h_o) (by decide)) (fun y7 ey7 => ?_)
  refine sim_sq (ia_add ey7 (qi_lit 1)) (fun y8 ey8 => ?_)
  refine sim_wr h_w29_3 (at_n0 (i := 0) (atkb (k := 14) (o := o) (L := 1) (by decide) rfl h_o) (by decide)) ey8 (fun w37_4 gw37_4 h_w37_4 => ?_)
  refine lp_sim (fun (X : Int32 → Int32 → Option (Int32 × mC)) (X2 : Nat → Nat → Option (Nat × MG)) => ∀ (a0 : Int32) (b0 : Nat) (a1 : Int32) (b1 : Nat), RI a0 b0 → RI a1 b1 → Sim RP (X a0 a1) (X2 b0 b1)) (fun _ _ _ _ _ _ => sim_none) (fun self gself hself => ?_) 8192 _ _ _ _ (qi_lit 0) (qi_lit 0)
  · exact sl_X4_add_46 h_o h_x1 h_w37_4 hself
set_option maxRecDepth 20000 in
theorem s_X0_takeNote {o : Nat} {x1 : Int32} {gx1 : Nat} {x2 : Int32} {gx2 : Nat} {x3 : Int32} {gx3 : Nat} {v : mC} {gv : MG} (h_o : o < 7) (h_x1 : RI x1 gx1) (h_x2 : RI x2 gx2) (h_x3 : RI x3 gx3) (h_v : RM v gv) : Sim RP (f_X0_takeNote o x1 x2 x3 v) (g_X0_takeNote o gx1 gx2 gx3 gv) := by
  unfold f_X0_takeNote g_X0_takeNote
  refine sim_bd (s_X4_add h_o h_x1 h_x2 h_x3 h_v) (fun r_7 gr_7 h_r_7 => ?_)
  exact sim_P h_r_7.1 h_r_7.2
set_option maxRecDepth 20000 in
theorem s_X6_excuse {x1 : Int32} {gx1 : Nat} {x2 : Int32} {gx2 : Nat} {x3 : Int32} {gx3 : Nat} {v : mC} {gv : MG} (h_x1 : RI x1 gx1) (h_x2 : RI x2 gx2) (h_x3 : RI x3 gx3) (h_v : RM v gv) : Sim RT (f_X6_excuse x1 x2 x3 v) (g_X6_excuse gx1 gx2 gx3 gv) := by
  unfold f_X6_excuse g_X6_excuse
  refine sim_bd (s_X0_refusalToTakeNote (by decide) h_x1 h_x2 h_x3 h_v) (fun r_7 gr_7 h_r_7 => ?_)
  refine sim_tb (s_X6_refuseIf h_r_7 h_v) (fun r_10 gr_10 h_r_10 w_10 gw_10 h_w_10 => ?_)
  refine sim_bd (s_X6_keepState h_w_10) (fun r_14 gr_14 h_r_14 => ?_)
  refine sim_bd (s_X0_takeNote (by decide) h_x1 h_x2 h_x3 h_r_14) (fun r_24 gr_24 h_r_24 => ?_)
  exact sim_T h_r_24.1 h_r_24.2
set_option maxRecDepth 20000 in
theorem s_X1_isFull {o : Nat} {v : mC} {gv : MG} (h_o : o < 7) (h_v : RM v gv) : Sim RI (f_X1_isFull o v) (g_X1_isFull o gv) := by
  unfold f_X1_isFull g_X1_isFull
  refine sim_rd h_v (at_n0 (i := 0) (atkb (k := 18) (o := o) (L := 1) (by decide) rfl h_o) (by decide)) (fun y1 ey1 => ?_)
  refine sim_if (ic_lt ey1 (qi_lit 20)) ?_ ?_
  · refine sim_zb0 ?_
    exact sim_Iv (qi_lit 0)
  · refine sim_zb1 ?_
    exact sim_Iv (qi_lit 1)
set_option maxRecDepth 20000 in
theorem sl_X1_hasFeastOn_2 {o : Nat} {x1 : Int32} {gx1 : Nat} {v : mC} {gv : MG} {self2 : Int32 → Option Int32} {gself2 : Nat → Option Nat} (h_o : o < 7) (h_x1 : RI x1 gx1) (h_v : RM v gv) (h_self2 : (fun (X : Int32 → Option Int32) (X2 : Nat → Option Nat) => ∀ (a0 : Int32) (b0 : Nat), RI a0 b0 → Sim RI (X a0) (X2 b0)) self2 gself2) : (fun (X : Int32 → Option Int32) (X2 : Nat → Option Nat) => ∀ (a0 : Int32) (b0 : Nat), RI a0 b0 → Sim RI (X a0) (X2 b0)) (L_X1_hasFeastOn_2 o x1 v self2) (GL_X1_hasFeastOn_2 o gx1 gv gself2) := by
  intro x2_2 gx2_2 h_x2_2
  show Sim RI _ _
  unfold L_X1_hasFeastOn_2 GL_X1_hasFeastOn_2
  show Sim RI _ _
  refine sim_rd h_v (at_n0 (i := 0) (atkb (k := 18) (o := o) (L := 1) (by decide) rfl h_o) (by decide)) (fun y1 ey1 => ?_)
  refine sim_if (ic_le ey1 h_x2_2) ?_ ?_
  · refine sim_zb0 ?_
    exact sim_Iv (qi_lit 0)
  · refine sim_inb h_x2_2 (by decide) (fun hc2 => ?_)
    refine sim_rd h_v (at_x0 (atkb (k := 19) (o := o) (L := 20) (by decide) rfl h_o) h_x2_2 hc2 (by decide)) (fun y3 ey3 => ?_)
    refine sim_if (ic_eq ey3 h_x1) ?_ ?_
    · refine sim_zb1 ?_
      exact sim_Iv (qi_lit 1)
    · refine sim_sq (ia_add h_x2_2 (qi_lit 1)) (fun y4 ey4 => ?_)
      exact h_self2 _ _ ey4
set_option maxRecDepth 20000 in
theorem s_X1_hasFeastOn {o : Nat} {x1 : Int32} {gx1 : Nat} {v : mC} {gv : MG} (h_o : o < 7) (h_x1 : RI x1 gx1) (h_v : RM v gv) : Sim RI (f_X1_hasFeastOn o x1 v) (g_X1_hasFeastOn o gx1 gv) := by
  unfold f_X1_hasFeastOn g_X1_hasFeastOn
  refine lp_sim (fun (X : Int32 → Option Int32) (X2 : Nat → Option Nat) => ∀ (a0 : Int32) (b0 : Nat), RI a0 b0 → Sim RI (X a0) (X2 b0)) (fun _ _ _ => sim_none) (fun self gself hself => ?_) 8192 _ _ (qi_lit 0)
  · exact sl_X1_hasFeastOn_2 h_o h_x1 h_v hself
set_option maxRecDepth 20000 in
theorem s_X0_refusalToAddFeast {o : Nat} {x1 : Int32} {gx1 : Nat} {x2 : Int32} {gx2 : Nat} {v : mC} {gv : MG} (h_o : o < 7) (h_x1 : RI x1 gx1) (h_x2 : RI x2 gx2) (h_v : RM v gv) : Sim RI (f_X0_refusalToAddFeast o x1 x2 v) (g_X0_refusalToAddFeast o gx1 gx2 gv) := by
  unfold f_X0_refusalToAddFeast g_X0_refusalToAddFeast
  refine sim_rd h_v (at_n0 (i := 0) (atkb (k := 1) (o := o) (L := 10) (by decide) rfl h_o) (by decide)) (fun y1 ey1 => ?_)
  refine sim_sq (ia_add ey1 (qi_lit 1)) (fun y2 ey2 => ?_)
  refine sim_bd (s_X6_isWithin h_x1 ey2 (qi_lit 9999) h_v) (fun r_10 gr_10 h_r_10 => ?_)
  refine sim_if (ic_eq h_r_10 (qi_lit 0)) ?_ ?_
  · exact sim_Iv (qi_lit 2)
  · refine sim_bd (s_X6_isWithin h_x2 (qi_lit 1) (qi_lit 3) h_v) (fun r_19 gr_19 h_r_19 => ?_)
    refine sim_if (ic_eq h_r_19 (qi_lit 0)) ?_ ?_
    · exact sim_Iv (qi_lit 2)
    · refine sim_bd (s_X1_isFull h_o h_v) (fun r_31 gr_31 h_r_31 => ?_)
      refine sim_if (ic_eq h_r_31 (qi_lit 0)) ?_ ?_
      · refine sim_bd (s_X1_hasFeastOn h_o h_x1 h_v) (fun r_42 gr_42 h_r_42 => ?_)
        refine sim_if (ic_eq h_r_42 (qi_lit 0)) ?_ ?_
        · exact sim_Iv (qi_lit 0)
        · exact sim_Iv (qi_lit 3)
      · exact sim_Iv (qi_lit 3)
set_option maxRecDepth 20000 in
theorem s_X1_add {o : Nat} {x1 : Int32} {gx1 : Nat} {x2 : Int32} {gx2 : Nat} {v : mC} {gv : MG} (h_o : o < 7) (h_x1 : RI x1 gx1) (h_x2 : RI x2 gx2) (h_v : RM v gv) : Sim RP (f_X1_add o x1 x2 v) (g_X1_add o gx1 gx2 gv) := by
  unfold f_X1_add g_X1_add
  refine sim_rd h_v (at_n0 (i := 0) (atkb (k := 18) (o := o) (L := 1) (by decide) rfl h_o) (by decide)) (fun y1 ey1 => ?_)
  refine sim_inb ey1 (by decide) (fun hc2 => ?_)
  refine sim_wr h_v (at_x0 (atkb (k := 19) (o := o) (L := 20) (by decide) rfl h_o) ey1 hc2 (by decide)) h_x1 (fun w11_1 gw11_1 h_w11_1 => ?_)
  refine sim_inb0 ey1 hc2 (by decide) ?_
  refine sim_wr h_w11_1 (at_x0 (atkb (k := 20) (o := o) (L := 20) (by decide) rfl h_o) ey1 hc2 (by decide)) h_x2 (fun w18_2 gw18_2 h_w18_2 => ?_)
  refine sim_inb0 ey1 hc2 (by decide) ?_
  refine sim_fill h_w18_2 (atkr4 (k := 26) (o := o) (by decide) rfl ey1 hc2) (qi_lit 0) (by decide) (fun r_26 gr_26 h_r_26 => ?_)
  refine sim_inb0 ey1 hc2 (by decide) ?_
  refine sim_fill h_r_26 (atkr4 (k := 27) (o := o) (by decide) rfl ey1 hc2) (qi_lit 0) (by decide) (fun r_36 gr_36 h_r_36 => ?_)
  refine sim_inb0 ey1 hc2 (by decide) ?_
  refine sim_fill h_r_36 (atkr4 (k := 28) (o := o) (by decide) rfl ey1 hc2) (qi_lit 0) (by decide) (fun r_46 gr_46 h_r_46 => ?_)
  refine sim_rd h_r_46 (at_n0 (i := 0) (atkb (k := 18) (o := o) (L := 1) (by decide) rfl h_o) (by decide)) (fun y3 ey3 => ?_)
  refine sim_sq (ia_add ey3 (qi_lit 1)) (fun y4 ey4 => ?_)
  refine sim_wr h_r_46 (at_n0 (i := 0) (atkb (k := 18) (o := o) (L := 1) (by decide) rfl h_o) (by decide)) ey4 (fun w56_3 gw56_3 h_w56_3 => ?_)
  exact sim_P ey1 h_w56_3
set_option maxRecDepth 20000 in
theorem s_X0_addFeast {o : Nat} {x1 : Int32} {gx1 : Nat} {x2 : Int32} {gx2 : Nat} {v : mC} {gv : MG} (h_o : o < 7) (h_x1 : RI x1 gx1) (h_x2 : RI x2 gx2) (h_v : RM v gv) : Sim RP (f_X0_addFeast o x1 x2 v) (g_X0_addFeast o gx1 gx2 gv) := by
  unfold f_X0_addFeast g_X0_addFeast
  refine sim_bd (s_X1_add h_o h_x1 h_x2 h_v) (fun r_6 gr_6 h_r_6 => ?_)
  exact sim_P h_r_6.1 h_r_6.2
set_option maxRecDepth 20000 in
theorem s_X6_announce {x1 : Int32} {gx1 : Nat} {x2 : Int32} {gx2 : Nat} {v : mC} {gv : MG} (h_x1 : RI x1 gx1) (h_x2 : RI x2 gx2) (h_v : RM v gv) : Sim RT (f_X6_announce x1 x2 v) (g_X6_announce gx1 gx2 gv) := by
  unfold f_X6_announce g_X6_announce
  refine sim_bd (s_X0_refusalToAddFeast (by decide) h_x1 h_x2 h_v) (fun r_6 gr_6 h_r_6 => ?_)
  refine sim_tb (s_X6_refuseIf h_r_6 h_v) (fun r_9 gr_9 h_r_9 w_9 gw_9 h_w_9 => ?_)
  refine sim_bd (s_X6_keepState h_w_9) (fun r_13 gr_13 h_r_13 => ?_)
  refine sim_bd (s_X0_addFeast (by decide) h_x1 h_x2 h_r_13) (fun r_22 gr_22 h_r_22 => ?_)
  exact sim_T h_r_22.1 h_r_22.2
set_option maxRecDepth 20000 in
theorem s_X1_has {o : Nat} {x1 : Int32} {gx1 : Nat} {v : mC} {gv : MG} (h_o : o < 7) (h_x1 : RI x1 gx1) (h_v : RM v gv) : Sim RI (f_X1_has o x1 v) (g_X1_has o gx1 gv) := by
  unfold f_X1_has g_X1_has
  refine sim_if (ic_lt h_x1 (qi_lit 0)) ?_ ?_
  · refine sim_zb0 ?_
    exact sim_Iv (qi_lit 0)
  · refine sim_rd h_v (at_n0 (i := 0) (atkb (k := 18) (o := o) (L := 1) (by decide) rfl h_o) (by decide)) (fun y1 ey1 => ?_)
    refine sim_if (ic_le ey1 h_x1) ?_ ?_
    · refine sim_zb0 ?_
      exact sim_Iv (qi_lit 0)
    · refine sim_zb1 ?_
      exact sim_Iv (qi_lit 1)
set_option maxRecDepth 20000 in
theorem s_X6_isLine {x0 : Int32} {gx0 : Nat} {v : mC} {gv : MG} (h_x0 : RI x0 gx0) (h_v : RM v gv) : Sim RI (f_X6_isLine x0 v) (g_X6_isLine gx0 gv) := by
  unfold f_X6_isLine g_X6_isLine
  refine sim_bd (s_X6_isWithin h_x0 (qi_lit 0) (qi_lit 3) h_v) (fun r_3 gr_3 h_r_3 => ?_)
  refine sim_zb h_r_3 ?_
  exact sim_Iv h_r_3
set_option maxRecDepth 20000 in
theorem s_X0_hasHeld {o : Nat} {x1 : Int32} {gx1 : Nat} {v : mC} {gv : MG} (h_o : o < 7) (h_x1 : RI x1 gx1) (h_v : RM v gv) : Sim RI (f_X0_hasHeld o x1 v) (g_X0_hasHeld o gx1 gv) := by
  unfold f_X0_hasHeld g_X0_hasHeld
  refine sim_inb h_x1 (by decide) (fun hc1 => ?_)
  refine sim_rd h_v (at_n0 (i := 0) (atkb (k := 1) (o := o) (L := 10) (by decide) rfl h_o) (by decide)) (fun y2 ey2 => ?_)
  refine sim_rd h_v (at_x0 (atkb (k := 19) (o := o) (L := 20) (by decide) rfl h_o) h_x1 hc1 (by decide)) (fun y3 ey3 => ?_)
  refine sim_if (ic_lt ey2 ey3) ?_ ?_
  · refine sim_zb0 ?_
    exact sim_Iv (qi_lit 0)
  · refine sim_zb1 ?_
    exact sim_Iv (qi_lit 1)
set_option maxRecDepth 20000 in
theorem s_X0_refusalToArrange {o : Nat} {x1 : Int32} {gx1 : Nat} {x2 : Int32} {gx2 : Nat} {x3 : Int32} {gx3 : Nat} {x4 : Int32} {gx4 : Nat} {x5 : Int32} {gx5 : Nat} {v : mC} {gv : MG} (h_o : o < 7) (h_x1 : RI x1 gx1) (h_x2 : RI x2 gx2) (h_x3 : RI x3 gx3) (h_x4 : RI x4 gx4) (h_x5 : RI x5 gx5) (h_v : RM v gv) : Sim RI (f_X0_refusalToArrange o x1 x2 x3 x4 x5 v) (g_X0_refusalToArrange o gx1 gx2 gx3 gx4 gx5 gv) := by
  unfold f_X0_refusalToArrange g_X0_refusalToArrange
  refine sim_bd (s_X1_has h_o h_x1 h_v) (fun r_5 gr_5 h_r_5 => ?_)
  refine sim_if (ic_eq h_r_5 (qi_lit 0)) ?_ ?_
  · exact sim_Iv (qi_lit 1)
  · refine sim_bd (s_X6_isLine h_x2 h_v) (fun r_12 gr_12 h_r_12 => ?_)
    refine sim_if (ic_eq h_r_12 (qi_lit 0)) ?_ ?_
    · exact sim_Iv (qi_lit 1)
    · refine sim_bd (s_X6_isWithin h_x3 (qi_lit 0) (qi_lit 6) h_v) (fun r_24 gr_24 h_r_24 => ?_)
      refine sim_if (ic_eq h_r_24 (qi_lit 0)) ?_ ?_
      · exact sim_Iv (qi_lit 2)
      · refine sim_bd (s_X6_isRange h_x4 h_x5 h_v) (fun r_34 gr_34 h_r_34 => ?_)
        refine sim_if (ic_eq h_r_34 (qi_lit 0)) ?_ ?_
        · exact sim_Iv (qi_lit 2)
        · refine sim_bd (s_X0_hasHeld h_o h_x1 h_v) (fun r_44 gr_44 h_r_44 => ?_)
          refine sim_if (ic_eq h_r_44 (qi_lit 0)) ?_ ?_
          · exact sim_Iv (qi_lit 0)
          · exact sim_Iv (qi_lit 3)
set_option maxRecDepth 20000 in
theorem sl_X1_allPlaces_4 {o : Nat} {x1 : Int32} {gx1 : Nat} {v : mC} {gv : MG} {self4 : Int32 → Int32 → Option Int32} {gself4 : Nat → Nat → Option Nat} (h_o : o < 7) (h_x1 : RI x1 gx1) (h_v : RM v gv) (h_self4 : (fun (X : Int32 → Int32 → Option Int32) (X2 : Nat → Nat → Option Nat) => ∀ (a0 : Int32) (b0 : Nat) (a1 : Int32) (b1 : Nat), RI a0 b0 → RI a1 b1 → Sim RI (X a0 a1) (X2 b0 b1)) self4 gself4) : (fun (X : Int32 → Int32 → Option Int32) (X2 : Nat → Nat → Option Nat) => ∀ (a0 : Int32) (b0 : Nat) (a1 : Int32) (b1 : Nat), RI a0 b0 → RI a1 b1 → Sim RI (X a0 a1) (X2 b0 b1)) (L_X1_allPlaces_4 o x1 v self4) (GL_X1_allPlaces_4 o gx1 gv gself4) := by
  intro x2_4 gx2_4 x3_4 gx3_4 h_x2_4 h_x3_4
  show Sim RI _ _
  unfold L_X1_allPlaces_4 GL_X1_allPlaces_4
  show Sim RI _ _
  refine sim_if (ic_le (qi_lit 4) h_x3_4) ?_ ?_
  · exact sim_Iv h_x2_4
  · refine sim_inb h_x1 (by decide) (fun hc1 => ?_)
    refine sim_inb h_x3_4 (by decide) (fun hc2 => ?_)
    refine sim_rd h_v (at_x (atkr4 (k := 26) (o := o) (by decide) rfl h_x1 hc1) h_x3_4 hc2 (by decide)) (fun y3 ey3 => ?_)
    refine sim_sq (ia_add h_x2_4 ey3) (fun y4 ey4 => ?_)
    refine sim_sq (ia_add h_x3_4 (qi_lit 1)) (fun y5 ey5 => ?_)
    exact h_self4 _ _ _ _ ey4 ey5
set_option maxRecDepth 20000 in
theorem s_X1_allPlaces {o : Nat} {x1 : Int32} {gx1 : Nat} {v : mC} {gv : MG} (h_o : o < 7) (h_x1 : RI x1 gx1) (h_v : RM v gv) : Sim RI (f_X1_allPlaces o x1 v) (g_X1_allPlaces o gx1 gv) := by
  unfold f_X1_allPlaces g_X1_allPlaces
  refine lp_sim (fun (X : Int32 → Int32 → Option Int32) (X2 : Nat → Nat → Option Nat) => ∀ (a0 : Int32) (b0 : Nat) (a1 : Int32) (b1 : Nat), RI a0 b0 → RI a1 b1 → Sim RI (X a0 a1) (X2 b0 b1)) (fun _ _ _ _ _ _ => sim_none) (fun self gself hself => ?_) 8192 _ _ _ _ (qi_lit 0) (qi_lit 0)
  · exact sl_X1_allPlaces_4 h_o h_x1 h_v hself
set_option maxRecDepth 20000 in
theorem s_X0_arrange {o : Nat} {x1 : Int32} {gx1 : Nat} {x2 : Int32} {gx2 : Nat} {x3 : Int32} {gx3 : Nat} {x4 : Int32} {gx4 : Nat} {x5 : Int32} {gx5 : Nat} {v : mC} {gv : MG} (h_o : o < 7) (h_x1 : RI x1 gx1) (h_x2 : RI x2 gx2) (h_x3 : RI x3 gx3) (h_x4 : RI x4 gx4) (h_x5 : RI x5 gx5) (h_v : RM v gv) : Sim RP (f_X0_arrange o x1 x2 x3 x4 x5 v) (g_X0_arrange o gx1 gx2 gx3 gx4 gx5 gv) := by
  unfold f_X0_arrange g_X0_arrange
  refine sim_inb h_x1 (by decide) (fun hc1 => ?_)
  refine sim_inb h_x2 (by decide) (fun hc2 => ?_)
  refine sim_wr h_v (at_x (atkr4 (k := 26) (o := o) (by decide) rfl h_x1 hc1) h_x2 hc2 (by decide)) h_x3 (fun w11_1 gw11_1 h_w11_1 => ?_)
  refine sim_inb0 h_x1 hc1 (by decide) ?_
  refine sim_inb0 h_x2 hc2 (by decide) ?_
  refine sim_wr h_w11_1 (at_x (atkr4 (k := 27) (o := o) (by decide) rfl h_x1 hc1) h_x2 hc2 (by decide)) h_x4 (fun w24_2 gw24_2 h_w24_2 => ?_)
  refine sim_inb0 h_x1 hc1 (by decide) ?_
  refine sim_inb0 h_x2 hc2 (by decide) ?_
  refine sim_wr h_w24_2 (at_x (atkr4 (k := 28) (o := o) (by decide) rfl h_x1 hc1) h_x2 hc2 (by decide)) h_x5 (fun w37_3 gw37_3 h_w37_3 => ?_)
  refine sim_bd (s_X1_allPlaces h_o h_x1 h_w37_3) (fun r_43 gr_43 h_r_43 => ?_)
  exact sim_P h_r_43 h_w37_3
set_option maxRecDepth 20000 in
theorem s_X6_setLine {x1 : Int32} {gx1 : Nat} {x2 : Int32} {gx2 : Nat} {x3 : Int32} {gx3 : Nat} {x4 : Int32} {gx4 : Nat} {x5 : Int32} {gx5 : Nat} {v : mC} {gv : MG} (h_x1 : RI x1 gx1) (h_x2 : RI x2 gx2) (h_x3 : RI x3 gx3) (h_x4 : RI x4 gx4) (h_x5 : RI x5 gx5) (h_v : RM v gv) : Sim RT (f_X6_setLine x1 x2 x3 x4 x5 v) (g_X6_setLine gx1 gx2 gx3 gx4 gx5 gv) := by
  unfold f_X6_setLine g_X6_setLine
  refine sim_bd (s_X0_refusalToArrange (by decide) h_x1 h_x2 h_x3 h_x4 h_x5 h_v) (fun r_11 gr_11 h_r_11 => ?_)
  refine sim_tb (s_X6_refuseIf h_r_11 h_v) (fun r_14 gr_14 h_r_14 w_14 gw_14 h_w_14 => ?_)
  refine sim_bd (s_X6_keepState h_w_14) (fun r_18 gr_18 h_r_18 => ?_)
  refine sim_bd (s_X0_arrange (by decide) h_x1 h_x2 h_x3 h_x4 h_x5 h_r_18) (fun r_32 gr_32 h_r_32 => ?_)
  exact sim_T h_r_32.1 h_r_32.2
set_option maxRecDepth 20000 in
theorem s_X0_refusalToAdvance {o : Nat} {x1 : Int32} {gx1 : Nat} {v : mC} {gv : MG} (h_o : o < 7) (h_x1 : RI x1 gx1) (h_v : RM v gv) : Sim RI (f_X0_refusalToAdvance o x1 v) (g_X0_refusalToAdvance o gx1 gv) := by
  unfold f_X0_refusalToAdvance g_X0_refusalToAdvance
  refine sim_bd (s_X6_isWithin h_x1 (qi_lit 1) (qi_lit 99) h_v) (fun r_4 gr_4 h_r_4 => ?_)
  refine sim_if (ic_eq h_r_4 (qi_lit 0)) ?_ ?_
  · exact sim_Iv (qi_lit 2)
  · refine sim_rd h_v (at_n0 (i := 0) (atkb (k := 1) (o := o) (L := 10) (by decide) rfl h_o) (by decide)) (fun y1 ey1 => ?_)
    refine sim_if (ic_le (ia_add ey1 h_x1) (qi_lit 9999)) ?_ ?_
    · exact sim_Iv (qi_lit 0)
    · exact sim_Iv (qi_lit 3)
set_option maxRecDepth 20000 in
theorem sl_X1_nextAfter_4 {o : Nat} {x1 : Int32} {gx1 : Nat} {v : mC} {gv : MG} {self4 : Int32 → Int32 → Option Int32} {gself4 : Nat → Nat → Option Nat} (h_o : o < 7) (h_x1 : RI x1 gx1) (h_v : RM v gv) (h_self4 : (fun (X : Int32 → Int32 → Option Int32) (X2 : Nat → Nat → Option Nat) => ∀ (a0 : Int32) (b0 : Nat) (a1 : Int32) (b1 : Nat), RI a0 b0 → RI a1 b1 → Sim RI (X a0 a1) (X2 b0 b1)) self4 gself4) : (fun (X : Int32 → Int32 → Option Int32) (X2 : Nat → Nat → Option Nat) => ∀ (a0 : Int32) (b0 : Nat) (a1 : Int32) (b1 : Nat), RI a0 b0 → RI a1 b1 → Sim RI (X a0 a1) (X2 b0 b1)) (L_X1_nextAfter_4 o x1 v self4) (GL_X1_nextAfter_4 o gx1 gv gself4) := by
  intro x2_4 gx2_4 x3_4 gx3_4 h_x2_4 h_x3_4
  show Sim RI _ _
  unfold L_X1_nextAfter_4 GL_X1_nextAfter_4
  show Sim RI _ _
  refine sim_rd h_v (at_n0 (i := 0) (atkb (k := 18) (o := o) (L := 1) (by decide) rfl h_o) (by decide)) (fun y1 ey1 => ?_)
  refine sim_if (ic_le ey1 h_x3_4) ?_ ?_
  · exact sim_Iv h_x2_4
  · refine sim_inb h_x3_4 (by decide) (fun hc2 => ?_)
    refine sim_rd h_v (at_x0 (atkb (k := 19) (o := o) (L := 20) (by decide) rfl h_o) h_x3_4 hc2 (by decide)) (fun y3 ey3 => ?_)
    refine sim_if (ic_le ey3 h_x1) ?_ ?_
    · refine sim_sq (ia_add h_x3_4 (qi_lit 1)) (fun y4 ey4 => ?_)
      exact h_self4 _ _ _ _ h_x2_4 ey4
    · refine sim_if (ic_eq h_x2_4 il_m1) ?_ ?_
      · refine sim_sq (ia_add h_x3_4 (qi_lit 1)) (fun y5 ey5 => ?_)
        exact h_self4 _ _ _ _ h_x3_4 ey5
      · refine sim_inb0 h_x3_4 hc2 (by decide) ?_
        refine sim_inb h_x2_4 (by decide) (fun hc6 => ?_)
        refine sim_rd h_v (at_x0 (atkb (k := 19) (o := o) (L := 20) (by decide) rfl h_o) h_x2_4 hc6 (by decide)) (fun y7 ey7 => ?_)
        refine sim_if (ic_le ey7 ey3) ?_ ?_
        · refine sim_sq (ia_add h_x3_4 (qi_lit 1)) (fun y8 ey8 => ?_)
          exact h_self4 _ _ _ _ h_x2_4 ey8
        · refine sim_sq (ia_add h_x3_4 (qi_lit 1)) (fun y9 ey9 => ?_)
          exact h_self4 _ _ _ _ h_x3_4 ey9
set_option maxRecDepth 20000 in
theorem s_X1_nextAfter {o : Nat} {x1 : Int32} {gx1 : Nat} {v : mC} {gv : MG} (h_o : o < 7) (h_x1 : RI x1 gx1) (h_v : RM v gv) : Sim RI (f_X1_nextAfter o x1 v) (g_X1_nextAfter o gx1 gv) := by
  unfold f_X1_nextAfter g_X1_nextAfter
  refine lp_sim (fun (X : Int32 → Int32 → Option Int32) (X2 : Nat → Nat → Option Nat) => ∀ (a0 : Int32) (b0 : Nat) (a1 : Int32) (b1 : Nat), RI a0 b0 → RI a1 b1 → Sim RI (X a0 a1) (X2 b0 b1)) (fun _ _ _ _ _ _ => sim_none) (fun self gself hself => ?_) 8192 _ _ _ _ il_m1 (qi_lit 0)
  · exact sl_X1_nextAfter_4 h_o h_x1 h_v hself
set_option maxRecDepth 20000 in
theorem s_X5_isBreakingOn {o : Nat} {x1 : Int32} {gx1 : Nat} {x2 : Int32} {gx2 : Nat} {v : mC} {gv : MG} (h_o : o < 7) (h_x1 : RI x1 gx1) (h_x2 : RI x2 gx2) (h_v : RM v gv) : Sim RI (f_X5_isBreakingOn o x1 x2 v) (g_X5_isBreakingOn o gx1 gx2 gv) := by
  unfold f_X5_isBreakingOn g_X5_isBreakingOn
  refine sim_inb h_x1 (by decide) (fun hc1 => ?_)
  refine sim_rd h_v (at_x0 (atkb (k := 7) (o := o) (L := 30) (by decide) rfl h_o) h_x1 hc1 (by decide)) (fun y2 ey2 => ?_)
  refine sim_if (ic_eq ey2 il_m1) ?_ ?_
  · refine sim_zb0 ?_
    exact sim_Iv (qi_lit 0)
  · refine sim_if (ic_lt h_x2 ey2) ?_ ?_
    · refine sim_zb0 ?_
      exact sim_Iv (qi_lit 0)
    · refine sim_if (ic_le (ia_add ey2 (qi_lit 90)) h_x2) ?_ ?_
      · refine sim_zb0 ?_
        exact sim_Iv (qi_lit 0)
      · refine sim_zb1 ?_
        exact sim_Iv (qi_lit 1)
set_option maxRecDepth 20000 in
theorem s_X0_hindrance {o : Nat} {x1 : Int32} {gx1 : Nat} {x2 : Int32} {gx2 : Nat} {v : mC} {gv : MG} (h_o : o < 7) (h_x1 : RI x1 gx1) (h_x2 : RI x2 gx2) (h_v : RM v gv) : Sim RI (f_X0_hindrance o x1 x2 v) (g_X0_hindrance o gx1 gx2 gv) := by
  unfold f_X0_hindrance g_X0_hindrance
  refine sim_bd (s_X5_hasLeftBy h_o h_x1 h_x2 h_v) (fun r_6 gr_6 h_r_6 => ?_)
  refine sim_if (ic_eq h_r_6 (qi_lit 0)) ?_ ?_
  · refine sim_bd (s_X5_isAwayOn h_o h_x1 h_x2 h_v) (fun r_20 gr_20 h_r_20 => ?_)
    refine sim_if (ic_eq h_r_20 (qi_lit 0)) ?_ ?_
    · refine sim_bd (s_X4_coverAnyOf h_o h_x1 h_x2 h_x2 h_v) (fun r_35 gr_35 h_r_35 => ?_)
      refine sim_if (ic_eq h_r_35 (qi_lit 0)) ?_ ?_
      · refine sim_bd (s_X5_isBreakingOn h_o h_x1 h_x2 h_v) (fun r_49 gr_49 h_r_49 => ?_)
        refine sim_if (ic_eq h_r_49 (qi_lit 0)) ?_ ?_
        · exact sim_Iv (qi_lit 0)
        · exact sim_Iv (qi_lit 4)
      · exact sim_Iv (qi_lit 3)
    · exact sim_Iv (qi_lit 2)
  · exact sim_Iv (qi_lit 1)
set_option maxRecDepth 20000 in
theorem s_X5_noteOn {o : Nat} {x1 : Int32} {gx1 : Nat} {x2 : Int32} {gx2 : Nat} {x3 : Int32} {gx3 : Nat} {v : mC} {gv : MG} (h_o : o < 7) (h_x1 : RI x1 gx1) (h_x2 : RI x2 gx2) (h_x3 : RI x3 gx3) (h_v : RM v gv) : Sim RI (f_X5_noteOn o x1 x2 x3 v) (g_X5_noteOn o gx1 gx2 gx3 gv) := by
  unfold f_X5_noteOn g_X5_noteOn
  refine sim_inb h_x1 (by decide) (fun hc1 => ?_)
  refine sim_rd h_v (at_x0 (atkb (k := 7) (o := o) (L := 30) (by decide) rfl h_o) h_x1 hc1 (by decide)) (fun y2 ey2 => ?_)
  refine sim_if (ic_eq ey2 il_m1) ?_ ?_
  · exact sim_Iv h_x3
  · refine sim_if (ic_le (ia_add ey2 (qi_lit 90)) h_x2) ?_ ?_
    · refine sim_if (ic_le (qi_lit 12) h_x3) ?_ ?_
      · exact sim_I (ia_sub h_x3 (qi_lit 12))
      · exact sim_Iv (qi_lit 0)
    · exact sim_Iv h_x3
set_option maxRecDepth 20000 in
theorem s_X0_misfit {o : Nat} {x1 : Int32} {gx1 : Nat} {x2 : Int32} {gx2 : Nat} {x3 : Int32} {gx3 : Nat} {v : mC} {gv : MG} (h_o : o < 7) (h_x1 : RI x1 gx1) (h_x2 : RI x2 gx2) (h_x3 : RI x3 gx3) (h_v : RM v gv) : Sim RI (f_X0_misfit o x1 x2 x3 v) (g_X0_misfit o gx1 gx2 gx3 gv) := by
  unfold f_X0_misfit g_X0_misfit
  refine sim_inb h_x1 (by decide) (fun hc1 => ?_)
  refine sim_inb0 h_x1 hc1 (by decide) ?_
  refine sim_inb h_x3 (by decide) (fun hc2 => ?_)
  refine sim_inb h_x2 (by decide) (fun hc3 => ?_)
  refine sim_rd h_v (at_x0 (atkb (k := 19) (o := o) (L := 20) (by decide) rfl h_o) h_x1 hc1 (by decide)) (fun y4 ey4 => ?_)
  refine sim_rd h_v (at_x0 (atkb (k := 4) (o := o) (L := 30) (by decide) rfl h_o) h_x2 hc3 (by decide)) (fun y5 ey5 => ?_)
  refine sim_bd (s_X5_noteOn h_o h_x2 ey4 ey5 h_v) (fun r_38 gr_38 h_r_38 => ?_)
  refine sim_rd h_v (at_x (atkr4 (k := 27) (o := o) (by decide) rfl h_x1 hc1) h_x3 hc2 (by decide)) (fun y6 ey6 => ?_)
  refine sim_if (ic_le h_r_38 ey6) ?_ ?_
  · refine sim_inb0 h_x1 hc1 (by decide) ?_
    refine sim_inb0 h_x3 hc2 (by decide) ?_
    refine sim_inb0 h_x2 hc3 (by decide) ?_
    refine sim_rd h_v (at_x0 (atkb (k := 5) (o := o) (L := 30) (by decide) rfl h_o) h_x2 hc3 (by decide)) (fun y7 ey7 => ?_)
    refine sim_bd (s_X5_noteOn h_o h_x2 ey4 ey7 h_v) (fun r_73 gr_73 h_r_73 => ?_)
    refine sim_rd h_v (at_x (atkr4 (k := 28) (o := o) (by decide) rfl h_x1 hc1) h_x3 hc2 (by decide)) (fun y8 ey8 => ?_)
    refine sim_if (ic_le ey8 h_r_73) ?_ ?_
    · exact sim_Iv (qi_lit 0)
    · exact sim_Iv (qi_lit 6)
  · exact sim_Iv (qi_lit 5)
set_option maxRecDepth 20000 in
theorem sl_X3_listWhoCanSing_43 {o : Nat} {x2 : Int32} {gx2 : Nat} {x3_2 : Int32} {gx3_2 : Nat} {self2 : Int32 → mC → Option mC} {gself2 : Nat → MG → Option MG} {self43 : Int32 → mC → Option mC} {gself43 : Nat → MG → Option MG} (h_o : o < 7) (h_x2 : RI x2 gx2) (h_x3_2 : RI x3_2 gx3_2) (h_self2 : (fun (X : Int32 → mC → Option mC) (X2 : Nat → MG → Option MG) => ∀ (a0 : Int32) (b0 : Nat) (a1 : mC) (b1 : MG), RI a0 b0 → RM a1 b1 → Sim RM (X a0 a1) (X2 b0 b1)) self2 gself2) (h_self43 : (fun (X : Int32 → mC → Option mC) (X2 : Nat → MG → Option MG) => ∀ (a0 : Int32) (b0 : Nat) (a1 : mC) (b1 : MG), RI a0 b0 → RM a1 b1 → Sim RM (X a0 a1) (X2 b0 b1)) self43 gself43) : (fun (X : Int32 → mC → Option mC) (X2 : Nat → MG → Option MG) => ∀ (a0 : Int32) (b0 : Nat) (a1 : mC) (b1 : MG), RI a0 b0 → RM a1 b1 → Sim RM (X a0 a1) (X2 b0 b1)) (L_X3_listWhoCanSing_43 o x2 x3_2 self2 self43) (GL_X3_listWhoCanSing_43 o gx2 gx3_2 gself2 gself43) := by
  intro x4_43 gx4_43 v_43 gv_43 h_x4_43 h_v_43
  show Sim RM _ _
  unfold L_X3_listWhoCanSing_43 GL_X3_listWhoCanSing_43
  show Sim RM _ _
  refine sim_if (ic_le (qi_lit 4) h_x4_43) ?_ ?_
  · refine sim_sq (ia_add h_x3_2 (qi_lit 1)) (fun y1 ey1 => ?_)
    exact h_self2 _ _ _ _ ey1 h_v_43
  · refine sim_bd (s_X0_misfit h_o h_x2 h_x3_2 h_x4_43 h_v_43) (fun r_54 gr_54 h_r_54 => ?_)
    refine sim_if (ic_eq h_r_54 (qi_lit 0)) ?_ ?_
    · refine sim_inb h_x3_2 (by decide) (fun hc2 => ?_)
      refine sim_rd h_v_43 (at_x0 (atk0 (k := 37) (L := 30) (by decide) rfl) h_x3_2 hc2 (by decide)) (fun y3 ey3 => ?_)
      refine sim_chk (fun hc4 => ?_)
      refine sim_lt (ia_or ey3 (ia_bit h_x4_43 hc4)) (fun y71_2 gy71_2 h_y71_2 => ?_)
      refine sim_inb0 h_x3_2 hc2 (by decide) ?_
      refine sim_wr h_v_43 (at_x0 (atk0 (k := 37) (L := 30) (by decide) rfl) h_x3_2 hc2 (by decide)) h_y71_2 (fun w72_3 gw72_3 h_w72_3 => ?_)
      refine sim_sq (ia_add h_x4_43 (qi_lit 1)) (fun y5 ey5 => ?_)
      exact h_self43 _ _ _ _ ey5 h_w72_3
    · refine sim_sq (ia_add h_x4_43 (qi_lit 1)) (fun y6 ey6 => ?_)
      exact h_self43 _ _ _ _ ey6 h_v_43
set_option maxRecDepth 20000 in
theorem sl_X3_listWhoCanSing_2 {o : Nat} {x2 : Int32} {gx2 : Nat} {self2 : Int32 → mC → Option mC} {gself2 : Nat → MG → Option MG} (h_o : o < 7) (h_x2 : RI x2 gx2) (h_self2 : (fun (X : Int32 → mC → Option mC) (X2 : Nat → MG → Option MG) => ∀ (a0 : Int32) (b0 : Nat) (a1 : mC) (b1 : MG), RI a0 b0 → RM a1 b1 → Sim RM (X a0 a1) (X2 b0 b1)) self2 gself2) : (fun (X : Int32 → mC → Option mC) (X2 : Nat → MG → Option MG) => ∀ (a0 : Int32) (b0 : Nat) (a1 : mC) (b1 : MG), RI a0 b0 → RM a1 b1 → Sim RM (X a0 a1) (X2 b0 b1)) (L_X3_listWhoCanSing_2 o x2 self2) (GL_X3_listWhoCanSing_2 o gx2 gself2) := by
  intro x3_2 gx3_2 v_2 gv_2 h_x3_2 h_v_2
  show Sim RM _ _
  unfold L_X3_listWhoCanSing_2 GL_X3_listWhoCanSing_2
  show Sim RM _ _
  refine sim_rd h_v_2 (at_n0 (i := 0) (atkb (k := 2) (o := o) (L := 1) (by decide) rfl h_o) (by decide)) (fun y1 ey1 => ?_)
  refine sim_if (ic_le ey1 h_x3_2) ?_ ?_
  · exact sim_some h_v_2
  · refine sim_inb h_x3_2 (by decide) (fun hc2 => ?_)
    refine sim_wr h_v_2 (at_x0 (atk0 (k := 37) (L := 30) (by decide) rfl) h_x3_2 hc2 (by decide)) (qi_lit 0) (fun w19_1 gw19_1 h_w19_1 => ?_)
    refine sim_inb h_x2 (by decide) (fun hc3 => ?_)
    refine sim_rd h_w19_1 (at_x0 (atkb (k := 19) (o := o) (L := 20) (by decide) rfl h_o) h_x2 hc3 (by decide)) (fun y4 ey4 => ?_)
    refine sim_bd (s_X0_hindrance h_o h_x3_2 ey4 h_w19_1) (fun r_31 gr_31 h_r_31 => ?_)
    refine sim_if (ic_eq h_r_31 (qi_lit 0)) ?_ ?_
    · refine lp_sim (fun (X : Int32 → mC → Option mC) (X2 : Nat → MG → Option MG) => ∀ (a0 : Int32) (b0 : Nat) (a1 : mC) (b1 : MG), RI a0 b0 → RM a1 b1 → Sim RM (X a0 a1) (X2 b0 b1)) (fun _ _ _ _ _ _ => sim_none) (fun self gself hself => ?_) 8192 _ _ _ _ (qi_lit 0) h_w19_1
      · exact sl_X3_listWhoCanSing_43 h_o h_x2 h_x3_2 h_self2 hself
    · refine sim_sq (ia_add h_x3_2 (qi_lit 1)) (fun y5 ey5 => ?_)
      exact h_self2 _ _ _ _ ey5 h_w19_1
set_option maxRecDepth 20000 in
theorem s_X3_listWhoCanSing {o : Nat} {x2 : Int32} {gx2 : Nat} {v : mC} {gv : MG} (h_o : o < 7) (h_x2 : RI x2 gx2) (h_v : RM v gv) : Sim RM (f_X3_listWhoCanSing o x2 v) (g_X3_listWhoCanSing o gx2 gv) := by
  unfold f_X3_listWhoCanSing g_X3_listWhoCanSing
  refine lp_sim (fun (X : Int32 → mC → Option mC) (X2 : Nat → MG → Option MG) => ∀ (a0 : Int32) (b0 : Nat) (a1 : mC) (b1 : MG), RI a0 b0 → RM a1 b1 → Sim RM (X a0 a1) (X2 b0 b1)) (fun _ _ _ _ _ _ => sim_none) (fun self gself hself => ?_) 8192 _ _ _ _ (qi_lit 0) h_v
  · exact sl_X3_listWhoCanSing_2 h_o h_x2 hself
set_option maxRecDepth 20000 in
theorem sl_X3_countWhoCanSing_5 {x1 : Int32} {gx1 : Nat} {x2 : Int32} {gx2 : Nat} {v : mC} {gv : MG} {self5 : Int32 → Int32 → Option Int32} {gself5 : Nat → Nat → Option Nat} (h_x1 : RI x1 gx1) (h_x2 : RI x2 gx2) (h_v : RM v gv) (h_self5 : (fun (X : Int32 → Int32 → Option Int32) (X2 : Nat → Nat → Option Nat) => ∀ (a0 : Int32) (b0 : Nat) (a1 : Int32) (b1 : Nat), RI a0 b0 → RI a1 b1 → Sim RI (X a0 a1) (X2 b0 b1)) self5 gself5) : (fun (X : Int32 → Int32 → Option Int32) (X2 : Nat → Nat → Option Nat) => ∀ (a0 : Int32) (b0 : Nat) (a1 : Int32) (b1 : Nat), RI a0 b0 → RI a1 b1 → Sim RI (X a0 a1) (X2 b0 b1)) (L_X3_countWhoCanSing_5 x1 x2 v self5) (GL_X3_countWhoCanSing_5 gx1 gx2 gv gself5) := by
  intro x3_5 gx3_5 x4_5 gx4_5 h_x3_5 h_x4_5
  show Sim RI _ _
  unfold L_X3_countWhoCanSing_5 GL_X3_countWhoCanSing_5
  show Sim RI _ _
  refine sim_if (ic_le h_x2 h_x4_5) ?_ ?_
  · exact sim_Iv h_x3_5
  · refine sim_inb h_x4_5 (by decide) (fun hc1 => ?_)
    refine sim_rd h_v (at_x0 (atk0 (k := 37) (L := 30) (by decide) rfl) h_x4_5 hc1 (by decide)) (fun y2 ey2 => ?_)
    refine sim_if (ic_eq (ia_and ey2 h_x1) (qi_lit 0)) ?_ ?_
    · refine sim_sq (ia_add h_x4_5 (qi_lit 1)) (fun y3 ey3 => ?_)
      exact h_self5 _ _ _ _ h_x3_5 ey3
    · refine sim_sq (ia_add h_x3_5 (qi_lit 1)) (fun y4 ey4 => ?_)
      refine sim_sq (ia_add h_x4_5 (qi_lit 1)) (fun y5 ey5 => ?_)
      exact h_self5 _ _ _ _ ey4 ey5
set_option maxRecDepth 20000 in
theorem s_X3_countWhoCanSing {x1 : Int32} {gx1 : Nat} {x2 : Int32} {gx2 : Nat} {v : mC} {gv : MG} (h_x1 : RI x1 gx1) (h_x2 : RI x2 gx2) (h_v : RM v gv) : Sim RI (f_X3_countWhoCanSing x1 x2 v) (g_X3_countWhoCanSing gx1 gx2 gv) := by
  unfold f_X3_countWhoCanSing g_X3_countWhoCanSing
  refine lp_sim (fun (X : Int32 → Int32 → Option Int32) (X2 : Nat → Nat → Option Nat) => ∀ (a0 : Int32) (b0 : Nat) (a1 : Int32) (b1 : Nat), RI a0 b0 → RI a1 b1 → Sim RI (X a0 a1) (X2 b0 b1)) (fun _ _ _ _ _ _ => sim_none) (fun self gself hself => ?_) 8192 _ _ _ _ (qi_lit 0) (qi_lit 0)
  · exact sl_X3_countWhoCanSing_5 h_x1 h_x2 h_v hself
set_option maxRecDepth 20000 in
theorem s_X3_contains {x0 : Int32} {gx0 : Nat} {x1 : Int32} {gx1 : Nat} {v : mC} {gv : MG} (h_x0 : RI x0 gx0) (h_x1 : RI x1 gx1) (h_v : RM v gv) : Sim RI (f_X3_contains x0 x1 v) (g_X3_contains gx0 gx1 gv) := by
  unfold f_X3_contains g_X3_contains
  refine sim_chk (fun hc1 => ?_)
  refine sim_if (ic_eq (ia_and h_x0 (ia_bit h_x1 hc1)) (qi_lit 0)) ?_ ?_
  · refine sim_zb0 ?_
    exact sim_Iv (qi_lit 0)
  · refine sim_zb1 ?_
    exact sim_Iv (qi_lit 1)
set_option maxRecDepth 20000 in
theorem sl_X3_setBounds_22 {x2_2 : Int32} {gx2_2 : Nat} {self2 : Int32 → mC → Option mC} {gself2 : Nat → MG → Option MG} {self22 : Int32 → mC → Option mC} {gself22 : Nat → MG → Option MG} (h_x2_2 : RI x2_2 gx2_2) (h_self2 : (fun (X : Int32 → mC → Option mC) (X2 : Nat → MG → Option MG) => ∀ (a0 : Int32) (b0 : Nat) (a1 : mC) (b1 : MG), RI a0 b0 → RM a1 b1 → Sim RM (X a0 a1) (X2 b0 b1)) self2 gself2) (h_self22 : (fun (X : Int32 → mC → Option mC) (X2 : Nat → MG → Option MG) => ∀ (a0 : Int32) (b0 : Nat) (a1 : mC) (b1 : MG), RI a0 b0 → RM a1 b1 → Sim RM (X a0 a1) (X2 b0 b1)) self22 gself22) : (fun (X : Int32 → mC → Option mC) (X2 : Nat → MG → Option MG) => ∀ (a0 : Int32) (b0 : Nat) (a1 : mC) (b1 : MG), RI a0 b0 → RM a1 b1 → Sim RM (X a0 a1) (X2 b0 b1)) (L_X3_setBounds_22 x2_2 self2 self22) (GL_X3_setBounds_22 gx2_2 gself2 gself22) := by
  intro x3_22 gx3_22 v_22 gv_22 h_x3_22 h_v_22
  show Sim RM _ _
  unfold L_X3_setBounds_22 GL_X3_setBounds_22
  show Sim RM _ _
  refine sim_if (ic_le (qi_lit 4) h_x3_22) ?_ ?_
  · refine sim_sq (ia_add h_x2_2 (qi_lit 1)) (fun y1 ey1 => ?_)
    exact h_self2 _ _ _ _ ey1 h_v_22
  · refine sim_bd (s_X3_contains h_x2_2 h_x3_22 h_v_22) (fun r_29 gr_29 h_r_29 => ?_)
    refine sim_if (ic_eq h_r_29 (qi_lit 0)) ?_ ?_
    · refine sim_inb h_x2_2 (by decide) (fun hc2 => ?_)
      refine sim_inb h_x3_22 (by decide) (fun hc3 => ?_)
      refine sim_rd h_v_22 (at_x0 (atk0 (k := 39) (L := 16) (by decide) rfl) h_x2_2 hc2 (by decide)) (fun y4 ey4 => ?_)
      refine sim_rd h_v_22 (at_x0 (atk0 (k := 38) (L := 4) (by decide) rfl) h_x3_22 hc3 (by decide)) (fun y5 ey5 => ?_)
      refine sim_lt (ia_add ey4 ey5) (fun y48_2 gy48_2 h_y48_2 => ?_)
      refine sim_inb0 h_x2_2 hc2 (by decide) ?_
      refine sim_wr h_v_22 (at_x0 (atk0 (k := 39) (L := 16) (by decide) rfl) h_x2_2 hc2 (by decide)) h_y48_2 (fun w49_3 gw49_3 h_w49_3 => ?_)
      refine sim_sq (ia_add h_x3_22 (qi_lit 1)) (fun y6 ey6 => ?_)
      exact h_self22 _ _ _ _ ey6 h_w49_3
    · refine sim_sq (ia_add h_x3_22 (qi_lit 1)) (fun y7 ey7 => ?_)
      exact h_self22 _ _ _ _ ey7 h_v_22
set_option maxRecDepth 20000 in
theorem sl_X3_setBounds_2 {x1 : Int32} {gx1 : Nat} {self2 : Int32 → mC → Option mC} {gself2 : Nat → MG → Option MG} (h_x1 : RI x1 gx1) (h_self2 : (fun (X : Int32 → mC → Option mC) (X2 : Nat → MG → Option MG) => ∀ (a0 : Int32) (b0 : Nat) (a1 : mC) (b1 : MG), RI a0 b0 → RM a1 b1 → Sim RM (X a0 a1) (X2 b0 b1)) self2 gself2) : (fun (X : Int32 → mC → Option mC) (X2 : Nat → MG → Option MG) => ∀ (a0 : Int32) (b0 : Nat) (a1 : mC) (b1 : MG), RI a0 b0 → RM a1 b1 → Sim RM (X a0 a1) (X2 b0 b1)) (L_X3_setBounds_2 x1 self2) (GL_X3_setBounds_2 gx1 gself2) := by
  intro x2_2 gx2_2 v_2 gv_2 h_x2_2 h_v_2
  show Sim RM _ _
  unfold L_X3_setBounds_2 GL_X3_setBounds_2
  show Sim RM _ _
  refine sim_if (ic_le (qi_lit 16) h_x2_2) ?_ ?_
  · exact sim_some h_v_2
  · refine sim_bd (s_X3_countWhoCanSing h_x2_2 h_x1 h_v_2) (fun r_16 gr_16 h_r_16 => ?_)
    refine sim_inb h_x2_2 (by decide) (fun hc1 => ?_)
    refine sim_wr h_v_2 (at_x0 (atk0 (k := 39) (L := 16) (by decide) rfl) h_x2_2 hc1 (by decide)) h_r_16 (fun w19_1 gw19_1 h_w19_1 => ?_)
    refine lp_sim (fun (X : Int32 → mC → Option mC) (X2 : Nat → MG → Option MG) => ∀ (a0 : Int32) (b0 : Nat) (a1 : mC) (b1 : MG), RI a0 b0 → RM a1 b1 → Sim RM (X a0 a1) (X2 b0 b1)) (fun _ _ _ _ _ _ => sim_none) (fun self gself hself => ?_) 8192 _ _ _ _ (qi_lit 0) h_w19_1
    · exact sl_X3_setBounds_22 h_x2_2 h_self2 hself
set_option maxRecDepth 20000 in
theorem s_X3_setBounds {x1 : Int32} {gx1 : Nat} {v : mC} {gv : MG} (h_x1 : RI x1 gx1) (h_v : RM v gv) : Sim RM (f_X3_setBounds x1 v) (g_X3_setBounds gx1 gv) := by
  unfold f_X3_setBounds g_X3_setBounds
  refine lp_sim (fun (X : Int32 → mC → Option mC) (X2 : Nat → MG → Option MG) => ∀ (a0 : Int32) (b0 : Nat) (a1 : mC) (b1 : MG), RI a0 b0 → RM a1 b1 → Sim RM (X a0 a1) (X2 b0 b1)) (fun _ _ _ _ _ _ => sim_none) (fun self gself hself => ?_) 8192 _ _ _ _ (qi_lit 0) h_v
  · exact sl_X3_setBounds_2 h_x1 hself
set_option maxRecDepth 20000 in
theorem sl_X3_leastBound_9 {v : mC} {gv : MG} {self9 : Int32 → Int32 → Option Int32} {gself9 : Nat → Nat → Option Nat} (h_v : RM v gv) (h_self9 : (fun (X : Int32 → Int32 → Option Int32) (X2 : Nat → Nat → Option Nat) => ∀ (a0 : Int32) (b0 : Nat) (a1 : Int32) (b1 : Nat), RI a0 b0 → RI a1 b1 → Sim RI (X a0 a1) (X2 b0 b1)) self9 gself9) : (fun (X : Int32 → Int32 → Option Int32) (X2 : Nat → Nat → Option Nat) => ∀ (a0 : Int32) (b0 : Nat) (a1 : Int32) (b1 : Nat), RI a0 b0 → RI a1 b1 → Sim RI (X a0 a1) (X2 b0 b1)) (L_X3_leastBound_9 v self9) (GL_X3_leastBound_9 gv gself9) := by
  intro x1_9 gx1_9 x2_9 gx2_9 h_x1_9 h_x2_9
  show Sim RI _ _
  unfold L_X3_leastBound_9 GL_X3_leastBound_9
  show Sim RI _ _
  refine sim_if (ic_le (qi_lit 16) h_x2_9) ?_ ?_
  · exact sim_Iv h_x1_9
  · refine sim_inb h_x2_9 (by decide) (fun hc1 => ?_)
    refine sim_rd h_v (at_x0 (atk0 (k := 39) (L := 16) (by decide) rfl) h_x2_9 hc1 (by decide)) (fun y2 ey2 => ?_)
    refine sim_if (ic_le h_x1_9 ey2) ?_ ?_
    · refine sim_sq (ia_add h_x2_9 (qi_lit 1)) (fun y3 ey3 => ?_)
      exact h_self9 _ _ _ _ h_x1_9 ey3
    · refine sim_inb0 h_x2_9 hc1 (by decide) ?_
      refine sim_sq (ia_add h_x2_9 (qi_lit 1)) (fun y4 ey4 => ?_)
      exact h_self9 _ _ _ _ ey2 ey4
set_option maxRecDepth 20000 in
theorem s_X3_leastBound {v : mC} {gv : MG} (h_v : RM v gv) : Sim RI (f_X3_leastBound v) (g_X3_leastBound gv) := by
  unfold f_X3_leastBound g_X3_leastBound
  refine sim_inb0 (qi_lit 0) (by decide) (by decide) ?_
  refine sim_rd h_v (at_x0 (atk0 (k := 39) (L := 16) (by decide) rfl) (qi_lit 0) (by decide) (by decide)) (fun y1 ey1 => ?_)
  refine lp_sim (fun (X : Int32 → Int32 → Option Int32) (X2 : Nat → Nat → Option Nat) => ∀ (a0 : Int32) (b0 : Nat) (a1 : Int32) (b1 : Nat), RI a0 b0 → RI a1 b1 → Sim RI (X a0 a1) (X2 b0 b1)) (fun _ _ _ _ _ _ => sim_none) (fun self gself hself => ?_) 8192 _ _ _ _ ey1 (qi_lit 1)
  · exact sl_X3_leastBound_9 h_v hself
set_option maxRecDepth 20000 in
theorem s_X3_cost {x0 : Int32} {gx0 : Nat} {x1 : Int32} {gx1 : Nat} {x2 : Int32} {gx2 : Nat} {v : mC} {gv : MG} (h_x0 : RI x0 gx0) (h_x1 : RI x1 gx1) (h_x2 : RI x2 gx2) (h_v : RM v gv) : Sim RI (f_X3_cost x0 x1 x2 v) (g_X3_cost gx0 gx1 gx2 gv) := by
  unfold f_X3_cost g_X3_cost
  refine sim_jn (fun (X : Int32 → Option Int32) (X2 : Nat → Option Nat) => ∀ (a0 : Int32) (b0 : Nat), RI a0 b0 → Sim RI (X a0) (X2 b0)) ?_ (fun j11 gj11 h_j11 => ?_)
  · intro s0_11 gs0_11 h_s0_11
    refine sim_if (ic_eq h_x2 il_m1) ?_ ?_
    · exact sim_Iv h_s0_11
    · refine sim_chk (fun hc1 => ?_)
      refine sim_if (ic_eq (ia_and h_x0 (ia_bit h_x2 hc1)) (qi_lit 0)) ?_ ?_
      · exact sim_I (ia_add h_s0_11 (qi_lit 1))
      · exact sim_Iv h_s0_11
  · refine sim_if (ic_eq (ia_and h_x1 h_x0) (qi_lit 0)) ?_ ?_
    · exact h_j11 _ _ (qi_lit 0)
    · exact h_j11 _ _ (qi_lit 1)
set_option maxRecDepth 20000 in
theorem sl_X3_keepsFillable_3 {x1 : Int32} {gx1 : Nat} {x2 : Int32} {gx2 : Nat} {x3 : Int32} {gx3 : Nat} {v : mC} {gv : MG} {self3 : Int32 → Option Int32} {gself3 : Nat → Option Nat} (h_x1 : RI x1 gx1) (h_x2 : RI x2 gx2) (h_x3 : RI x3 gx3) (h_v : RM v gv) (h_self3 : (fun (X : Int32 → Option Int32) (X2 : Nat → Option Nat) => ∀ (a0 : Int32) (b0 : Nat), RI a0 b0 → Sim RI (X a0) (X2 b0)) self3 gself3) : (fun (X : Int32 → Option Int32) (X2 : Nat → Option Nat) => ∀ (a0 : Int32) (b0 : Nat), RI a0 b0 → Sim RI (X a0) (X2 b0)) (L_X3_keepsFillable_3 x1 x2 x3 v self3) (GL_X3_keepsFillable_3 gx1 gx2 gx3 gv gself3) := by
  intro x4_3 gx4_3 h_x4_3
  show Sim RI _ _
  unfold L_X3_keepsFillable_3 GL_X3_keepsFillable_3
  show Sim RI _ _
  refine sim_if (ic_le (qi_lit 16) h_x4_3) ?_ ?_
  · refine sim_zb1 ?_
    exact sim_Iv (qi_lit 1)
  · refine sim_inb h_x4_3 (by decide) (fun hc1 => ?_)
    refine sim_bd (s_X3_cost h_x4_3 h_x1 h_x2 h_v) (fun r_21 gr_21 h_r_21 => ?_)
    refine sim_rd h_v (at_x0 (atk0 (k := 39) (L := 16) (by decide) rfl) h_x4_3 hc1 (by decide)) (fun y2 ey2 => ?_)
    refine sim_if (ic_le (ia_sub h_x3 (qi_lit 1)) (ia_sub ey2 h_r_21)) ?_ ?_
    · refine sim_sq (ia_add h_x4_3 (qi_lit 1)) (fun y3 ey3 => ?_)
      exact h_self3 _ _ ey3
    · refine sim_zb0 ?_
      exact sim_Iv (qi_lit 0)
set_option maxRecDepth 20000 in
theorem s_X3_keepsFillable {x1 : Int32} {gx1 : Nat} {x2 : Int32} {gx2 : Nat} {x3 : Int32} {gx3 : Nat} {v : mC} {gv : MG} (h_x1 : RI x1 gx1) (h_x2 : RI x2 gx2) (h_x3 : RI x3 gx3) (h_v : RM v gv) : Sim RI (f_X3_keepsFillable x1 x2 x3 v) (g_X3_keepsFillable gx1 gx2 gx3 gv) := by
  unfold f_X3_keepsFillable g_X3_keepsFillable
  refine lp_sim (fun (X : Int32 → Option Int32) (X2 : Nat → Option Nat) => ∀ (a0 : Int32) (b0 : Nat), RI a0 b0 → Sim RI (X a0) (X2 b0)) (fun _ _ _ => sim_none) (fun self gself hself => ?_) 8192 _ _ (qi_lit 0)
  · exact sl_X3_keepsFillable_3 h_x1 h_x2 h_x3 h_v hself
set_option maxRecDepth 20000 in
theorem sl_X3_firstGoodLine_2 {x1 : Int32} {gx1 : Nat} {x2 : Int32} {gx2 : Nat} {v : mC} {gv : MG} {self2 : Int32 → Option Int32} {gself2 : Nat → Option Nat} (h_x1 : RI x1 gx1) (h_x2 : RI x2 gx2) (h_v : RM v gv) (h_self2 : (fun (X : Int32 → Option Int32) (X2 : Nat → Option Nat) => ∀ (a0 : Int32) (b0 : Nat), RI a0 b0 → Sim RI (X a0) (X2 b0)) self2 gself2) : (fun (X : Int32 → Option Int32) (X2 : Nat → Option Nat) => ∀ (a0 : Int32) (b0 : Nat), RI a0 b0 → Sim RI (X a0) (X2 b0)) (L_X3_firstGoodLine_2 x1 x2 v self2) (GL_X3_firstGoodLine_2 gx1 gx2 gv gself2) := by
  intro x3_2 gx3_2 h_x3_2
  show Sim RI _ _
  unfold L_X3_firstGoodLine_2 GL_X3_firstGoodLine_2
  show Sim RI _ _
  refine sim_if (ic_le (qi_lit 4) h_x3_2) ?_ ?_
  · exact sim_Iv il_m1
  · refine sim_bd (s_X3_contains h_x1 h_x3_2 h_v) (fun r_9 gr_9 h_r_9 => ?_)
    refine sim_if (ic_eq h_r_9 (qi_lit 0)) ?_ ?_
    · refine sim_sq (ia_add h_x3_2 (qi_lit 1)) (fun y1 ey1 => ?_)
      exact h_self2 _ _ ey1
    · refine sim_inb h_x3_2 (by decide) (fun hc2 => ?_)
      refine sim_rd h_v (at_x0 (atk0 (k := 38) (L := 4) (by decide) rfl) h_x3_2 hc2 (by decide)) (fun y3 ey3 => ?_)
      refine sim_if (ic_le ey3 (qi_lit 0)) ?_ ?_
      · refine sim_sq (ia_add h_x3_2 (qi_lit 1)) (fun y4 ey4 => ?_)
        exact h_self2 _ _ ey4
      · refine sim_bd (s_X3_keepsFillable h_x1 h_x3_2 h_x2 h_v) (fun r_28 gr_28 h_r_28 => ?_)
        refine sim_if (ic_eq h_r_28 (qi_lit 0)) ?_ ?_
        · refine sim_sq (ia_add h_x3_2 (qi_lit 1)) (fun y5 ey5 => ?_)
          exact h_self2 _ _ ey5
        · exact sim_Iv h_x3_2
set_option maxRecDepth 20000 in
theorem s_X3_firstGoodLine {x1 : Int32} {gx1 : Nat} {x2 : Int32} {gx2 : Nat} {v : mC} {gv : MG} (h_x1 : RI x1 gx1) (h_x2 : RI x2 gx2) (h_v : RM v gv) : Sim RI (f_X3_firstGoodLine x1 x2 v) (g_X3_firstGoodLine gx1 gx2 gv) := by
  unfold f_X3_firstGoodLine g_X3_firstGoodLine
  refine lp_sim (fun (X : Int32 → Option Int32) (X2 : Nat → Option Nat) => ∀ (a0 : Int32) (b0 : Nat), RI a0 b0 → Sim RI (X a0) (X2 b0)) (fun _ _ _ => sim_none) (fun self gself hself => ?_) 8192 _ _ (qi_lit 0)
  · exact sl_X3_firstGoodLine_2 h_x1 h_x2 h_v hself
set_option maxRecDepth 20000 in
theorem sl_X3_strikeOut_2 {x1 : Int32} {gx1 : Nat} {x2 : Int32} {gx2 : Nat} {self2 : Int32 → mC → Option mC} {gself2 : Nat → MG → Option MG} (h_x1 : RI x1 gx1) (h_x2 : RI x2 gx2) (h_self2 : (fun (X : Int32 → mC → Option mC) (X2 : Nat → MG → Option MG) => ∀ (a0 : Int32) (b0 : Nat) (a1 : mC) (b1 : MG), RI a0 b0 → RM a1 b1 → Sim RM (X a0 a1) (X2 b0 b1)) self2 gself2) : (fun (X : Int32 → mC → Option mC) (X2 : Nat → MG → Option MG) => ∀ (a0 : Int32) (b0 : Nat) (a1 : mC) (b1 : MG), RI a0 b0 → RM a1 b1 → Sim RM (X a0 a1) (X2 b0 b1)) (L_X3_strikeOut_2 x1 x2 self2) (GL_X3_strikeOut_2 gx1 gx2 gself2) := by
  intro x3_2 gx3_2 v_2 gv_2 h_x3_2 h_v_2
  show Sim RM _ _
  unfold L_X3_strikeOut_2 GL_X3_strikeOut_2
  show Sim RM _ _
  refine sim_if (ic_le (qi_lit 16) h_x3_2) ?_ ?_
  · refine sim_if (ic_eq h_x2 il_m1) ?_ ?_
    · exact sim_some h_v_2
    · refine sim_inb h_x2 (by decide) (fun hc1 => ?_)
      refine sim_inb0 h_x2 hc1 (by decide) ?_
      refine sim_rd h_v_2 (at_x0 (atk0 (k := 38) (L := 4) (by decide) rfl) h_x2 hc1 (by decide)) (fun y2 ey2 => ?_)
      refine sim_sq (ia_sub ey2 (qi_lit 1)) (fun y3 ey3 => ?_)
      refine sim_wr h_v_2 (at_x0 (atk0 (k := 38) (L := 4) (by decide) rfl) h_x2 hc1 (by decide)) ey3 (fun w43_1 gw43_1 h_w43_1 => ?_)
      exact sim_some h_w43_1
  · refine sim_inb h_x3_2 (by decide) (fun hc4 => ?_)
    refine sim_bd (s_X3_cost h_x3_2 h_x1 h_x2 h_v_2) (fun r_18 gr_18 h_r_18 => ?_)
    refine sim_inb0 h_x3_2 hc4 (by decide) ?_
    refine sim_rd h_v_2 (at_x0 (atk0 (k := 39) (L := 16) (by decide) rfl) h_x3_2 hc4 (by decide)) (fun y5 ey5 => ?_)
    refine sim_sq (ia_sub ey5 h_r_18) (fun y6 ey6 => ?_)
    refine sim_wr h_v_2 (at_x0 (atk0 (k := 39) (L := 16) (by decide) rfl) h_x3_2 hc4 (by decide)) ey6 (fun w22_2 gw22_2 h_w22_2 => ?_)
    refine sim_sq (ia_add h_x3_2 (qi_lit 1)) (fun y7 ey7 => ?_)
    exact h_self2 _ _ _ _ ey7 h_w22_2
set_option maxRecDepth 20000 in
theorem s_X3_strikeOut {x1 : Int32} {gx1 : Nat} {x2 : Int32} {gx2 : Nat} {v : mC} {gv : MG} (h_x1 : RI x1 gx1) (h_x2 : RI x2 gx2) (h_v : RM v gv) : Sim RM (f_X3_strikeOut x1 x2 v) (g_X3_strikeOut gx1 gx2 gv) := by
  unfold f_X3_strikeOut g_X3_strikeOut
  refine lp_sim (fun (X : Int32 → mC → Option mC) (X2 : Nat → MG → Option MG) => ∀ (a0 : Int32) (b0 : Nat) (a1 : mC) (b1 : MG), RI a0 b0 → RM a1 b1 → Sim RM (X a0 a1) (X2 b0 b1)) (fun _ _ _ _ _ _ => sim_none) (fun self gself hself => ?_) 8192 _ _ _ _ (qi_lit 0) h_v
  · exact sl_X3_strikeOut_2 h_x1 h_x2 hself
set_option maxRecDepth 20000 in
theorem sl_X3_make_52 {o : Nat} {self52 : Int32 → Int32 → mC → Option mC} {gself52 : Nat → Nat → MG → Option MG} (h_o : o < 7) (h_self52 : (fun (X : Int32 → Int32 → mC → Option mC) (X2 : Nat → Nat → MG → Option MG) => ∀ (a0 : Int32) (b0 : Nat) (a1 : Int32) (b1 : Nat) (a2 : mC) (b2 : MG), RI a0 b0 → RI a1 b1 → RM a2 b2 → Sim RM (X a0 a1 a2) (X2 b0 b1 b2)) self52 gself52) : (fun (X : Int32 → Int32 → mC → Option mC) (X2 : Nat → Nat → MG → Option MG) => ∀ (a0 : Int32) (b0 : Nat) (a1 : Int32) (b1 : Nat) (a2 : mC) (b2 : MG), RI a0 b0 → RI a1 b1 → RM a2 b2 → Sim RM (X a0 a1 a2) (X2 b0 b1 b2)) (L_X3_make_52 o self52) (GL_X3_make_52 o gself52) := by
  intro x3_52 gx3_52 x4_52 gx4_52 v_52 gv_52 h_x3_52 h_x4_52 h_v_52
  show Sim RM _ _
  unfold L_X3_make_52 GL_X3_make_52
  show Sim RM _ _
  refine sim_rd h_v_52 (at_n0 (i := 0) (atkb (k := 2) (o := o) (L := 1) (by decide) rfl h_o) (by decide)) (fun y1 ey1 => ?_)
  refine sim_if (ic_le ey1 h_x4_52) ?_ ?_
  · exact sim_some h_v_52
  · refine sim_inb h_x4_52 (by decide) (fun hc2 => ?_)
    refine sim_rd h_v_52 (at_x0 (atk0 (k := 37) (L := 30) (by decide) rfl) h_x4_52 hc2 (by decide)) (fun y3 ey3 => ?_)
    refine sim_bd (s_X3_firstGoodLine ey3 h_x3_52 h_v_52) (fun r_73 gr_73 h_r_73 => ?_)
    refine sim_inb0 h_x4_52 hc2 (by decide) ?_
    refine sim_wr h_v_52 (at_x0 (atk0 (k := 36) (L := 30) (by decide) rfl) h_x4_52 hc2 (by decide)) h_r_73 (fun w86_2 gw86_2 h_w86_2 => ?_)
    refine sim_inb0 h_x4_52 hc2 (by decide) ?_
    refine sim_rd h_w86_2 (at_x0 (atk0 (k := 37) (L := 30) (by decide) rfl) h_x4_52 hc2 (by decide)) (fun y4 ey4 => ?_)
    refine sim_bd (s_X3_strikeOut ey4 h_r_73 h_w86_2) (fun r_97 gr_97 h_r_97 => ?_)
    refine sim_if (ic_eq h_r_73 il_m1) ?_ ?_
    · refine sim_sq (ia_add h_x4_52 (qi_lit 1)) (fun y5 ey5 => ?_)
      exact h_self52 _ _ _ _ _ _ h_x3_52 ey5 h_r_97
    · refine sim_sq (ia_add h_x3_52 il_m1) (fun y6 ey6 => ?_)
      refine sim_sq (ia_add h_x4_52 (qi_lit 1)) (fun y7 ey7 => ?_)
      exact h_self52 _ _ _ _ _ _ ey6 ey7 h_r_97
set_option maxRecDepth 20000 in
theorem s_X3_make {o : Nat} {x2 : Int32} {gx2 : Nat} {v : mC} {gv : MG} (h_o : o < 7) (h_x2 : RI x2 gx2) (h_v : RM v gv) : Sim RM (f_X3_make o x2 v) (g_X3_make o gx2 gv) := by
  unfold f_X3_make g_X3_make
  refine sim_bd (s_X3_listWhoCanSing h_o h_x2 h_v) (fun r_3 gr_3 h_r_3 => ?_)
  refine sim_fill h_r_3 (atk0 (k := 36) (L := 30) (by decide) rfl) il_m1 (by decide) (fun r_11 gr_11 h_r_11 => ?_)
  refine sim_inb h_x2 (by decide) (fun hc1 => ?_)
  refine sim_cpo (qi_lit 4) (by decide) (fun hc2 => ?_)
  refine sim_cp h_r_11 (atk0 (k := 38) (L := 4) (by decide) rfl) (atkr4 (k := 26) (o := o) (by decide) rfl h_x2 hc1) (qi_lit 4) (by decide) (by decide) (fun w30_1 gw30_1 h_w30_1 => ?_)
  refine sim_rd h_w30_1 (at_n0 (i := 0) (atkb (k := 2) (o := o) (L := 1) (by decide) rfl h_o) (by decide)) (fun y3 ey3 => ?_)
  refine sim_bd (s_X3_setBounds ey3 h_w30_1) (fun r_41 gr_41 h_r_41 => ?_)
  refine sim_bd (s_X3_leastBound h_r_41) (fun r_45 gr_45 h_r_45 => ?_)
  refine lp_sim (fun (X : Int32 → Int32 → mC → Option mC) (X2 : Nat → Nat → MG → Option MG) => ∀ (a0 : Int32) (b0 : Nat) (a1 : Int32) (b1 : Nat) (a2 : mC) (b2 : MG), RI a0 b0 → RI a1 b1 → RM a2 b2 → Sim RM (X a0 a1 a2) (X2 b0 b1 b2)) (fun _ _ _ _ _ _ _ _ _ => sim_none) (fun self gself hself => ?_) 8192 _ _ _ _ _ _ h_r_45 (qi_lit 0) h_r_41
  · exact sl_X3_make_52 h_o hself
set_option maxRecDepth 20000 in
theorem s_X5_isOlder {o : Nat} {x1 : Int32} {gx1 : Nat} {x2 : Int32} {gx2 : Nat} {v : mC} {gv : MG} (h_o : o < 7) (h_x1 : RI x1 gx1) (h_x2 : RI x2 gx2) (h_v : RM v gv) : Sim RI (f_X5_isOlder o x1 x2 v) (g_X5_isOlder o gx1 gx2 gv) := by
  unfold f_X5_isOlder g_X5_isOlder
  refine sim_inb h_x1 (by decide) (fun hc1 => ?_)
  refine sim_inb h_x2 (by decide) (fun hc2 => ?_)
  refine sim_rd h_v (at_x0 (atkb (k := 6) (o := o) (L := 30) (by decide) rfl h_o) h_x2 hc2 (by decide)) (fun y3 ey3 => ?_)
  refine sim_rd h_v (at_x0 (atkb (k := 6) (o := o) (L := 30) (by decide) rfl h_o) h_x1 hc1 (by decide)) (fun y4 ey4 => ?_)
  refine sim_if (ic_le ey3 ey4) ?_ ?_
  · refine sim_zb0 ?_
    exact sim_Iv (qi_lit 0)
  · refine sim_zb1 ?_
    exact sim_Iv (qi_lit 1)
set_option maxRecDepth 20000 in
theorem sl_X3_chooseDescant_5 {o : Nat} {k2 : kC} {gb_k2 gs_k2 : Nat} {v : mC} {gv : MG} {self5 : Int32 → Int32 → Option Int32} {gself5 : Nat → Nat → Option Nat} (h_o : o < 7) (h_k2 : AtK k2 30 gb_k2 gs_k2 0) (h_v : RM v gv) (h_self5 : (fun (X : Int32 → Int32 → Option Int32) (X2 : Nat → Nat → Option Nat) => ∀ (a0 : Int32) (b0 : Nat) (a1 : Int32) (b1 : Nat), RI a0 b0 → RI a1 b1 → Sim RI (X a0 a1) (X2 b0 b1)) self5 gself5) : (fun (X : Int32 → Int32 → Option Int32) (X2 : Nat → Nat → Option Nat) => ∀ (a0 : Int32) (b0 : Nat) (a1 : Int32) (b1 : Nat), RI a0 b0 → RI a1 b1 → Sim RI (X a0 a1) (X2 b0 b1)) (L_X3_chooseDescant_5 o k2 v self5) (GL_X3_chooseDescant_5 o gb_k2 gs_k2 gv gself5) := by
  intro x3_5 gx3_5 x4_5 gx4_5 h_x3_5 h_x4_5
  show Sim RI _ _
  unfold L_X3_chooseDescant_5 GL_X3_chooseDescant_5
  show Sim RI _ _
  refine sim_rd h_v (at_n0 (i := 0) (atkb (k := 2) (o := o) (L := 1) (by decide) rfl h_o) (by decide)) (fun y1 ey1 => ?_)
  refine sim_if (ic_le ey1 h_x4_5) ?_ ?_
  · exact sim_Iv h_x3_5
  · refine sim_inb h_x4_5 (by decide) (fun hc2 => ?_)
    refine sim_rd h_v (at_x0 (atk0 (k := 36) (L := 30) (by decide) rfl) h_x4_5 hc2 (by decide)) (fun y3 ey3 => ?_)
    refine sim_if (ic_eq ey3 (qi_lit 0)) ?_ ?_
    · refine sim_if (ic_eq h_x3_5 il_m1) ?_ ?_
      · refine sim_sq (ia_add h_x4_5 (qi_lit 1)) (fun y4 ey4 => ?_)
        exact h_self5 _ _ _ _ h_x4_5 ey4
      · refine sim_inb0 h_x4_5 hc2 (by decide) ?_
        refine sim_inb h_x3_5 (by decide) (fun hc5 => ?_)
        refine sim_rd h_v (at_x0 h_k2 h_x4_5 hc2 (by decide)) (fun y6 ey6 => ?_)
        refine sim_rd h_v (at_x0 h_k2 h_x3_5 hc5 (by decide)) (fun y7 ey7 => ?_)
        refine sim_if (ic_lt ey6 ey7) ?_ ?_
        · refine sim_sq (ia_add h_x4_5 (qi_lit 1)) (fun y8 ey8 => ?_)
          exact h_self5 _ _ _ _ h_x4_5 ey8
        · refine sim_inb0 h_x4_5 hc2 (by decide) ?_
          refine sim_inb0 h_x3_5 hc5 (by decide) ?_
          refine sim_if (ic_eq ey6 ey7) ?_ ?_
          · refine sim_bd (s_X5_isOlder h_o h_x4_5 h_x3_5 h_v) (fun r_56 gr_56 h_r_56 => ?_)
            refine sim_if (ic_eq h_r_56 (qi_lit 0)) ?_ ?_
            · refine sim_sq (ia_add h_x4_5 (qi_lit 1)) (fun y9 ey9 => ?_)
              exact h_self5 _ _ _ _ h_x3_5 ey9
            · refine sim_sq (ia_add h_x4_5 (qi_lit 1)) (fun y10 ey10 => ?_)
              exact h_self5 _ _ _ _ h_x4_5 ey10
          · refine sim_sq (ia_add h_x4_5 (qi_lit 1)) (fun y11 ey11 => ?_)
            exact h_self5 _ _ _ _ h_x3_5 ey11
    · refine sim_sq (ia_add h_x4_5 (qi_lit 1)) (fun y12 ey12 => ?_)
      exact h_self5 _ _ _ _ h_x3_5 ey12
set_option maxRecDepth 20000 in
theorem s_X3_chooseDescant {o : Nat} {k2 : kC} {gb_k2 gs_k2 : Nat} {v : mC} {gv : MG} (h_o : o < 7) (h_k2 : AtK k2 30 gb_k2 gs_k2 0) (h_v : RM v gv) : Sim RI (f_X3_chooseDescant o k2 v) (g_X3_chooseDescant o gb_k2 gs_k2 gv) := by
  unfold f_X3_chooseDescant g_X3_chooseDescant
  refine lp_sim (fun (X : Int32 → Int32 → Option Int32) (X2 : Nat → Nat → Option Nat) => ∀ (a0 : Int32) (b0 : Nat) (a1 : Int32) (b1 : Nat), RI a0 b0 → RI a1 b1 → Sim RI (X a0 a1) (X2 b0 b1)) (fun _ _ _ _ _ _ => sim_none) (fun self gself hself => ?_) 8192 _ _ _ _ il_m1 (qi_lit 0)
  · exact sl_X3_chooseDescant_5 h_o h_k2 h_v hself
set_option maxRecDepth 20000 in
theorem sl_X0_enterLineup_67 {o : Nat} {self67 : Int32 → mC → Option mC} {gself67 : Nat → MG → Option MG} (h_o : o < 7) (h_self67 : (fun (X : Int32 → mC → Option mC) (X2 : Nat → MG → Option MG) => ∀ (a0 : Int32) (b0 : Nat) (a1 : mC) (b1 : MG), RI a0 b0 → RM a1 b1 → Sim RM (X a0 a1) (X2 b0 b1)) self67 gself67) : (fun (X : Int32 → mC → Option mC) (X2 : Nat → MG → Option MG) => ∀ (a0 : Int32) (b0 : Nat) (a1 : mC) (b1 : MG), RI a0 b0 → RM a1 b1 → Sim RM (X a0 a1) (X2 b0 b1)) (L_X0_enterLineup_67 o self67) (GL_X0_enterLineup_67 o gself67) := by
  intro x4_67 gx4_67 v_67 gv_67 h_x4_67 h_v_67
  show Sim RM _ _
  unfold L_X0_enterLineup_67 GL_X0_enterLineup_67
  show Sim RM _ _
  refine sim_rd h_v_67 (at_n0 (i := 0) (atkb (k := 2) (o := o) (L := 1) (by decide) rfl h_o) (by decide)) (fun y1 ey1 => ?_)
  refine sim_if (ic_le ey1 h_x4_67) ?_ ?_
  · exact sim_some h_v_67
  · refine sim_inb h_x4_67 (by decide) (fun hc2 => ?_)
    refine sim_rd h_v_67 (at_x0 (atk0 (k := 36) (L := 30) (by decide) rfl) h_x4_67 hc2 (by decide)) (fun y3 ey3 => ?_)
    refine sim_if (ic_eq ey3 il_m1) ?_ ?_
    · refine sim_sq (ia_add h_x4_67 (qi_lit 1)) (fun y4 ey4 => ?_)
      exact h_self67 _ _ _ _ ey4 h_v_67
    · refine sim_inb0 h_x4_67 hc2 (by decide) ?_
      refine sim_inb0 h_x4_67 hc2 (by decide) ?_
      refine sim_rd h_v_67 (at_x0 (atkb (k := 12) (o := o) (L := 30) (by decide) rfl h_o) h_x4_67 hc2 (by decide)) (fun y5 ey5 => ?_)
      refine sim_sq (ia_add ey5 (qi_lit 1)) (fun y6 ey6 => ?_)
      refine sim_wr h_v_67 (at_x0 (atkb (k := 12) (o := o) (L := 30) (by decide) rfl h_o) h_x4_67 hc2 (by decide)) ey6 (fun w103_4 gw103_4 h_w103_4 => ?_)
      refine sim_sq (ia_add h_x4_67 (qi_lit 1)) (fun y7 ey7 => ?_)
      exact h_self67 _ _ _ _ ey7 h_w103_4
set_option maxRecDepth 20000 in
theorem s_X0_enterLineup {o : Nat} {x1 : Int32} {gx1 : Nat} {v : mC} {gv : MG} (h_o : o < 7) (h_x1 : RI x1 gx1) (h_v : RM v gv) : Sim RM (f_X0_enterLineup o x1 v) (g_X0_enterLineup o gx1 gv) := by
  unfold f_X0_enterLineup g_X0_enterLineup
  refine sim_jn (fun (X : mC → Option mC) (X2 : MG → Option MG) => ∀ (a0 : mC) (b0 : MG), RM a0 b0 → Sim RM (X a0) (X2 b0)) ?_ (fun j44 gj44 h_j44 => ?_)
  · intro v_44 gv_44 h_v_44
    refine sim_inb h_x1 (by decide) (fun hc1 => ?_)
    refine sim_cpo (qi_lit 30) (by decide) (fun hc2 => ?_)
    refine sim_cp h_v_44 (atkr30 (k := 29) (o := o) rfl rfl h_x1 hc1) (atk0 (k := 36) (L := 30) (by decide) rfl) (qi_lit 30) (by decide) (by decide) (fun w61_3 gw61_3 h_w61_3 => ?_)
    refine lp_sim (fun (X : Int32 → mC → Option mC) (X2 : Nat → MG → Option MG) => ∀ (a0 : Int32) (b0 : Nat) (a1 : mC) (b1 : MG), RI a0 b0 → RM a1 b1 → Sim RM (X a0 a1) (X2 b0 b1)) (fun _ _ _ _ _ _ => sim_none) (fun self gself hself => ?_) 8192 _ _ _ _ (qi_lit 0) h_w61_3
    · exact sl_X0_enterLineup_67 h_o hself
  · refine sim_bd (s_X3_chooseDescant h_o (atkb (k := 13) (o := o) (L := 30) (by decide) rfl h_o) h_v) (fun r_12 gr_12 h_r_12 => ?_)
    refine sim_inb h_x1 (by decide) (fun hc3 => ?_)
    refine sim_wr h_v (at_x0 (atkb (k := 21) (o := o) (L := 20) (by decide) rfl h_o) h_x1 hc3 (by decide)) h_r_12 (fun w25_1 gw25_1 h_w25_1 => ?_)
    refine sim_if (ic_eq h_r_12 il_m1) ?_ ?_
    · exact h_j44 _ _ h_w25_1
    · refine sim_inb h_r_12 (by decide) (fun hc4 => ?_)
      refine sim_inb0 h_r_12 hc4 (by decide) ?_
      refine sim_rd h_w25_1 (at_x0 (atkb (k := 13) (o := o) (L := 30) (by decide) rfl h_o) h_r_12 hc4 (by decide)) (fun y5 ey5 => ?_)
      refine sim_sq (ia_add ey5 (qi_lit 1)) (fun y6 ey6 => ?_)
      refine sim_wr h_w25_1 (at_x0 (atkb (k := 13) (o := o) (L := 30) (by decide) rfl h_o) h_r_12 hc4 (by decide)) ey6 (fun w43_2 gw43_2 h_w43_2 => ?_)
      exact h_j44 _ _ h_w43_2
set_option maxRecDepth 20000 in
theorem sl_X3_countIn_4 {x1 : Int32} {gx1 : Nat} {v : mC} {gv : MG} {self4 : Int32 → Int32 → Option Int32} {gself4 : Nat → Nat → Option Nat} (h_x1 : RI x1 gx1) (h_v : RM v gv) (h_self4 : (fun (X : Int32 → Int32 → Option Int32) (X2 : Nat → Nat → Option Nat) => ∀ (a0 : Int32) (b0 : Nat) (a1 : Int32) (b1 : Nat), RI a0 b0 → RI a1 b1 → Sim RI (X a0 a1) (X2 b0 b1)) self4 gself4) : (fun (X : Int32 → Int32 → Option Int32) (X2 : Nat → Nat → Option Nat) => ∀ (a0 : Int32) (b0 : Nat) (a1 : Int32) (b1 : Nat), RI a0 b0 → RI a1 b1 → Sim RI (X a0 a1) (X2 b0 b1)) (L_X3_countIn_4 x1 v self4) (GL_X3_countIn_4 gx1 gv gself4) := by
  intro x2_4 gx2_4 x3_4 gx3_4 h_x2_4 h_x3_4
  show Sim RI _ _
  unfold L_X3_countIn_4 GL_X3_countIn_4
  show Sim RI _ _
  refine sim_if (ic_le (qi_lit 30) h_x3_4) ?_ ?_
  · exact sim_Iv h_x2_4
  · refine sim_inb h_x3_4 (by decide) (fun hc1 => ?_)
    refine sim_rd h_v (at_x0 (atk0 (k := 36) (L := 30) (by decide) rfl) h_x3_4 hc1 (by decide)) (fun y2 ey2 => ?_)
    refine sim_if (ic_eq ey2 h_x1) ?_ ?_
    · refine sim_sq (ia_add h_x2_4 (qi_lit 1)) (fun y3 ey3 => ?_)
      refine sim_sq (ia_add h_x3_4 (qi_lit 1)) (fun y4 ey4 => ?_)
      exact h_self4 _ _ _ _ ey3 ey4
    · refine sim_sq (ia_add h_x3_4 (qi_lit 1)) (fun y5 ey5 => ?_)
      exact h_self4 _ _ _ _ h_x2_4 ey5
set_option maxRecDepth 20000 in
theorem s_X3_countIn {x1 : Int32} {gx1 : Nat} {v : mC} {gv : MG} (h_x1 : RI x1 gx1) (h_v : RM v gv) : Sim RI (f_X3_countIn x1 v) (g_X3_countIn gx1 gv) := by
  unfold f_X3_countIn g_X3_countIn
  refine lp_sim (fun (X : Int32 → Int32 → Option Int32) (X2 : Nat → Nat → Option Nat) => ∀ (a0 : Int32) (b0 : Nat) (a1 : Int32) (b1 : Nat), RI a0 b0 → RI a1 b1 → Sim RI (X a0 a1) (X2 b0 b1)) (fun _ _ _ _ _ _ => sim_none) (fun self gself hself => ?_) 8192 _ _ _ _ (qi_lit 0) (qi_lit 0)
  · exact sl_X3_countIn_4 h_x1 h_v hself
set_option maxRecDepth 20000 in
theorem s_X3_countAll {v : mC} {gv : MG} (h_v : RM v gv) : Sim RI (f_X3_countAll v) (g_X3_countAll gv) := by
  unfold f_X3_countAll g_X3_countAll
  refine sim_bd (s_X3_countIn il_m1 h_v) (fun r_4 gr_4 h_r_4 => ?_)
  exact sim_I (ia_sub (qi_lit 30) h_r_4)
set_option maxRecDepth 20000 in
theorem sl_X0_settleAccounts_5 {o : Nat} {x1 : Int32} {gx1 : Nat} {v : mC} {gv : MG} {self5 : Int32 → Int32 → Option mC} {gself5 : Nat → Nat → Option MG} (h_o : o < 7) (h_x1 : RI x1 gx1) (h_v : RM v gv) (h_self5 : (fun (X : Int32 → Int32 → Option mC) (X2 : Nat → Nat → Option MG) => ∀ (a0 : Int32) (b0 : Nat) (a1 : Int32) (b1 : Nat), RI a0 b0 → RI a1 b1 → Sim RM (X a0 a1) (X2 b0 b1)) self5 gself5) : (fun (X : Int32 → Int32 → Option mC) (X2 : Nat → Nat → Option MG) => ∀ (a0 : Int32) (b0 : Nat) (a1 : Int32) (b1 : Nat), RI a0 b0 → RI a1 b1 → Sim RM (X a0 a1) (X2 b0 b1)) (L_X0_settleAccounts_5 o x1 v self5) (GL_X0_settleAccounts_5 o gx1 gv gself5) := by
  intro x3_5 gx3_5 x4_5 gx4_5 h_x3_5 h_x4_5
  show Sim RM _ _
  unfold L_X0_settleAccounts_5 GL_X0_settleAccounts_5
  show Sim RM _ _
  refine sim_rd h_v (at_n0 (i := 0) (atkb (k := 2) (o := o) (L := 1) (by decide) rfl h_o) (by decide)) (fun y1 ey1 => ?_)
  refine sim_if (ic_le ey1 h_x4_5) ?_ ?_
  · refine sim_inb h_x1 (by decide) (fun hc2 => ?_)
    refine sim_bd (s_X3_countAll h_v) (fun r_57 gr_57 h_r_57 => ?_)
    refine sim_inb0 h_x1 hc2 (by decide) ?_
    refine sim_bd (s_X1_allPlaces h_o h_x1 h_v) (fun r_77 gr_77 h_r_77 => ?_)
    refine sim_bd (s_X3_countAll h_v) (fun r_81 gr_81 h_r_81 => ?_)
    refine sim_rd h_v (at_n0 (i := 7) (atkb (k := 1) (o := o) (L := 10) (by decide) rfl h_o) (by decide)) (fun y3 ey3 => ?_)
    refine sim_rd h_v (at_x0 (atkb (k := 20) (o := o) (L := 20) (by decide) rfl h_o) h_x1 hc2 (by decide)) (fun y4 ey4 => ?_)
    refine sim_lt (ia_add ey3 (ia_mul ey4 h_r_57)) (fun y95_1 gy95_1 h_y95_1 => ?_)
    refine sim_wr h_v (at_n0 (i := 7) (atkb (k := 1) (o := o) (L := 10) (by decide) rfl h_o) (by decide)) h_y95_1 (fun w96_2 gw96_2 h_w96_2 => ?_)
    refine sim_rd h_w96_2 (at_n0 (i := 8) (atkb (k := 1) (o := o) (L := 10) (by decide) rfl h_o) (by decide)) (fun y5 ey5 => ?_)
    refine sim_sq (ia_add ey5 h_x3_5) (fun y6 ey6 => ?_)
    refine sim_wr h_w96_2 (at_n0 (i := 8) (atkb (k := 1) (o := o) (L := 10) (by decide) rfl h_o) (by decide)) ey6 (fun w106_3 gw106_3 h_w106_3 => ?_)
    refine sim_rd h_w106_3 (at_n0 (i := 9) (atkb (k := 1) (o := o) (L := 10) (by decide) rfl h_o) (by decide)) (fun y7 ey7 => ?_)
    refine sim_lt (ia_add ey7 (ia_mul ey4 (ia_sub h_r_77 h_r_81))) (fun y116_4 gy116_4 h_y116_4 => ?_)
    refine sim_wr h_w106_3 (at_n0 (i := 9) (atkb (k := 1) (o := o) (L := 10) (by decide) rfl h_o) (by decide)) h_y116_4 (fun w117_5 gw117_5 h_w117_5 => ?_)
    refine sim_lt (ia_sub (ia_sub (ia_mul ey4 h_r_57) h_x3_5) (ia_mul ey4 (ia_sub h_r_77 h_r_81))) (fun y131_6 gy131_6 h_y131_6 => ?_)
    refine sim_rd h_w117_5 (at_n0 (i := 5) (atkb (k := 1) (o := o) (L := 10) (by decide) rfl h_o) (by decide)) (fun y8 ey8 => ?_)
    refine sim_sq (ia_add ey8 h_y131_6) (fun y9 ey9 => ?_)
    refine sim_wr h_w117_5 (at_n0 (i := 5) (atkb (k := 1) (o := o) (L := 10) (by decide) rfl h_o) (by decide)) ey9 (fun w133_7 gw133_7 h_w133_7 => ?_)
    exact sim_some h_w133_7
  · refine sim_inb h_x4_5 (by decide) (fun hc10 => ?_)
    refine sim_rd h_v (at_x0 (atk0 (k := 36) (L := 30) (by decide) rfl) h_x4_5 hc10 (by decide)) (fun y11 ey11 => ?_)
    refine sim_if (ic_eq ey11 il_m1) ?_ ?_
    · refine sim_sq (ia_add h_x4_5 (qi_lit 1)) (fun y12 ey12 => ?_)
      exact h_self5 _ _ _ _ h_x3_5 ey12
    · refine sim_inb0 h_x4_5 hc10 (by decide) ?_
      refine sim_rd h_v (at_x0 (atkb (k := 9) (o := o) (L := 30) (by decide) rfl h_o) h_x4_5 hc10 (by decide)) (fun y13 ey13 => ?_)
      refine sim_sq (ia_add h_x3_5 ey13) (fun y14 ey14 => ?_)
      refine sim_sq (ia_add h_x4_5 (qi_lit 1)) (fun y15 ey15 => ?_)
      exact h_self5 _ _ _ _ ey14 ey15
set_option maxRecDepth 20000 in
theorem s_X0_settleAccounts {o : Nat} {x1 : Int32} {gx1 : Nat} {v : mC} {gv : MG} (h_o : o < 7) (h_x1 : RI x1 gx1) (h_v : RM v gv) : Sim RM (f_X0_settleAccounts o x1 v) (g_X0_settleAccounts o gx1 gv) := by
  unfold f_X0_settleAccounts g_X0_settleAccounts
  refine lp_sim (fun (X : Int32 → Int32 → Option mC) (X2 : Nat → Nat → Option MG) => ∀ (a0 : Int32) (b0 : Nat) (a1 : Int32) (b1 : Nat), RI a0 b0 → RI a1 b1 → Sim RM (X a0 a1) (X2 b0 b1)) (fun _ _ _ _ _ _ => sim_none) (fun self gself hself => ?_) 8192 _ _ _ _ (qi_lit 0) (qi_lit 0)
  · exact sl_X0_settleAccounts_5 h_o h_x1 h_v hself
set_option maxRecDepth 20000 in
theorem sl_X0_advance_26 {o : Nat} {x1 : Int32} {gx1 : Nat} {v : mC} {gv : MG} {self26 : Int32 → Int32 → Int32 → mC → Option (Int32 × mC)} {gself26 : Nat → Nat → Nat → MG → Option (Nat × MG)} (h_o : o < 7) (h_x1 : RI x1 gx1) (h_v : RM v gv) (h_self26 : (fun (X : Int32 → Int32 → Int32 → mC → Option (Int32 × mC)) (X2 : Nat → Nat → Nat → MG → Option (Nat × MG)) => ∀ (a0 : Int32) (b0 : Nat) (a1 : Int32) (b1 : Nat) (a2 : Int32) (b2 : Nat) (a3 : mC) (b3 : MG), RI a0 b0 → RI a1 b1 → RI a2 b2 → RM a3 b3 → Sim RP (X a0 a1 a2 a3) (X2 b0 b1 b2 b3)) self26 gself26) : (fun (X : Int32 → Int32 → Int32 → mC → Option (Int32 × mC)) (X2 : Nat → Nat → Nat → MG → Option (Nat × MG)) => ∀ (a0 : Int32) (b0 : Nat) (a1 : Int32) (b1 : Nat) (a2 : Int32) (b2 : Nat) (a3 : mC) (b3 : MG), RI a0 b0 → RI a1 b1 → RI a2 b2 → RM a3 b3 → Sim RP (X a0 a1 a2 a3) (X2 b0 b1 b2 b3)) (L_X0_advance_26 o x1 v self26) (GL_X0_advance_26 o gx1 gv gself26) := by
  intro x4_26 gx4_26 x5_26 gx5_26 x6_26 gx6_26 v_26 gv_26 h_x4_26 h_x5_26 h_x6_26 h_v_26
  show Sim RP _ _
  unfold L_X0_advance_26 GL_X0_advance_26
  show Sim RP _ _
  refine sim_if (ic_le (qi_lit 20) h_x6_26) ?_ ?_
  · refine sim_rd h_v (at_n0 (i := 0) (atkb (k := 1) (o := o) (L := 10) (by decide) rfl h_o) (by decide)) (fun y1 ey1 => ?_)
    refine sim_sq (ia_add ey1 h_x1) (fun y2 ey2 => ?_)
    refine sim_wr h_v_26 (at_n0 (i := 0) (atkb (k := 1) (o := o) (L := 10) (by decide) rfl h_o) (by decide)) ey2 (fun w112_1 gw112_1 h_w112_1 => ?_)
    exact sim_P h_x4_26 h_w112_1
  · refine sim_if (ic_eq h_x5_26 il_m1) ?_ ?_
    · refine sim_rd h_v (at_n0 (i := 0) (atkb (k := 1) (o := o) (L := 10) (by decide) rfl h_o) (by decide)) (fun y3 ey3 => ?_)
      refine sim_sq (ia_add ey3 h_x1) (fun y4 ey4 => ?_)
      refine sim_wr h_v_26 (at_n0 (i := 0) (atkb (k := 1) (o := o) (L := 10) (by decide) rfl h_o) (by decide)) ey4 (fun w112_2 gw112_2 h_w112_2 => ?_)
      exact sim_P h_x4_26 h_w112_2
    · refine sim_inb h_x5_26 (by decide) (fun hc5 => ?_)
      refine sim_rd h_v (at_n0 (i := 0) (atkb (k := 1) (o := o) (L := 10) (by decide) rfl h_o) (by decide)) (fun y6 ey6 => ?_)
      refine sim_rd h_v_26 (at_x0 (atkb (k := 19) (o := o) (L := 20) (by decide) rfl h_o) h_x5_26 hc5 (by decide)) (fun y7 ey7 => ?_)
      refine sim_if (ic_lt (ia_add ey6 h_x1) ey7) ?_ ?_
      · refine sim_sq (ia_add ey6 h_x1) (fun y8 ey8 => ?_)
        refine sim_wr h_v_26 (at_n0 (i := 0) (atkb (k := 1) (o := o) (L := 10) (by decide) rfl h_o) (by decide)) ey8 (fun w112_3 gw112_3 h_w112_3 => ?_)
        exact sim_P h_x4_26 h_w112_3
      · refine sim_inb0 h_x5_26 hc5 (by decide) ?_
        refine sim_wr h_v_26 (at_n0 (i := 0) (atkb (k := 1) (o := o) (L := 10) (by decide) rfl h_o) (by decide)) ey7 (fun w64_4 gw64_4 h_w64_4 => ?_)
        refine sim_bd (s_X3_make h_o h_x5_26 h_w64_4) (fun r_71 gr_71 h_r_71 => ?_)
        refine sim_bd (s_X0_enterLineup h_o h_x5_26 h_r_71) (fun r_78 gr_78 h_r_78 => ?_)
        refine sim_bd (s_X0_settleAccounts h_o h_x5_26 h_r_78) (fun r_85 gr_85 h_r_85 => ?_)
        refine sim_rd h_r_85 (at_n0 (i := 0) (atkb (k := 1) (o := o) (L := 10) (by decide) rfl h_o) (by decide)) (fun y9 ey9 => ?_)
        refine sim_bd (s_X1_nextAfter h_o ey9 h_r_85) (fun r_99 gr_99 h_r_99 => ?_)
        refine sim_sq (ia_add h_x4_26 (qi_lit 1)) (fun y10 ey10 => ?_)
        refine sim_sq (ia_add h_x6_26 (qi_lit 1)) (fun y11 ey11 => ?_)
        exact h_self26 _ _ _ _ _ _ _ _ ey10 h_r_99 ey11 h_r_85
