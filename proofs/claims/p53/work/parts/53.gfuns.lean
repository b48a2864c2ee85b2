/-! the fast functions (printed by wip/p53/gprint.py) -/
noncomputable def g_X6_isWithin (gx0 : Nat) (gx1 : Nat) (gx2 : Nat) (gv : MG) : Option Nat :=
  (gif (gclt gx0 gx1) (some 0) (gif (gclt gx2 gx0) (some 0) (some 1)))
noncomputable def g_X6_isRange (gx0 : Nat) (gx1 : Nat) (gv : MG) : Option Nat :=
  (gbd (g_X6_isWithin gx0 0 48 gv) fun gr_4 => (gif (gceq gr_4 0) (some 0) (gbd (g_X6_isWithin gx1 gx0 48 gv) fun gr_14 => (gif (gceq gr_14 0) (some 0) (some 1)))))
noncomputable def g_X6_isHeightAndRange (gx0 : Nat) (gx1 : Nat) (gx2 : Nat) (gv : MG) : Option Nat :=
  (gbd (g_X6_isWithin gx0 90 210 gv) fun gr_6 => (gif (gceq gr_6 0) (some 0) (gbd (g_X6_isRange gx1 gx2 gv) fun gr_14 => (gif (gceq gr_14 0) (some 0) (some 1)))))
noncomputable def g_X5_isFull (o : Nat) (gv : MG) : Option Nat :=
  (grd gv (Nat.succ o) 9 0 fun y1 => (gif (gclt y1 30) (some 0) (some 1)))
noncomputable def g_X0_refusalToEnrol (o : Nat) (gx1 : Nat) (gx2 : Nat) (gx3 : Nat) (gx4 : Nat) (gx5 : Nat) (gv : MG) : Option Nat :=
  (gbd (g_X6_isWithin gx1 7 70 gv) fun gr_5 => (gif (gceq gr_5 0) (some 2) (gbd (g_X6_isHeightAndRange gx2 gx3 gx4 gv) fun gr_15 => (gif (gceq gr_15 0) (some 2) (gjn (fun (_u : Unit) => (gbd (g_X5_isFull o gv) fun gr_46 => (gif (gceq gr_46 0) (some 0) (some 3)))) (fun gj42 => (gif (gceq gx5 0) (gj42 ()) (gbd (g_X6_isWithin gx5 12 17 gv) fun gr_34 => (gif (gceq gr_34 0) (some 2) (gj42 ()))))))))))
noncomputable def g_X6_refuseIf (gx0 : Nat) (gv : MG) : Option (Nat × Nat × MG) :=
  (gif (gceq gx0 1) (gsq 0 fun q => some (q, 1, gv)) (gif (gceq gx0 2) (gsq 0 fun q => some (q, 2, gv)) (gif (gceq gx0 3) (gsq 0 fun q => some (q, 3, gv)) (gsq 0 fun q => some (q, 0, gv)))))
noncomputable def GL_X6_forgetOldestState_9 (gv : MG) (gself9 : Nat → MG → Option MG) : Nat → MG → Option MG := fun gx2_9 gv_9 =>
  (gif (gcle 4 gx2_9) (grd gv 0 6 0 fun y1 => (gwr gv_9 0 6 3 y1 fun gw40_1 => (gwr gw40_1 0 5 5 3 fun gw43_2 => (some gw43_2)))) (gck (Nat.blt gx2_9 4) (grd gv_9 0 6 gx2_9 fun y3 => (gck (Nat.blt y3 7) (gsq (gsub gx2_9 1) fun y5 => (gck (Nat.blt y5 4) (gwr gv_9 0 6 y5 y3 fun gw27_3 => (gsq (gadd gx2_9 1) fun y7 => (gself9 y7 gw27_3)))))))))
noncomputable def g_X6_forgetOldestState (gv : MG) : Option MG :=
  (grd gv 0 6 0 fun y1 => (gck (Nat.blt y1 7) (glp (fun _ _ => none) (GL_X6_forgetOldestState_9 gv) 8192 1 gv)))
noncomputable def g_X5_copyFrom (o : Nat) (o1 : Nat) (gv : MG) : Option MG :=
  (grd gv (Nat.succ o1) 9 0 fun y1 => (gwr gv (Nat.succ o) 9 0 y1 fun gw5_1 => (grd gw5_1 (Nat.succ o) 9 0 fun y2 => (gck (Nat.ble y2 30) (gcp gw5_1 (Nat.succ o) 21 0 (Nat.succ o1) 21 0 y2 fun gw22_2 => (grd gw22_2 (Nat.succ o) 9 0 fun y4 => (gck (Nat.ble y4 30) (gcp gw22_2 (Nat.succ o) 7 0 (Nat.succ o1) 7 0 y4 fun gw39_3 => (grd gw39_3 (Nat.succ o) 9 0 fun y6 => (gck (Nat.ble y6 30) (gcp gw39_3 (Nat.succ o) 8 0 (Nat.succ o1) 8 0 y6 fun gw56_4 => (grd gw56_4 (Nat.succ o) 9 0 fun y8 => (gck (Nat.ble y8 30) (gcp gw56_4 (Nat.succ o) 22 0 (Nat.succ o1) 22 0 y8 fun gw73_5 => (grd gw73_5 (Nat.succ o) 9 0 fun y10 => (gck (Nat.ble y10 30) (gcp gw73_5 (Nat.succ o) 6 0 (Nat.succ o1) 6 0 y10 fun gw90_6 => (grd gw90_6 (Nat.succ o) 9 0 fun y12 => (gck (Nat.ble y12 30) (gcp gw90_6 (Nat.succ o) 23 0 (Nat.succ o1) 23 0 y12 fun gw107_7 => (grd gw107_7 (Nat.succ o) 9 0 fun y14 => (gck (Nat.ble y14 30) (gcp gw107_7 (Nat.succ o) 20 0 (Nat.succ o1) 20 0 y14 fun gw124_8 => (grd gw124_8 (Nat.succ o) 9 0 fun y16 => (gck (Nat.ble y16 30) (gcp gw124_8 (Nat.succ o) 0 0 (Nat.succ o1) 0 0 y16 fun gw141_9 => (grd gw141_9 (Nat.succ o) 9 0 fun y18 => (gck (Nat.ble y18 30) (gcp gw141_9 (Nat.succ o) 1 0 (Nat.succ o1) 1 0 y18 fun gw158_10 => (grd gw158_10 (Nat.succ o) 9 0 fun y20 => (gck (Nat.ble y20 30) (gcp gw158_10 (Nat.succ o) 18 0 (Nat.succ o1) 18 0 y20 fun gw175_11 => (grd gw175_11 (Nat.succ o) 9 0 fun y22 => (gck (Nat.ble y22 30) (gcp gw175_11 (Nat.succ o) 19 0 (Nat.succ o1) 19 0 y22 fun gw192_12 => (some gw192_12))))))))))))))))))))))))))))))))))))
noncomputable def g_X4_copyFrom (o : Nat) (o1 : Nat) (gv : MG) : Option MG :=
  (grd gv (Nat.succ o1) 2 0 fun y1 => (gwr gv (Nat.succ o) 2 0 y1 fun gw5_1 => (grd gw5_1 (Nat.succ o) 2 0 fun y2 => (gck (Nat.ble y2 60) (gcp gw5_1 (Nat.succ o) 3 0 (Nat.succ o1) 3 0 y2 fun gw22_2 => (grd gw22_2 (Nat.succ o) 2 0 fun y4 => (gck (Nat.ble y4 60) (gcp gw22_2 (Nat.succ o) 4 0 (Nat.succ o1) 4 0 y4 fun gw39_3 => (grd gw39_3 (Nat.succ o) 2 0 fun y6 => (gck (Nat.ble y6 60) (gcp gw39_3 (Nat.succ o) 5 0 (Nat.succ o1) 5 0 y6 fun gw56_4 => (some gw56_4))))))))))))
noncomputable def GL_X1_copyFrom_61 (o : Nat) (o1 : Nat) (gself61 : Nat → MG → Option MG) : Nat → MG → Option MG := fun gx2_61 gv_61 =>
  (grd gv_61 (Nat.succ o) 11 0 fun y1 => (gif (gcle y1 gx2_61) (some gv_61) (gck (Nat.blt gx2_61 20) (gck (Nat.ble 4 4) (gcp gv_61 (Nat.succ o) 13 (Nat.mul 4 gx2_61) (Nat.succ o1) 13 (Nat.mul 4 gx2_61) 4 fun gw84_5 => (gck (Nat.ble 4 4) (gcp gw84_5 (Nat.succ o) 14 (Nat.mul 4 gx2_61) (Nat.succ o1) 14 (Nat.mul 4 gx2_61) 4 fun gw102_6 => (gck (Nat.ble 4 4) (gcp gw102_6 (Nat.succ o) 15 (Nat.mul 4 gx2_61) (Nat.succ o1) 15 (Nat.mul 4 gx2_61) 4 fun gw120_7 => (gck (Nat.ble 30 30) (gcp gw120_7 (Nat.succ o) 24 (Nat.mul 30 gx2_61) (Nat.succ o1) 24 (Nat.mul 30 gx2_61) 30 fun gw139_8 => (gsq (gadd gx2_61 1) fun y7 => (gself61 y7 gw139_8)))))))))))))
noncomputable def g_X1_copyFrom (o : Nat) (o1 : Nat) (gv : MG) : Option MG :=
  (grd gv (Nat.succ o1) 11 0 fun y1 => (gwr gv (Nat.succ o) 11 0 y1 fun gw5_1 => (grd gw5_1 (Nat.succ o) 11 0 fun y2 => (gck (Nat.ble y2 20) (gcp gw5_1 (Nat.succ o) 12 0 (Nat.succ o1) 12 0 y2 fun gw22_2 => (grd gw22_2 (Nat.succ o) 11 0 fun y4 => (gck (Nat.ble y4 20) (gcp gw22_2 (Nat.succ o) 16 0 (Nat.succ o1) 16 0 y4 fun gw39_3 => (grd gw39_3 (Nat.succ o) 11 0 fun y6 => (gck (Nat.ble y6 20) (gcp gw39_3 (Nat.succ o) 17 0 (Nat.succ o1) 17 0 y6 fun gw56_4 => (glp (fun _ _ => none) (GL_X1_copyFrom_61 o o1) 8192 0 gw56_4))))))))))))
noncomputable def g_X0_copyFrom (o : Nat) (o1 : Nat) (gv : MG) : Option MG :=
  (grd gv (Nat.succ o1) 10 0 fun y1 => (gwr gv (Nat.succ o) 10 0 y1 fun gw5_1 => (gbd (g_X5_copyFrom o o1 gw5_1) fun gr_16 => (gbd (g_X4_copyFrom o o1 gr_16) fun gr_27 => (gbd (g_X1_copyFrom o o1 gr_27) fun gr_38 => (gck (Nat.ble 5 5) (gcp gr_38 (Nat.succ o) 25 0 (Nat.succ o1) 25 0 5 fun gw52_2 => (grd gw52_2 (Nat.succ o1) 10 5 fun y3 => (gwr gw52_2 (Nat.succ o) 10 5 y3 fun gw60_3 => (grd gw60_3 (Nat.succ o1) 10 6 fun y4 => (gwr gw60_3 (Nat.succ o) 10 6 y4 fun gw68_4 => (grd gw68_4 (Nat.succ o1) 10 7 fun y5 => (gwr gw68_4 (Nat.succ o) 10 7 y5 fun gw76_5 => (grd gw76_5 (Nat.succ o1) 10 8 fun y6 => (gwr gw76_5 (Nat.succ o) 10 8 y6 fun gw84_6 => (grd gw84_6 (Nat.succ o1) 10 9 fun y7 => (gwr gw84_6 (Nat.succ o) 10 9 y7 fun gw92_7 => (some gw92_7))))))))))))))))))
noncomputable def g_X6_keepState (gv : MG) : Option MG :=
  (gjn (fun (gv_12 : MG) => (grd gv_12 0 5 5 fun y1 => (gck (Nat.blt y1 4) (grd gv_12 0 6 y1 fun y3 => (gck (Nat.blt y3 7) (gbd (g_X0_copyFrom y3 0 gv_12) fun gr_25 => (grd gr_25 0 5 5 fun y5 => (gsq (gadd y5 1) fun y6 => (gwr gr_25 0 5 5 y6 fun gw35_1 => (some gw35_1)))))))))) (fun gj12 => (grd gv 0 5 5 fun y7 => (gif (gclt y7 4) (gj12 gv) (gbd (g_X6_forgetOldestState gv) fun gr_9 => (gj12 gr_9))))))
noncomputable def g_X5_add (o : Nat) (gx1 : Nat) (gx2 : Nat) (gx3 : Nat) (gx4 : Nat) (gv : MG) : Option (Nat × MG) :=
  (grd gv (Nat.succ o) 9 0 fun y1 => (gck (Nat.blt y1 30) (gwr gv (Nat.succ o) 21 y1 gx2 fun gw13_1 => (gwr gw13_1 (Nat.succ o) 7 y1 gx3 fun gw21_2 => (gwr gw21_2 (Nat.succ o) 8 y1 gx4 fun gw30_3 => (gwr gw30_3 (Nat.succ o) 22 y1 gx1 fun gw38_4 => (gwr gw38_4 (Nat.succ o) 6 y1 4294967295 fun gw46_5 => (gwr gw46_5 (Nat.succ o) 23 y1 4294967295 fun gw54_6 => (gwr gw54_6 (Nat.succ o) 20 y1 0 fun gw62_7 => (gwr gw62_7 (Nat.succ o) 0 y1 1000000 fun gw71_8 => (gwr gw71_8 (Nat.succ o) 1 y1 4294967295 fun gw79_9 => (gwr gw79_9 (Nat.succ o) 18 y1 0 fun gw87_10 => (gwr gw87_10 (Nat.succ o) 19 y1 0 fun gw95_11 => (grd gw95_11 (Nat.succ o) 9 0 fun y3 => (gsq (gadd y3 1) fun y4 => (gwr gw95_11 (Nat.succ o) 9 0 y4 fun gw103_12 => (gsq y1 fun q => some (q, gw103_12))))))))))))))))))
noncomputable def g_X0_enrol (o : Nat) (gx1 : Nat) (gx2 : Nat) (gx3 : Nat) (gx4 : Nat) (gx5 : Nat) (gv : MG) : Option (Nat × MG) :=
  (grd gv (Nat.succ o) 10 0 fun y1 => (gsq (gsub y1 (gmul gx1 360)) fun y2 => (gbd (g_X5_add o y2 gx2 gx3 gx4 gv) fun gr_18 => (gif (gcle gx5 gx1) (gsq gr_18.1 fun q => some (q, gr_18.2)) (grd gr_18.2 (Nat.succ o) 10 0 fun y3 => (gsq (gadd y3 (gmul (gsub gx5 gx1) 360)) fun gy50_1 => (gck (Nat.blt gr_18.1 30) (gwr gr_18.2 (Nat.succ o) 6 gr_18.1 gy50_1 fun gw51_2 => (gsq gr_18.1 fun q => some (q, gw51_2))))))))))
noncomputable def g_X6_register (gx1 : Nat) (gx2 : Nat) (gx3 : Nat) (gx4 : Nat) (gx5 : Nat) (gv : MG) : Option (Nat × Nat × MG) :=
  (gbd (g_X0_refusalToEnrol 0 gx1 gx2 gx3 gx4 gx5 gv) fun gr_11 => (gtb (g_X6_refuseIf gr_11 gv) fun gr_14 gw_14 => (gbd (g_X6_keepState gw_14) fun gr_18 => (gbd (g_X0_enrol 0 gx1 gx2 gx3 gx4 gx5 gr_18) fun gr_32 => (gsq gr_32.1 fun q => some (q, 0, gr_32.2))))))
noncomputable def g_X5_has (o : Nat) (gx1 : Nat) (gv : MG) : Option Nat :=
  (gif (gclt gx1 0) (some 0) (grd gv (Nat.succ o) 9 0 fun y1 => (gif (gcle y1 gx1) (some 0) (some 1))))
noncomputable def g_X5_hasLeftBy (o : Nat) (gx1 : Nat) (gx2 : Nat) (gv : MG) : Option Nat :=
  (gck (Nat.blt gx1 30) (grd gv (Nat.succ o) 0 gx1 fun y2 => (gif (gcle gx2 y2) (some 0) (some 1))))
noncomputable def g_X0_refusalToDismiss (o : Nat) (gx1 : Nat) (gv : MG) : Option Nat :=
  (gbd (g_X5_has o gx1 gv) fun gr_5 => (gif (gceq gr_5 0) (some 1) (grd gv (Nat.succ o) 10 0 fun y1 => (gbd (g_X5_hasLeftBy o gx1 y1 gv) fun gr_22 => (gif (gceq gr_22 0) (some 0) (some 3))))))
noncomputable def GL_X5_countInChoir_4 (o : Nat) (gx1 : Nat) (gv : MG) (gself4 : Nat → Nat → Option Nat) : Nat → Nat → Option Nat := fun gx2_4 gx3_4 =>
  (grd gv (Nat.succ o) 9 0 fun y1 => (gif (gcle y1 gx3_4) (some gx2_4) (gbd (g_X5_hasLeftBy o gx3_4 gx1 gv) fun gr_15 => (gif (gceq gr_15 0) (gsq (gadd gx2_4 1) fun y2 => (gsq (gadd gx3_4 1) fun y3 => (gself4 y2 y3))) (gsq (gadd gx3_4 1) fun y4 => (gself4 gx2_4 y4))))))
noncomputable def g_X5_countInChoir (o : Nat) (gx1 : Nat) (gv : MG) : Option Nat :=
  (glp (fun _ _ => none) (GL_X5_countInChoir_4 o gx1 gv) 8192 0 0)
noncomputable def g_X0_dismiss (o : Nat) (gx1 : Nat) (gv : MG) : Option (Nat × MG) :=
  (gck (Nat.blt gx1 30) (grd gv (Nat.succ o) 10 0 fun y2 => (gsq (gsub y2 1) fun y3 => (gwr gv (Nat.succ o) 0 gx1 y3 fun gw14_1 => (grd gw14_1 (Nat.succ o) 10 0 fun y4 => (gbd (g_X5_countInChoir o y4 gw14_1) fun gr_23 => (gsq gr_23 fun q => some (q, gw14_1))))))))
noncomputable def g_X6_leave (gx1 : Nat) (gv : MG) : Option (Nat × Nat × MG) :=
  (gbd (g_X0_refusalToDismiss 0 gx1 gv) fun gr_5 => (gtb (g_X6_refuseIf gr_5 gv) fun gr_8 gw_8 => (gbd (g_X6_keepState gw_8) fun gr_12 => (gbd (g_X0_dismiss 0 gx1 gr_12) fun gr_20 => (gsq gr_20.1 fun q => some (q, 0, gr_20.2))))))
noncomputable def g_X0_refusalToHire (o : Nat) (gx1 : Nat) (gx2 : Nat) (gx3 : Nat) (gx4 : Nat) (gx5 : Nat) (gx6 : Nat) (gv : MG) : Option Nat :=
  (gbd (g_X6_isWithin gx1 0 4 gv) fun gr_3 => (gif (gceq gr_3 0) (some 1) (gjn (fun (gs0_37 : Nat) => (gif (gceq gs0_37 0) (some 2) (gbd (g_X6_isHeightAndRange gx3 gx4 gx5 gv) fun gr_49 => (gif (gceq gr_49 0) (some 2) (gbd (g_X5_isFull o gv) fun gr_61 => (gif (gceq gr_61 0) (gck (Nat.blt gx1 5) (grd gv (Nat.succ o) 25 gx1 fun y2 => (gif (gclt 4294967293 y2) (some 0) (some 3)))) (some 3))))))) (fun gj37 => (gjn (fun (_u : Unit) => (gj37 0)) (fun gj36 => (gbd (g_X6_isWithin gx2 0 9 gv) fun gr_15 => (gif (gceq gr_15 0) (gj36 ()) (gbd (g_X6_isWithin gx6 1 90 gv) fun gr_26 => (gif (gceq gr_26 0) (gj36 ()) (gj37 1)))))))))))
noncomputable def g_X0_hire (o : Nat) (gx1 : Nat) (gx2 : Nat) (gx3 : Nat) (gx4 : Nat) (gx5 : Nat) (gx6 : Nat) (gv : MG) : Option (Nat × MG) :=
  (grd gv (Nat.succ o) 10 0 fun y1 => (gsq (gsub y1 10800) fun y2 => (gbd (g_X5_add o y2 gx3 gx4 gx5 gv) fun gr_17 => (gck (Nat.blt gr_17.1 30) (gwr gr_17.2 (Nat.succ o) 23 gr_17.1 gx1 fun gw32_1 => (gwr gw32_1 (Nat.succ o) 20 gr_17.1 gx2 fun gw43_2 => (grd gw43_2 (Nat.succ o) 10 0 fun y4 => (gsq (gadd y4 gx6) fun y5 => (gwr gw43_2 (Nat.succ o) 0 gr_17.1 y5 fun gw60_3 => (gck (Nat.blt gx1 5) (grd gw60_3 (Nat.succ o) 25 gx1 fun y7 => (gsq (gsub y7 1) fun y8 => (gwr gw60_3 (Nat.succ o) 25 gx1 y8 fun gw70_4 => (gsq gr_17.1 fun q => some (q, gw70_4)))))))))))))))
noncomputable def g_X6_borrow (gx1 : Nat) (gx2 : Nat) (gx3 : Nat) (gx4 : Nat) (gx5 : Nat) (gx6 : Nat) (gv : MG) : Option (Nat × Nat × MG) :=
  (gbd (g_X0_refusalToHire 0 gx1 gx2 gx3 gx4 gx5 gx6 gv) fun gr_13 => (gtb (g_X6_refuseIf gr_13 gv) fun gr_16 gw_16 => (gbd (g_X6_keepState gw_16) fun gr_20 => (gbd (g_X0_hire 0 gx1 gx2 gx3 gx4 gx5 gx6 gr_20) fun gr_36 => (gsq gr_36.1 fun q => some (q, 0, gr_36.2))))))
noncomputable def g_X5_isAwayOn (o : Nat) (gx1 : Nat) (gx2 : Nat) (gv : MG) : Option Nat :=
  (gck (Nat.blt gx1 30) (grd gv (Nat.succ o) 1 gx1 fun y2 => (gif (gclt y2 gx2) (some 0) (some 1))))
noncomputable def g_X0_refusalToSendAway (o : Nat) (gx1 : Nat) (gx2 : Nat) (gx3 : Nat) (gv : MG) : Option Nat :=
  (gbd (g_X5_has o gx1 gv) fun gr_5 => (gif (gceq gr_5 0) (some 1) (gbd (g_X6_isWithin gx2 0 4 gv) fun gr_14 => (gif (gceq gr_14 0) (some 1) (gbd (g_X6_isWithin gx3 1 90 gv) fun gr_26 => (gif (gceq gr_26 0) (some 2) (gjn (fun (gs0_69 : Nat) => (gif (gceq gs0_69 0) (some 3) (gck (Nat.blt gx1 30) (grd gv (Nat.succ o) 23 gx1 fun y2 => (gif (gceq y2 4294967295) (some 0) (some 3)))))) (fun gj69 => (gjn (fun (_u : Unit) => (gj69 0)) (fun gj68 => (grd gv (Nat.succ o) 10 0 fun y3 => (gbd (g_X5_hasLeftBy o gx1 y3 gv) fun gr_43 => (gif (gceq gr_43 0) (gbd (g_X5_isAwayOn o gx1 y3 gv) fun gr_58 => (gif (gceq gr_58 0) (gj69 1) (gj68 ()))) (gj68 ()))))))))))))))
noncomputable def g_X0_sendAway (o : Nat) (gx1 : Nat) (gx2 : Nat) (gx3 : Nat) (gv : MG) : Option (Nat × MG) :=
  (gck (Nat.blt gx1 30) (grd gv (Nat.succ o) 10 0 fun y2 => (gsq (gadd y2 gx3) fun y3 => (gwr gv (Nat.succ o) 1 gx1 y3 fun gw14_1 => (gck (Nat.blt gx2 5) (grd gw14_1 (Nat.succ o) 25 gx2 fun y5 => (gsq (gadd y5 1) fun y6 => (gwr gw14_1 (Nat.succ o) 25 gx2 y6 fun gw24_2 => (grd gw24_2 (Nat.succ o) 10 6 fun y7 => (gsq (gadd y7 (gmul 2 gx3)) fun y8 => (gwr gw24_2 (Nat.succ o) 10 6 y8 fun gw34_3 => (grd gw34_3 (Nat.succ o) 10 5 fun y9 => (gsq (gadd y9 (gmul 2 gx3)) fun y10 => (gwr gw34_3 (Nat.succ o) 10 5 y10 fun gw46_4 => (grd gw46_4 (Nat.succ o) 1 gx1 fun y11 => (gsq y11 fun q => some (q, gw46_4)))))))))))))))))
noncomputable def g_X6_lend (gx1 : Nat) (gx2 : Nat) (gx3 : Nat) (gv : MG) : Option (Nat × Nat × MG) :=
  (gbd (g_X0_refusalToSendAway 0 gx1 gx2 gx3 gv) fun gr_7 => (gtb (g_X6_refuseIf gr_7 gv) fun gr_10 gw_10 => (gbd (g_X6_keepState gw_10) fun gr_14 => (gbd (g_X0_sendAway 0 gx1 gx2 gx3 gr_14) fun gr_24 => (gsq gr_24.1 fun q => some (q, 0, gr_24.2))))))
noncomputable def g_X4_areFull (o : Nat) (gv : MG) : Option Nat :=
  (grd gv (Nat.succ o) 2 0 fun y1 => (gif (gclt y1 60) (some 0) (some 1)))
noncomputable def GL_X4_coverAnyOf_3 (o : Nat) (gx1 : Nat) (gx2 : Nat) (gx3 : Nat) (gv : MG) (gself3 : Nat → Option Nat) : Nat → Option Nat := fun gx4_3 =>
  (grd gv (Nat.succ o) 2 0 fun y1 => (gif (gcle y1 gx4_3) (some 0) (gck (Nat.blt gx4_3 60) (grd gv (Nat.succ o) 3 gx4_3 fun y3 => (gif (gceq y3 gx1) (grd gv (Nat.succ o) 4 gx4_3 fun y4 => (gif (gclt gx3 y4) (gsq (gadd gx4_3 1) fun y5 => (gself3 y5)) (grd gv (Nat.succ o) 5 gx4_3 fun y6 => (gif (gclt y6 gx2) (gsq (gadd gx4_3 1) fun y7 => (gself3 y7)) (some 1))))) (gsq (gadd gx4_3 1) fun y8 => (gself3 y8)))))))
noncomputable def g_X4_coverAnyOf (o : Nat) (gx1 : Nat) (gx2 : Nat) (gx3 : Nat) (gv : MG) : Option Nat :=
  (glp (fun _ => none) (GL_X4_coverAnyOf_3 o gx1 gx2 gx3 gv) 8192 0)
noncomputable def g_X0_refusalToTakeNote (o : Nat) (gx1 : Nat) (gx2 : Nat) (gx3 : Nat) (gv : MG) : Option Nat :=
  (gbd (g_X5_has o gx1 gv) fun gr_5 => (gif (gceq gr_5 0) (some 1) (grd gv (Nat.succ o) 10 0 fun y1 => (gsq (gadd y1 1) fun y2 => (gbd (g_X6_isWithin gx2 y2 9999 gv) fun gr_23 => (gif (gceq gr_23 0) (some 2) (gsq (gadd gx2 60) fun y3 => (gbd (g_X6_isWithin gx3 gx2 y3 gv) fun gr_35 => (gif (gceq gr_35 0) (some 2) (gjn (fun (gs0_71 : Nat) => (gif (gceq gs0_71 0) (some 3) (gbd (g_X5_hasLeftBy o gx1 y1 gv) fun gr_87 => (gif (gceq gr_87 0) (some 0) (some 3))))) (fun gj71 => (gjn (fun (_u : Unit) => (gj71 0)) (fun gj70 => (gbd (g_X4_areFull o gv) fun gr_47 => (gif (gceq gr_47 0) (gbd (g_X4_coverAnyOf o gx1 gx2 gx3 gv) fun gr_60 => (gif (gceq gr_60 0) (gj71 1) (gj70 ()))) (gj70 ()))))))))))))))))
noncomputable def GL_X4_add_46 (o : Nat) (gx1 : Nat) (gw37_4 : MG) (gself46 : Nat → Nat → Option (Nat × MG)) : Nat → Nat → Option (Nat × MG) := fun gx4_46 gx5_46 =>
  (grd gw37_4 (Nat.succ o) 2 0 fun y1 => (gif (gcle y1 gx5_46) (gsq gx4_46 fun q => some (q, gw37_4)) (gck (Nat.blt gx5_46 60) (grd gw37_4 (Nat.succ o) 3 gx5_46 fun y3 => (gif (gceq y3 gx1) (gsq (gadd gx4_46 1) fun y4 => (gsq (gadd gx5_46 1) fun y5 => (gself46 y4 y5))) (gsq (gadd gx5_46 1) fun y6 => (gself46 gx4_46 y6)))))))
noncomputable def g_X4_add (o : Nat) (gx1 : Nat) (gx2 : Nat) (gx3 : Nat) (gv : MG) : Option (Nat × MG) :=
  (grd gv (Nat.succ o) 2 0 fun y1 => (gck (Nat.blt y1 60) (gwr gv (Nat.succ o) 3 y1 gx1 fun gw9_1 => (grd gw9_1 (Nat.succ o) 2 0 fun y3 => (gck (Nat.blt y3 60) (gwr gw9_1 (Nat.succ o) 4 y3 gx2 fun gw19_2 => (grd gw19_2 (Nat.succ o) 2 0 fun y5 => (gck (Nat.blt y5 60) (gwr gw19_2 (Nat.succ o) 5 y5 gx3 fun gw29_3 => (grd gw29_3 (Nat.succ o) 2 0 fun y7 => (gsq (gadd y7 1) fun y8 => (gwr gw29_3 (Nat.succ o) 2 0 y8 fun gw37_4 => (glp (fun _ _ => none) (GL_X4_add_46 o gx1 gw37_4) 8192 0 0)))))))))))))
noncomputable def g_X0_takeNote (o : Nat) (gx1 : Nat) (gx2 : Nat) (gx3 : Nat) (gv : MG) : Option (Nat × MG) :=
  (gbd (g_X4_add o gx1 gx2 gx3 gv) fun gr_7 => (gsq gr_7.1 fun q => some (q, gr_7.2)))
noncomputable def g_X6_excuse (gx1 : Nat) (gx2 : Nat) (gx3 : Nat) (gv : MG) : Option (Nat × Nat × MG) :=
  (gbd (g_X0_refusalToTakeNote 0 gx1 gx2 gx3 gv) fun gr_7 => (gtb (g_X6_refuseIf gr_7 gv) fun gr_10 gw_10 => (gbd (g_X6_keepState gw_10) fun gr_14 => (gbd (g_X0_takeNote 0 gx1 gx2 gx3 gr_14) fun gr_24 => (gsq gr_24.1 fun q => some (q, 0, gr_24.2))))))
noncomputable def g_X1_isFull (o : Nat) (gv : MG) : Option Nat :=
  (grd gv (Nat.succ o) 11 0 fun y1 => (gif (gclt y1 20) (some 0) (some 1)))
noncomputable def GL_X1_hasFeastOn_2 (o : Nat) (gx1 : Nat) (gv : MG) (gself2 : Nat → Option Nat) : Nat → Option Nat := fun gx2_2 =>
  (grd gv (Nat.succ o) 11 0 fun y1 => (gif (gcle y1 gx2_2) (some 0) (gck (Nat.blt gx2_2 20) (grd gv (Nat.succ o) 12 gx2_2 fun y3 => (gif (gceq y3 gx1) (some 1) (gsq (gadd gx2_2 1) fun y4 => (gself2 y4)))))))
noncomputable def g_X1_hasFeastOn (o : Nat) (gx1 : Nat) (gv : MG) : Option Nat :=
  (glp (fun _ => none) (GL_X1_hasFeastOn_2 o gx1 gv) 8192 0)
noncomputable def g_X0_refusalToAddFeast (o : Nat) (gx1 : Nat) (gx2 : Nat) (gv : MG) : Option Nat :=
  (grd gv (Nat.succ o) 10 0 fun y1 => (gsq (gadd y1 1) fun y2 => (gbd (g_X6_isWithin gx1 y2 9999 gv) fun gr_10 => (gif (gceq gr_10 0) (some 2) (gbd (g_X6_isWithin gx2 1 3 gv) fun gr_19 => (gif (gceq gr_19 0) (some 2) (gbd (g_X1_isFull o gv) fun gr_31 => (gif (gceq gr_31 0) (gbd (g_X1_hasFeastOn o gx1 gv) fun gr_42 => (gif (gceq gr_42 0) (some 0) (some 3))) (some 3)))))))))
noncomputable def g_X1_add (o : Nat) (gx1 : Nat) (gx2 : Nat) (gv : MG) : Option (Nat × MG) :=
  (grd gv (Nat.succ o) 11 0 fun y1 => (gck (Nat.blt y1 20) (gwr gv (Nat.succ o) 12 y1 gx1 fun gw11_1 => (gwr gw11_1 (Nat.succ o) 16 y1 gx2 fun gw18_2 => (gfill 4 gw18_2 (Nat.succ o) 13 (Nat.mul 4 y1) 0 fun gr_26 => (gfill 4 gr_26 (Nat.succ o) 14 (Nat.mul 4 y1) 0 fun gr_36 => (gfill 4 gr_36 (Nat.succ o) 15 (Nat.mul 4 y1) 0 fun gr_46 => (grd gr_46 (Nat.succ o) 11 0 fun y3 => (gsq (gadd y3 1) fun y4 => (gwr gr_46 (Nat.succ o) 11 0 y4 fun gw56_3 => (gsq y1 fun q => some (q, gw56_3))))))))))))
noncomputable def g_X0_addFeast (o : Nat) (gx1 : Nat) (gx2 : Nat) (gv : MG) : Option (Nat × MG) :=
  (gbd (g_X1_add o gx1 gx2 gv) fun gr_6 => (gsq gr_6.1 fun q => some (q, gr_6.2)))
noncomputable def g_X6_announce (gx1 : Nat) (gx2 : Nat) (gv : MG) : Option (Nat × Nat × MG) :=
  (gbd (g_X0_refusalToAddFeast 0 gx1 gx2 gv) fun gr_6 => (gtb (g_X6_refuseIf gr_6 gv) fun gr_9 gw_9 => (gbd (g_X6_keepState gw_9) fun gr_13 => (gbd (g_X0_addFeast 0 gx1 gx2 gr_13) fun gr_22 => (gsq gr_22.1 fun q => some (q, 0, gr_22.2))))))
noncomputable def g_X1_has (o : Nat) (gx1 : Nat) (gv : MG) : Option Nat :=
  (gif (gclt gx1 0) (some 0) (grd gv (Nat.succ o) 11 0 fun y1 => (gif (gcle y1 gx1) (some 0) (some 1))))
noncomputable def g_X6_isLine (gx0 : Nat) (gv : MG) : Option Nat :=
  (gbd (g_X6_isWithin gx0 0 3 gv) fun gr_3 => (gck (Nat.ble gr_3 1) (some gr_3)))
noncomputable def g_X0_hasHeld (o : Nat) (gx1 : Nat) (gv : MG) : Option Nat :=
  (gck (Nat.blt gx1 20) (grd gv (Nat.succ o) 10 0 fun y2 => (grd gv (Nat.succ o) 12 gx1 fun y3 => (gif (gclt y2 y3) (some 0) (some 1)))))
noncomputable def g_X0_refusalToArrange (o : Nat) (gx1 : Nat) (gx2 : Nat) (gx3 : Nat) (gx4 : Nat) (gx5 : Nat) (gv : MG) : Option Nat :=
  (gbd (g_X1_has o gx1 gv) fun gr_5 => (gif (gceq gr_5 0) (some 1) (gbd (g_X6_isLine gx2 gv) fun gr_12 => (gif (gceq gr_12 0) (some 1) (gbd (g_X6_isWithin gx3 0 6 gv) fun gr_24 => (gif (gceq gr_24 0) (some 2) (gbd (g_X6_isRange gx4 gx5 gv) fun gr_34 => (gif (gceq gr_34 0) (some 2) (gbd (g_X0_hasHeld o gx1 gv) fun gr_44 => (gif (gceq gr_44 0) (some 0) (some 3)))))))))))
noncomputable def GL_X1_allPlaces_4 (o : Nat) (gx1 : Nat) (gv : MG) (gself4 : Nat → Nat → Option Nat) : Nat → Nat → Option Nat := fun gx2_4 gx3_4 =>
  (gif (gcle 4 gx3_4) (some gx2_4) (gck (Nat.blt gx1 20) (gck (Nat.blt gx3_4 4) (grd gv (Nat.succ o) 13 (Nat.add (Nat.mul 4 gx1) gx3_4) fun y3 => (gsq (gadd gx2_4 y3) fun y4 => (gsq (gadd gx3_4 1) fun y5 => (gself4 y4 y5)))))))
noncomputable def g_X1_allPlaces (o : Nat) (gx1 : Nat) (gv : MG) : Option Nat :=
  (glp (fun _ _ => none) (GL_X1_allPlaces_4 o gx1 gv) 8192 0 0)
noncomputable def g_X0_arrange (o : Nat) (gx1 : Nat) (gx2 : Nat) (gx3 : Nat) (gx4 : Nat) (gx5 : Nat) (gv : MG) : Option (Nat × MG) :=
  (gck (Nat.blt gx1 20) (gck (Nat.blt gx2 4) (gwr gv (Nat.succ o) 13 (Nat.add (Nat.mul 4 gx1) gx2) gx3 fun gw11_1 => (gwr gw11_1 (Nat.succ o) 14 (Nat.add (Nat.mul 4 gx1) gx2) gx4 fun gw24_2 => (gwr gw24_2 (Nat.succ o) 15 (Nat.add (Nat.mul 4 gx1) gx2) gx5 fun gw37_3 => (gbd (g_X1_allPlaces o gx1 gw37_3) fun gr_43 => (gsq gr_43 fun q => some (q, gw37_3))))))))
noncomputable def g_X6_setLine (gx1 : Nat) (gx2 : Nat) (gx3 : Nat) (gx4 : Nat) (gx5 : Nat) (gv : MG) : Option (Nat × Nat × MG) :=
  (gbd (g_X0_refusalToArrange 0 gx1 gx2 gx3 gx4 gx5 gv) fun gr_11 => (gtb (g_X6_refuseIf gr_11 gv) fun gr_14 gw_14 => (gbd (g_X6_keepState gw_14) fun gr_18 => (gbd (g_X0_arrange 0 gx1 gx2 gx3 gx4 gx5 gr_18) fun gr_32 => (gsq gr_32.1 fun q => some (q, 0, gr_32.2))))))
noncomputable def g_X0_refusalToAdvance (o : Nat) (gx1 : Nat) (gv : MG) : Option Nat :=
  (gbd (g_X6_isWithin gx1 1 99 gv) fun gr_4 => (gif (gceq gr_4 0) (some 2) (grd gv (Nat.succ o) 10 0 fun y1 => (gif (gcle (gadd y1 gx1) 9999) (some 0) (some 3)))))
noncomputable def GL_X1_nextAfter_4 (o : Nat) (gx1 : Nat) (gv : MG) (gself4 : Nat → Nat → Option Nat) : Nat → Nat → Option Nat := fun gx2_4 gx3_4 =>
  (grd gv (Nat.succ o) 11 0 fun y1 => (gif (gcle y1 gx3_4) (some gx2_4) (gck (Nat.blt gx3_4 20) (grd gv (Nat.succ o) 12 gx3_4 fun y3 => (gif (gcle y3 gx1) (gsq (gadd gx3_4 1) fun y4 => (gself4 gx2_4 y4)) (gif (gceq gx2_4 4294967295) (gsq (gadd gx3_4 1) fun y5 => (gself4 gx3_4 y5)) (gck (Nat.blt gx2_4 20) (grd gv (Nat.succ o) 12 gx2_4 fun y7 => (gif (gcle y7 y3) (gsq (gadd gx3_4 1) fun y8 => (gself4 gx2_4 y8)) (gsq (gadd gx3_4 1) fun y9 => (gself4 gx3_4 y9)))))))))))
noncomputable def g_X1_nextAfter (o : Nat) (gx1 : Nat) (gv : MG) : Option Nat :=
  (glp (fun _ _ => none) (GL_X1_nextAfter_4 o gx1 gv) 8192 4294967295 0)
noncomputable def g_X5_isBreakingOn (o : Nat) (gx1 : Nat) (gx2 : Nat) (gv : MG) : Option Nat :=
  (gck (Nat.blt gx1 30) (grd gv (Nat.succ o) 6 gx1 fun y2 => (gif (gceq y2 4294967295) (some 0) (gif (gclt gx2 y2) (some 0) (gif (gcle (gadd y2 90) gx2) (some 0) (some 1))))))
noncomputable def g_X0_hindrance (o : Nat) (gx1 : Nat) (gx2 : Nat) (gv : MG) : Option Nat :=
  (gbd (g_X5_hasLeftBy o gx1 gx2 gv) fun gr_6 => (gif (gceq gr_6 0) (gbd (g_X5_isAwayOn o gx1 gx2 gv) fun gr_20 => (gif (gceq gr_20 0) (gbd (g_X4_coverAnyOf o gx1 gx2 gx2 gv) fun gr_35 => (gif (gceq gr_35 0) (gbd (g_X5_isBreakingOn o gx1 gx2 gv) fun gr_49 => (gif (gceq gr_49 0) (some 0) (some 4))) (some 3))) (some 2))) (some 1)))
noncomputable def g_X5_noteOn (o : Nat) (gx1 : Nat) (gx2 : Nat) (gx3 : Nat) (gv : MG) : Option Nat :=
  (gck (Nat.blt gx1 30) (grd gv (Nat.succ o) 6 gx1 fun y2 => (gif (gceq y2 4294967295) (some gx3) (gif (gcle (gadd y2 90) gx2) (gif (gcle 12 gx3) (gsq (gsub gx3 12) fun q => some q) (some 0)) (some gx3)))))
noncomputable def g_X0_misfit (o : Nat) (gx1 : Nat) (gx2 : Nat) (gx3 : Nat) (gv : MG) : Option Nat :=
  (gck (Nat.blt gx1 20) (gck (Nat.blt gx3 4) (gck (Nat.blt gx2 30) (grd gv (Nat.succ o) 12 gx1 fun y4 => (grd gv (Nat.succ o) 7 gx2 fun y5 => (gbd (g_X5_noteOn o gx2 y4 y5 gv) fun gr_38 => (grd gv (Nat.succ o) 14 (Nat.add (Nat.mul 4 gx1) gx3) fun y6 => (gif (gcle gr_38 y6) (grd gv (Nat.succ o) 8 gx2 fun y7 => (gbd (g_X5_noteOn o gx2 y4 y7 gv) fun gr_73 => (grd gv (Nat.succ o) 15 (Nat.add (Nat.mul 4 gx1) gx3) fun y8 => (gif (gcle y8 gr_73) (some 0) (some 6))))) (some 5)))))))))
noncomputable def GL_X3_listWhoCanSing_43 (o : Nat) (gx2 : Nat) (gx3_2 : Nat) (gself2 : Nat → MG → Option MG) (gself43 : Nat → MG → Option MG) : Nat → MG → Option MG := fun gx4_43 gv_43 =>
  (gif (gcle 4 gx4_43) (gsq (gadd gx3_2 1) fun y1 => (gself2 y1 gv_43)) (gbd (g_X0_misfit o gx2 gx3_2 gx4_43 gv_43) fun gr_54 => (gif (gceq gr_54 0) (gck (Nat.blt gx3_2 30) (grd gv_43 0 1 gx3_2 fun y3 => (gck (Nat.blt gx4_43 4) (gsq (gor y3 (gbit gx4_43)) fun gy71_2 => (gwr gv_43 0 1 gx3_2 gy71_2 fun gw72_3 => (gsq (gadd gx4_43 1) fun y5 => (gself43 y5 gw72_3))))))) (gsq (gadd gx4_43 1) fun y6 => (gself43 y6 gv_43)))))
noncomputable def GL_X3_listWhoCanSing_2 (o : Nat) (gx2 : Nat) (gself2 : Nat → MG → Option MG) : Nat → MG → Option MG := fun gx3_2 gv_2 =>
  (grd gv_2 (Nat.succ o) 9 0 fun y1 => (gif (gcle y1 gx3_2) (some gv_2) (gck (Nat.blt gx3_2 30) (gwr gv_2 0 1 gx3_2 0 fun gw19_1 => (gck (Nat.blt gx2 20) (grd gw19_1 (Nat.succ o) 12 gx2 fun y4 => (gbd (g_X0_hindrance o gx3_2 y4 gw19_1) fun gr_31 => (gif (gceq gr_31 0) (glp (fun _ _ => none) (GL_X3_listWhoCanSing_43 o gx2 gx3_2 gself2) 8192 0 gw19_1) (gsq (gadd gx3_2 1) fun y5 => (gself2 y5 gw19_1))))))))))
noncomputable def g_X3_listWhoCanSing (o : Nat) (gx2 : Nat) (gv : MG) : Option MG :=
  (glp (fun _ _ => none) (GL_X3_listWhoCanSing_2 o gx2) 8192 0 gv)
noncomputable def GL_X3_countWhoCanSing_5 (gx1 : Nat) (gx2 : Nat) (gv : MG) (gself5 : Nat → Nat → Option Nat) : Nat → Nat → Option Nat := fun gx3_5 gx4_5 =>
  (gif (gcle gx2 gx4_5) (some gx3_5) (gck (Nat.blt gx4_5 30) (grd gv 0 1 gx4_5 fun y2 => (gif (gceq (gand y2 gx1) 0) (gsq (gadd gx4_5 1) fun y3 => (gself5 gx3_5 y3)) (gsq (gadd gx3_5 1) fun y4 => (gsq (gadd gx4_5 1) fun y5 => (gself5 y4 y5)))))))
noncomputable def g_X3_countWhoCanSing (gx1 : Nat) (gx2 : Nat) (gv : MG) : Option Nat :=
  (glp (fun _ _ => none) (GL_X3_countWhoCanSing_5 gx1 gx2 gv) 8192 0 0)
noncomputable def g_X3_contains (gx0 : Nat) (gx1 : Nat) (gv : MG) : Option Nat :=
  (gck (Nat.blt gx1 4) (gif (gceq (gand gx0 (gbit gx1)) 0) (some 0) (some 1)))
noncomputable def GL_X3_setBounds_22 (gx2_2 : Nat) (gself2 : Nat → MG → Option MG) (gself22 : Nat → MG → Option MG) : Nat → MG → Option MG := fun gx3_22 gv_22 =>
  (gif (gcle 4 gx3_22) (gsq (gadd gx2_2 1) fun y1 => (gself2 y1 gv_22)) (gbd (g_X3_contains gx2_2 gx3_22 gv_22) fun gr_29 => (gif (gceq gr_29 0) (gck (Nat.blt gx2_2 16) (gck (Nat.blt gx3_22 4) (grd gv_22 0 3 gx2_2 fun y4 => (grd gv_22 0 2 gx3_22 fun y5 => (gsq (gadd y4 y5) fun gy48_2 => (gwr gv_22 0 3 gx2_2 gy48_2 fun gw49_3 => (gsq (gadd gx3_22 1) fun y6 => (gself22 y6 gw49_3)))))))) (gsq (gadd gx3_22 1) fun y7 => (gself22 y7 gv_22)))))
noncomputable def GL_X3_setBounds_2 (gx1 : Nat) (gself2 : Nat → MG → Option MG) : Nat → MG → Option MG := fun gx2_2 gv_2 =>
  (gif (gcle 16 gx2_2) (some gv_2) (gbd (g_X3_countWhoCanSing gx2_2 gx1 gv_2) fun gr_16 => (gck (Nat.blt gx2_2 16) (gwr gv_2 0 3 gx2_2 gr_16 fun gw19_1 => (glp (fun _ _ => none) (GL_X3_setBounds_22 gx2_2 gself2) 8192 0 gw19_1)))))
noncomputable def g_X3_setBounds (gx1 : Nat) (gv : MG) : Option MG :=
  (glp (fun _ _ => none) (GL_X3_setBounds_2 gx1) 8192 0 gv)
noncomputable def GL_X3_leastBound_9 (gv : MG) (gself9 : Nat → Nat → Option Nat) : Nat → Nat → Option Nat := fun gx1_9 gx2_9 =>
  (gif (gcle 16 gx2_9) (some gx1_9) (gck (Nat.blt gx2_9 16) (grd gv 0 3 gx2_9 fun y2 => (gif (gcle gx1_9 y2) (gsq (gadd gx2_9 1) fun y3 => (gself9 gx1_9 y3)) (gsq (gadd gx2_9 1) fun y4 => (gself9 y2 y4))))))
noncomputable def g_X3_leastBound (gv : MG) : Option Nat :=
  (grd gv 0 3 0 fun y1 => (glp (fun _ _ => none) (GL_X3_leastBound_9 gv) 8192 y1 1))
noncomputable def g_X3_cost (gx0 : Nat) (gx1 : Nat) (gx2 : Nat) (gv : MG) : Option Nat :=
  (gjn (fun (gs0_11 : Nat) => (gif (gceq gx2 4294967295) (some gs0_11) (gck (Nat.blt gx2 4) (gif (gceq (gand gx0 (gbit gx2)) 0) (gsq (gadd gs0_11 1) fun q => some q) (some gs0_11))))) (fun gj11 => (gif (gceq (gand gx1 gx0) 0) (gj11 0) (gj11 1))))
noncomputable def GL_X3_keepsFillable_3 (gx1 : Nat) (gx2 : Nat) (gx3 : Nat) (gv : MG) (gself3 : Nat → Option Nat) : Nat → Option Nat := fun gx4_3 =>
  (gif (gcle 16 gx4_3) (some 1) (gck (Nat.blt gx4_3 16) (gbd (g_X3_cost gx4_3 gx1 gx2 gv) fun gr_21 => (grd gv 0 3 gx4_3 fun y2 => (gif (gcle (gsub gx3 1) (gsub y2 gr_21)) (gsq (gadd gx4_3 1) fun y3 => (gself3 y3)) (some 0))))))
noncomputable def g_X3_keepsFillable (gx1 : Nat) (gx2 : Nat) (gx3 : Nat) (gv : MG) : Option Nat :=
  (glp (fun _ => none) (GL_X3_keepsFillable_3 gx1 gx2 gx3 gv) 8192 0)
noncomputable def GL_X3_firstGoodLine_2 (gx1 : Nat) (gx2 : Nat) (gv : MG) (gself2 : Nat → Option Nat) : Nat → Option Nat := fun gx3_2 =>
  (gif (gcle 4 gx3_2) (some 4294967295) (gbd (g_X3_contains gx1 gx3_2 gv) fun gr_9 => (gif (gceq gr_9 0) (gsq (gadd gx3_2 1) fun y1 => (gself2 y1)) (gck (Nat.blt gx3_2 4) (grd gv 0 2 gx3_2 fun y3 => (gif (gcle y3 0) (gsq (gadd gx3_2 1) fun y4 => (gself2 y4)) (gbd (g_X3_keepsFillable gx1 gx3_2 gx2 gv) fun gr_28 => (gif (gceq gr_28 0) (gsq (gadd gx3_2 1) fun y5 => (gself2 y5)) (some gx3_2)))))))))
noncomputable def g_X3_firstGoodLine (gx1 : Nat) (gx2 : Nat) (gv : MG) : Option Nat :=
  (glp (fun _ => none) (GL_X3_firstGoodLine_2 gx1 gx2 gv) 8192 0)
noncomputable def GL_X3_strikeOut_2 (gx1 : Nat) (gx2 : Nat) (gself2 : Nat → MG → Option MG) : Nat → MG → Option MG := fun gx3_2 gv_2 =>
  (gif (gcle 16 gx3_2) (gif (gceq gx2 4294967295) (some gv_2) (gck (Nat.blt gx2 4) (grd gv_2 0 2 gx2 fun y2 => (gsq (gsub y2 1) fun y3 => (gwr gv_2 0 2 gx2 y3 fun gw43_1 => (some gw43_1)))))) (gck (Nat.blt gx3_2 16) (gbd (g_X3_cost gx3_2 gx1 gx2 gv_2) fun gr_18 => (grd gv_2 0 3 gx3_2 fun y5 => (gsq (gsub y5 gr_18) fun y6 => (gwr gv_2 0 3 gx3_2 y6 fun gw22_2 => (gsq (gadd gx3_2 1) fun y7 => (gself2 y7 gw22_2))))))))
noncomputable def g_X3_strikeOut (gx1 : Nat) (gx2 : Nat) (gv : MG) : Option MG :=
  (glp (fun _ _ => none) (GL_X3_strikeOut_2 gx1 gx2) 8192 0 gv)
noncomputable def GL_X3_make_52 (o : Nat) (gself52 : Nat → Nat → MG → Option MG) : Nat → Nat → MG → Option MG := fun gx3_52 gx4_52 gv_52 =>
  (grd gv_52 (Nat.succ o) 9 0 fun y1 => (gif (gcle y1 gx4_52) (some gv_52) (gck (Nat.blt gx4_52 30) (grd gv_52 0 1 gx4_52 fun y3 => (gbd (g_X3_firstGoodLine y3 gx3_52 gv_52) fun gr_73 => (gwr gv_52 0 0 gx4_52 gr_73 fun gw86_2 => (grd gw86_2 0 1 gx4_52 fun y4 => (gbd (g_X3_strikeOut y4 gr_73 gw86_2) fun gr_97 => (gif (gceq gr_73 4294967295) (gsq (gadd gx4_52 1) fun y5 => (gself52 gx3_52 y5 gr_97)) (gsq (gadd gx3_52 4294967295) fun y6 => (gsq (gadd gx4_52 1) fun y7 => (gself52 y6 y7 gr_97))))))))))))
noncomputable def g_X3_make (o : Nat) (gx2 : Nat) (gv : MG) : Option MG :=
  (gbd (g_X3_listWhoCanSing o gx2 gv) fun gr_3 => (gfill 30 gr_3 0 0 0 4294967295 fun gr_11 => (gck (Nat.blt gx2 20) (gck (Nat.ble 4 4) (gcp gr_11 0 2 0 (Nat.succ o) 13 (Nat.mul 4 gx2) 4 fun gw30_1 => (grd gw30_1 (Nat.succ o) 9 0 fun y3 => (gbd (g_X3_setBounds y3 gw30_1) fun gr_41 => (gbd (g_X3_leastBound gr_41) fun gr_45 => (glp (fun _ _ _ => none) (GL_X3_make_52 o) 8192 gr_45 0 gr_41)))))))))
noncomputable def g_X5_isOlder (o : Nat) (gx1 : Nat) (gx2 : Nat) (gv : MG) : Option Nat :=
  (gck (Nat.blt gx1 30) (gck (Nat.blt gx2 30) (grd gv (Nat.succ o) 22 gx2 fun y3 => (grd gv (Nat.succ o) 22 gx1 fun y4 => (gif (gcle y3 y4) (some 0) (some 1))))))
noncomputable def GL_X3_chooseDescant_5 (o : Nat) (gb_k2 gs_k2 : Nat) (gv : MG) (gself5 : Nat → Nat → Option Nat) : Nat → Nat → Option Nat := fun gx3_5 gx4_5 =>
  (grd gv (Nat.succ o) 9 0 fun y1 => (gif (gcle y1 gx4_5) (some gx3_5) (gck (Nat.blt gx4_5 30) (grd gv 0 0 gx4_5 fun y3 => (gif (gceq y3 0) (gif (gceq gx3_5 4294967295) (gsq (gadd gx4_5 1) fun y4 => (gself5 gx4_5 y4)) (gck (Nat.blt gx3_5 30) (grd gv gb_k2 gs_k2 gx4_5 fun y6 => (grd gv gb_k2 gs_k2 gx3_5 fun y7 => (gif (gclt y6 y7) (gsq (gadd gx4_5 1) fun y8 => (gself5 gx4_5 y8)) (gif (gceq y6 y7) (gbd (g_X5_isOlder o gx4_5 gx3_5 gv) fun gr_56 => (gif (gceq gr_56 0) (gsq (gadd gx4_5 1) fun y9 => (gself5 gx3_5 y9)) (gsq (gadd gx4_5 1) fun y10 => (gself5 gx4_5 y10)))) (gsq (gadd gx4_5 1) fun y11 => (gself5 gx3_5 y11)))))))) (gsq (gadd gx4_5 1) fun y12 => (gself5 gx3_5 y12)))))))
noncomputable def g_X3_chooseDescant (o : Nat) (gb_k2 gs_k2 : Nat) (gv : MG) : Option Nat :=
  (glp (fun _ _ => none) (GL_X3_chooseDescant_5 o gb_k2 gs_k2 gv) 8192 4294967295 0)
noncomputable def GL_X0_enterLineup_67 (o : Nat) (gself67 : Nat → MG → Option MG) : Nat → MG → Option MG := fun gx4_67 gv_67 =>
  (grd gv_67 (Nat.succ o) 9 0 fun y1 => (gif (gcle y1 gx4_67) (some gv_67) (gck (Nat.blt gx4_67 30) (grd gv_67 0 0 gx4_67 fun y3 => (gif (gceq y3 4294967295) (gsq (gadd gx4_67 1) fun y4 => (gself67 y4 gv_67)) (grd gv_67 (Nat.succ o) 18 gx4_67 fun y5 => (gsq (gadd y5 1) fun y6 => (gwr gv_67 (Nat.succ o) 18 gx4_67 y6 fun gw103_4 => (gsq (gadd gx4_67 1) fun y7 => (gself67 y7 gw103_4))))))))))
noncomputable def g_X0_enterLineup (o : Nat) (gx1 : Nat) (gv : MG) : Option MG :=
  (gjn (fun (gv_44 : MG) => (gck (Nat.blt gx1 20) (gck (Nat.ble 30 30) (gcp gv_44 (Nat.succ o) 24 (Nat.mul 30 gx1) 0 0 0 30 fun gw61_3 => (glp (fun _ _ => none) (GL_X0_enterLineup_67 o) 8192 0 gw61_3))))) (fun gj44 => (gbd (g_X3_chooseDescant o (Nat.succ o) 19 gv) fun gr_12 => (gck (Nat.blt gx1 20) (gwr gv (Nat.succ o) 17 gx1 gr_12 fun gw25_1 => (gif (gceq gr_12 4294967295) (gj44 gw25_1) (gck (Nat.blt gr_12 30) (grd gw25_1 (Nat.succ o) 19 gr_12 fun y5 => (gsq (gadd y5 1) fun y6 => (gwr gw25_1 (Nat.succ o) 19 gr_12 y6 fun gw43_2 => (gj44 gw43_2)))))))))))
noncomputable def GL_X3_countIn_4 (gx1 : Nat) (gv : MG) (gself4 : Nat → Nat → Option Nat) : Nat → Nat → Option Nat := fun gx2_4 gx3_4 =>
  (gif (gcle 30 gx3_4) (some gx2_4) (gck (Nat.blt gx3_4 30) (grd gv 0 0 gx3_4 fun y2 => (gif (gceq y2 gx1) (gsq (gadd gx2_4 1) fun y3 => (gsq (gadd gx3_4 1) fun y4 => (gself4 y3 y4))) (gsq (gadd gx3_4 1) fun y5 => (gself4 gx2_4 y5))))))
noncomputable def g_X3_countIn (gx1 : Nat) (gv : MG) : Option Nat :=
  (glp (fun _ _ => none) (GL_X3_countIn_4 gx1 gv) 8192 0 0)
noncomputable def g_X3_countAll (gv : MG) : Option Nat :=
  (gbd (g_X3_countIn 4294967295 gv) fun gr_4 => (gsq (gsub 30 gr_4) fun q => some q))
noncomputable def GL_X0_settleAccounts_5 (o : Nat) (gx1 : Nat) (gv : MG) (gself5 : Nat → Nat → Option MG) : Nat → Nat → Option MG := fun gx3_5 gx4_5 =>
  (grd gv (Nat.succ o) 9 0 fun y1 => (gif (gcle y1 gx4_5) (gck (Nat.blt gx1 20) (gbd (g_X3_countAll gv) fun gr_57 => (gbd (g_X1_allPlaces o gx1 gv) fun gr_77 => (gbd (g_X3_countAll gv) fun gr_81 => (grd gv (Nat.succ o) 10 7 fun y3 => (grd gv (Nat.succ o) 16 gx1 fun y4 => (gsq (gadd y3 (gmul y4 gr_57)) fun gy95_1 => (gwr gv (Nat.succ o) 10 7 gy95_1 fun gw96_2 => (grd gw96_2 (Nat.succ o) 10 8 fun y5 => (gsq (gadd y5 gx3_5) fun y6 => (gwr gw96_2 (Nat.succ o) 10 8 y6 fun gw106_3 => (grd gw106_3 (Nat.succ o) 10 9 fun y7 => (gsq (gadd y7 (gmul y4 (gsub gr_77 gr_81))) fun gy116_4 => (gwr gw106_3 (Nat.succ o) 10 9 gy116_4 fun gw117_5 => (gsq (gsub (gsub (gmul y4 gr_57) gx3_5) (gmul y4 (gsub gr_77 gr_81))) fun gy131_6 => (grd gw117_5 (Nat.succ o) 10 5 fun y8 => (gsq (gadd y8 gy131_6) fun y9 => (gwr gw117_5 (Nat.succ o) 10 5 y9 fun gw133_7 => (some gw133_7))))))))))))))))))) (gck (Nat.blt gx4_5 30) (grd gv 0 0 gx4_5 fun y11 => (gif (gceq y11 4294967295) (gsq (gadd gx4_5 1) fun y12 => (gself5 gx3_5 y12)) (grd gv (Nat.succ o) 20 gx4_5 fun y13 => (gsq (gadd gx3_5 y13) fun y14 => (gsq (gadd gx4_5 1) fun y15 => (gself5 y14 y15)))))))))
noncomputable def g_X0_settleAccounts (o : Nat) (gx1 : Nat) (gv : MG) : Option MG :=
  (glp (fun _ _ => none) (GL_X0_settleAccounts_5 o gx1 gv) 8192 0 0)
noncomputable def GL_X0_advance_26 (o : Nat) (gx1 : Nat) (gv : MG) (gself26 : Nat → Nat → Nat → MG → Option (Nat × MG)) : Nat → Nat → Nat → MG → Option (Nat × MG) := fun gx4_26 gx5_26 gx6_26 gv_26 =>
  (gif (gcle 20 gx6_26) (grd gv (Nat.succ o) 10 0 fun y1 => (gsq (gadd y1 gx1) fun y2 => (gwr gv_26 (Nat.succ o) 10 0 y2 fun gw112_1 => (gsq gx4_26 fun q => some (q, gw112_1))))) (gif (gceq gx5_26 4294967295) (grd gv (Nat.succ o) 10 0 fun y3 => (gsq (gadd y3 gx1) fun y4 => (gwr gv_26 (Nat.succ o) 10 0 y4 fun gw112_2 => (gsq gx4_26 fun q => some (q, gw112_2))))) (gck (Nat.blt gx5_26 20) (grd gv (Nat.succ o) 10 0 fun y6 => (grd gv_26 (Nat.succ o) 12 gx5_26 fun y7 => (gif (gclt (gadd y6 gx1) y7) (gsq (gadd y6 gx1) fun y8 => (gwr gv_26 (Nat.succ o) 10 0 y8 fun gw112_3 => (gsq gx4_26 fun q => some (q, gw112_3)))) (gwr gv_26 (Nat.succ o) 10 0 y7 fun gw64_4 => (gbd (g_X3_make o gx5_26 gw64_4) fun gr_71 => (gbd (g_X0_enterLineup o gx5_26 gr_71) fun gr_78 => (gbd (g_X0_settleAccounts o gx5_26 gr_78) fun gr_85 => (grd gr_85 (Nat.succ o) 10 0 fun y9 => (gbd (g_X1_nextAfter o y9 gr_85) fun gr_99 => (gsq (gadd gx4_26 1) fun y10 => (gsq (gadd gx6_26 1) fun y11 => (gself26 y10 gr_99 y11 gr_85)))))))))))))))
noncomputable def g_X0_advance (o : Nat) (gx1 : Nat) (gv : MG) : Option (Nat × MG) :=
  (grd gv (Nat.succ o) 10 0 fun y1 => (gbd (g_X1_nextAfter o y1 gv) fun gr_18 => (glp (fun _ _ _ _ => none) (GL_X0_advance_26 o gx1 gv) 8192 0 gr_18 0 gv)))
noncomputable def g_X6_passDays (gx1 : Nat) (gv : MG) : Option (Nat × Nat × MG) :=
  (gbd (g_X0_refusalToAdvance 0 gx1 gv) fun gr_5 => (gtb (g_X6_refuseIf gr_5 gv) fun gr_8 gw_8 => (gbd (g_X6_keepState gw_8) fun gr_12 => (gbd (g_X0_advance 0 gx1 gr_12) fun gr_24 => (gsq gr_24.1 fun q => some (q, 0, gr_24.2))))))
noncomputable def g_X2_isFull (gv : MG) : Option Nat :=
  (grd gv 0 7 1 fun y1 => (gif (gclt y1 80) (some 0) (some 1)))
noncomputable def g_X2_append (gx1 : Nat) (gv : MG) : Option (Nat × MG) :=
  (grd gv 0 7 1 fun y1 => (gck (Nat.blt y1 80) (gsq (gch gx1) fun y3 => (gwr gv 0 8 y1 y3 fun gw9_1 => (grd gw9_1 0 7 1 fun y4 => (gsq (gadd y4 1) fun y5 => (gwr gw9_1 0 7 1 y5 fun gw17_2 => (grd gw17_2 0 7 1 fun y6 => (gsq y6 fun q => some (q, gw17_2))))))))))
noncomputable def g_X6_type (gx1 : Nat) (gv : MG) : Option (Nat × Nat × MG) :=
  (gjn (fun (gs0_15 : Nat) => (gtb (g_X6_refuseIf gs0_15 gv) fun gr_15 gw_15 => (gbd (g_X2_append gx1 gw_15) fun gr_23 => (gsq gr_23.1 fun q => some (q, 0, gr_23.2))))) (fun gj15 => (gbd (g_X2_isFull gv) fun gr_4 => (gif (gceq gr_4 0) (gj15 0) (gj15 3)))))
noncomputable def g_X2_empty (gv : MG) : Option (Nat × MG) :=
  (gwr gv 0 7 1 0 fun gw7_1 => (grd gv 0 7 1 fun y1 => (gsq y1 fun q => some (q, gw7_1))))
noncomputable def g_X6_clearLetter (gv : MG) : Option (Nat × MG) :=
  (gbd (g_X2_empty gv) fun gr_4 => (gsq gr_4.1 fun q => some (q, gr_4.2)))
noncomputable def g_X2_goTo (gx1 : Nat) (gv : MG) : Option MG :=
  (gwr gv 0 7 2 gx1 fun gw2_1 => (some gw2_1))
noncomputable def g_X2_isAtEnd (gv : MG) : Option Nat :=
  (grd gv 0 7 2 fun y1 => (grd gv 0 7 1 fun y2 => (gif (gclt y1 y2) (some 0) (some 1))))
noncomputable def g_X2_stands (gx1 : Nat) (gv : MG) : Option Nat :=
  (grd gv 0 7 1 fun y1 => (grd gv 0 7 2 fun y2 => (gif (gcle y1 y2) (some 0) (gck (Nat.blt y2 80) (grd gv 0 8 y2 fun y4 => (gif (gceq y4 gx1) (some 1) (some 0)))))))
noncomputable def g_X2_skip (gx1 : Nat) (gv : MG) : Option (Nat × MG) :=
  (gbd (g_X2_stands gx1 gv) fun gr_2 => (gif (gceq gr_2 0) (gsq 0 fun q => some (q, gv)) (grd gv 0 7 2 fun y1 => (gsq (gadd y1 1) fun y2 => (gwr gv 0 7 2 y2 fun gw17_1 => (gsq 1 fun q => some (q, gw17_1)))))))
noncomputable def GL_X2_canBegin_22 (gx1 : Nat) (gx2 : Nat) (gself22 : Nat → Nat → Nat → Option Nat) : Nat → Nat → Nat → Option Nat := fun gx3_22 gx4_22 gx5_22 =>
  (gif (gcle 4 gx5_22) (some 0) (gif (gclt gx2 gx3_22) (some 0) (gif (gclt gx4_22 gx1) (gsq (gmul gx3_22 10) fun y1 => (gsq (gadd (gmul gx4_22 10) 9) fun y2 => (gsq (gadd gx5_22 1) fun y3 => (gself22 y1 y2 y3)))) (some 1))))
noncomputable def g_X2_canBegin (gx0 : Nat) (gx1 : Nat) (gx2 : Nat) (gv : MG) : Option Nat :=
  (gif (gceq gx0 0) (gif (gceq gx1 0) (some 1) (some 0)) (glp (fun _ _ _ => none) (GL_X2_canBegin_22 gx1 gx2) 8192 gx0 gx0 0))
noncomputable def GL_X2_readNumber_7 (gx1 : Nat) (gx2 : Nat) (gself7 : Nat → MG → Option (Nat × MG)) : Nat → MG → Option (Nat × MG) := fun gx3_7 gv_7 =>
  (gjn (fun (_u : Unit) => (gif (gcle gx3_7 0) (gsq 0 fun q => some (q, gv_7)) (grd gv_7 0 7 5 fun y1 => (gbd (g_X6_isWithin y1 gx1 gx2 gv_7) fun gr_126 => (gif (gceq gr_126 0) (gsq 0 fun q => some (q, gv_7)) (gsq 1 fun q => some (q, gv_7))))))) (fun gj116 => (grd gv_7 0 7 1 fun y2 => (grd gv_7 0 7 2 fun y3 => (gif (gcle y2 y3) (gj116 ()) (gck (Nat.blt y3 80) (grd gv_7 0 8 y3 fun y5 => (gbd (g_X6_isWithin y5 48 57 gv_7) fun gr_31 => (gif (gceq gr_31 0) (gj116 ()) (gjn (fun (gx4_75 : Nat) (gs0_75 : Nat) => (gif (gceq gs0_75 0) (gbd (g_X2_canBegin gx4_75 gx1 gx2 gv_7) fun gr_86 => (gif (gceq gr_86 0) (gsq 0 fun q => some (q, gv_7)) (gwr gv_7 0 7 5 gx4_75 fun gw97_3 => (grd gw97_3 0 7 2 fun y6 => (gsq (gadd y6 1) fun y7 => (gwr gw97_3 0 7 2 y7 fun gw110_4 => (gsq (gadd gx3_7 1) fun y8 => (gself7 y8 gw110_4)))))))) (gsq 0 fun q => some (q, gv_7)))) (fun gj75 => (gjn (fun (gx4_74 : Nat) => (gj75 gx4_74 0)) (fun gj74 => (grd gv_7 0 7 5 fun y9 => (gsq (gadd (gmul y9 10) y5) fun gy53_2 => (gif (gcle gx3_7 0) (gsq (gsub gy53_2 48) fun y10 => (gj74 y10)) (gif (gceq y9 0) (gsq (gsub gy53_2 48) fun y11 => (gj75 y11 1)) (gsq (gsub gy53_2 48) fun y12 => (gj74 y12)))))))))))))))))))
noncomputable def g_X2_readNumber (gx1 : Nat) (gx2 : Nat) (gv : MG) : Option (Nat × MG) :=
  (gwr gv 0 7 5 0 fun gw2_1 => (glp (fun _ _ => none) (GL_X2_readNumber_7 gx1 gx2) 8192 0 gw2_1))
noncomputable def GL_X2_readOrder_49 (gw26_2 : MG) (gself49 : Nat → MG → Option (Nat × MG)) : Nat → MG → Option (Nat × MG) := fun gx2_49 gv_49 =>
  (grd gv_49 0 7 3 fun y1 => (gsq (gadd y1 1) fun y2 => (gck (Nat.blt y2 8) (gsq (gT_FP y2) fun gy59_3 => (gif (gcle gy59_3 gx2_49) (gsq 1 fun q => some (q, gv_49)) (gjn (fun (gv_121 : MG) => (grd gw26_2 0 7 3 fun y4 => (gck (Nat.blt y4 2147483648) (gsq (gsub gx2_49 (gT_FP y4)) fun y6 => (gck (Nat.blt y6 5) (grd gv_121 0 7 5 fun y8 => (gwr gv_121 0 9 y6 y8 fun gw132_5 => (gsq (gadd gx2_49 1) fun y9 => (gself49 y9 gw132_5))))))))) (fun gj121 => (gjn (fun (_u : Unit) => (gck (Nat.blt gx2_49 20) (gsq (gPS gx2_49) fun y11 => (gbd (g_X2_skip y11 gv_49) fun gr_96 => (gif (gceq gr_96.1 0) (gsq 0 fun q => some (q, gr_96.2)) (gsq (gT_LN gx2_49) fun y12 => (gsq (gT_GN gx2_49) fun y13 => (gbd (g_X2_readNumber y12 y13 gr_96.2) fun gr_113 => (gif (gceq gr_113.1 0) (gsq 0 fun q => some (q, gr_113.2)) (gj121 gr_113.2)))))))))) (fun gj89 => (gif (gceq gx2_49 4) (gck (Nat.blt gx2_49 20) (gsq (gPS gx2_49) fun y15 => (gbd (g_X2_stands y15 gv_49) fun gr_75 => (gif (gceq gr_75 0) (gwr gv_49 0 7 5 0 fun gw83_4 => (gj121 gw83_4)) (gj89 ()))))) (gj89 ())))))))))))
noncomputable def g_X2_readOrder (gv : MG) : Option (Nat × MG) :=
  (gjn (fun (gs0_26 : Nat) => (gwr gv 0 7 3 gs0_26 fun gw26_2 => (grd gw26_2 0 7 3 fun y1 => (gif (gcle 0 y1) (gck (Nat.blt y1 8) (gsq (gT_FP y1) fun y3 => (glp (fun _ _ => none) (GL_X2_readOrder_49 gw26_2) 8192 y3 gw26_2))) (gsq 0 fun q => some (q, gw26_2)))))) (fun gj26 => (gbd (g_X2_isAtEnd gv) fun gr_2 => (gif (gceq gr_2 0) (grd gv 0 7 2 fun y4 => (gck (Nat.blt y4 80) (grd gv 0 8 y4 fun y6 => (gsq (gsix y6 gOS 0) fun gy23_1 => (gj26 gy23_1))))) (gj26 4294967295)))))
noncomputable def GL_X2_findError_7 (gself7 : Nat → MG → Option (Nat × MG)) : Nat → MG → Option (Nat × MG) := fun gx1_7 gv_7 =>
  (gif (gcle 80 gx1_7) (grd gv_7 0 7 2 fun y1 => (gsq y1 fun q => some (q, gv_7))) (gbd (g_X2_readOrder gv_7) fun gr_14 => (gif (gceq gr_14.1 0) (grd gr_14.2 0 7 2 fun y2 => (gsq y2 fun q => some (q, gr_14.2))) (gbd (g_X2_isAtEnd gr_14.2) fun gr_26 => (gif (gceq gr_26 0) (gbd (g_X2_skip 59 gr_14.2) fun gr_37 => (gif (gceq gr_37.1 0) (grd gr_37.2 0 7 2 fun y3 => (gsq y3 fun q => some (q, gr_37.2))) (gsq (gadd gx1_7 1) fun y4 => (gself7 y4 gr_37.2)))) (gsq 4294967295 fun q => some (q, gr_14.2)))))))
noncomputable def g_X2_findError (gv : MG) : Option (Nat × MG) :=
  (gbd (g_X2_goTo 0 gv) fun gr_2 => (glp (fun _ _ => none) GL_X2_findError_7 8192 0 gr_2))
noncomputable def g_X6_letterError (gv : MG) : Option (Nat × MG) :=
  (gbd (g_X2_findError gv) fun gr_4 => (gsq gr_4.1 fun q => some (q, gr_4.2)))
noncomputable def g_X6_refusalOf (gx1 : Nat) (gv : MG) : Option Nat :=
  (gswt gx1 [(grd gv 0 9 0 fun y1 => (grd gv 0 9 1 fun y2 => (grd gv 0 9 2 fun y3 => (grd gv 0 9 3 fun y4 => (grd gv 0 9 4 fun y5 => (gbd (g_X0_refusalToEnrol 1 y1 y2 y3 y4 y5 gv) fun gr_63 => (some gr_63))))))), (grd gv 0 9 0 fun y6 => (grd gv 0 9 1 fun y7 => (gbd (g_X0_refusalToAddFeast 1 y6 y7 gv) fun gr_77 => (some gr_77)))), (grd gv 0 9 0 fun y8 => (grd gv 0 9 1 fun y9 => (grd gv 0 9 2 fun y10 => (grd gv 0 9 3 fun y11 => (grd gv 0 9 4 fun y12 => (gbd (g_X0_refusalToArrange 1 y8 y9 y10 y11 y12 gv) fun gr_100 => (some gr_100))))))), (grd gv 0 9 0 fun y13 => (grd gv 0 9 1 fun y14 => (grd gv 0 9 2 fun y15 => (gbd (g_X0_refusalToTakeNote 1 y13 y14 y15 gv) fun gr_117 => (some gr_117))))), (grd gv 0 9 0 fun y16 => (grd gv 0 9 1 fun y17 => (grd gv 0 9 2 fun y18 => (gbd (g_X0_refusalToSendAway 1 y16 y17 y18 gv) fun gr_134 => (some gr_134))))), (grd gv 0 9 0 fun y19 => (gbd (g_X0_refusalToDismiss 1 y19 gv) fun gr_145 => (some gr_145))), (grd gv 0 9 0 fun y20 => (gbd (g_X0_refusalToAdvance 1 y20 gv) fun gr_156 => (some gr_156)))] (some 3))
noncomputable def g_X6_obey (gx1 : Nat) (gv : MG) : Option MG :=
  (gswt gx1 [(grd gv 0 9 0 fun y1 => (grd gv 0 9 1 fun y2 => (grd gv 0 9 2 fun y3 => (grd gv 0 9 3 fun y4 => (grd gv 0 9 4 fun y5 => (gbd (g_X0_enrol 1 y1 y2 y3 y4 y5 gv) fun gr_63 => (some gr_63.2))))))), (grd gv 0 9 0 fun y6 => (grd gv 0 9 1 fun y7 => (gbd (g_X0_addFeast 1 y6 y7 gv) fun gr_80 => (some gr_80.2)))), (grd gv 0 9 0 fun y8 => (grd gv 0 9 1 fun y9 => (grd gv 0 9 2 fun y10 => (grd gv 0 9 3 fun y11 => (grd gv 0 9 4 fun y12 => (gbd (g_X0_arrange 1 y8 y9 y10 y11 y12 gv) fun gr_106 => (some gr_106.2))))))), (grd gv 0 9 0 fun y13 => (grd gv 0 9 1 fun y14 => (grd gv 0 9 2 fun y15 => (gbd (g_X0_takeNote 1 y13 y14 y15 gv) fun gr_126 => (some gr_126.2))))), (grd gv 0 9 0 fun y16 => (grd gv 0 9 1 fun y17 => (grd gv 0 9 2 fun y18 => (gbd (g_X0_sendAway 1 y16 y17 y18 gv) fun gr_146 => (some gr_146.2))))), (grd gv 0 9 0 fun y19 => (gbd (g_X0_dismiss 1 y19 gv) fun gr_160 => (some gr_160.2))), (grd gv 0 9 0 fun y20 => (gbd (g_X0_advance 1 y20 gv) fun gr_178 => (some gr_178.2)))] (some gv))
noncomputable def GL_X6_tryOrders_21 (gself21 : Nat → MG → Option (Nat × MG)) : Nat → MG → Option (Nat × MG) := fun gx1_21 gv_21 =>
  (gif (gcle 80 gx1_21) (gsq 4294967295 fun q => some (q, gv_21)) (gbd (g_X2_isAtEnd gv_21) fun gr_31 => (gif (gceq gr_31 0) (gbd (g_X2_readOrder gv_21) fun gr_41 => (gif (gceq gr_41.1 0) (gsq gx1_21 fun q => some (q, gr_41.2)) (grd gr_41.2 0 7 3 fun y1 => (gbd (g_X6_refusalOf y1 gr_41.2) fun gr_62 => (gif (gceq gr_62 0) (gbd (g_X6_obey y1 gr_41.2) fun gr_85 => (grd gr_85 0 7 2 fun y2 => (gsq (gadd y2 1) fun y3 => (gbd (g_X2_goTo y3 gr_85) fun gr_101 => (gsq (gadd gx1_21 1) fun y4 => (gself21 y4 gr_101)))))) (gsq gx1_21 fun q => some (q, gr_41.2))))))) (gsq 4294967295 fun q => some (q, gv_21)))))
noncomputable def g_X6_tryOrders (gv : MG) : Option (Nat × MG) :=
  (gbd (g_X0_copyFrom 1 0 gv) fun gr_8 => (gbd (g_X2_goTo 0 gr_8) fun gr_16 => (glp (fun _ _ => none) GL_X6_tryOrders_21 8192 0 gr_16)))
noncomputable def g_X6_impossibleOrder (gv : MG) : Option (Nat × Nat × MG) :=
  (gjn (fun (gs0_16 : Nat) (gv_16 : MG) => (gtb (g_X6_refuseIf gs0_16 gv_16) fun gr_16 gw_16 => (gbd (g_X6_tryOrders gw_16) fun gr_20 => (gsq gr_20.1 fun q => some (q, 0, gr_20.2))))) (fun gj16 => (gbd (g_X2_findError gv) fun gr_4 => (gif (gceq gr_4.1 4294967295) (gj16 0 gr_4.2) (gj16 3 gr_4.2)))))
noncomputable def GL_X2_countOrders_4 (gv : MG) (gself4 : Nat → Nat → Option Nat) : Nat → Nat → Option Nat := fun gx1_4 gx2_4 =>
  (grd gv 0 7 1 fun y1 => (gif (gcle y1 gx2_4) (some gx1_4) (gck (Nat.blt gx2_4 80) (grd gv 0 8 gx2_4 fun y3 => (gif (gceq y3 59) (gsq (gadd gx1_4 1) fun y4 => (gsq (gadd gx2_4 1) fun y5 => (gself4 y4 y5))) (gsq (gadd gx2_4 1) fun y6 => (gself4 gx1_4 y6)))))))
noncomputable def g_X2_countOrders (gv : MG) : Option Nat :=
  (glp (fun _ _ => none) (GL_X2_countOrders_4 gv) 8192 1 0)
noncomputable def g_X6_carryOut (gv : MG) : Option (Nat × Nat × MG) :=
  (gjn (fun (gs0_24 : Nat) (gv_24 : MG) => (gjn (fun (gs0_34 : Nat) => (gtb (g_X6_refuseIf gs0_34 gv_24) fun gr_34 gw_34 => (gbd (g_X6_keepState gw_34) fun gr_38 => (gbd (g_X0_copyFrom 0 1 gr_38) fun gr_49 => (gbd (g_X2_countOrders gr_49) fun gr_56 => (gsq gr_56 fun q => some (q, 0, gr_49))))))) (fun gj34 => (gif (gceq gs0_24 0) (gj34 3) (gj34 0))))) (fun gj24 => (gjn (fun (gv_23 : MG) => (gj24 0 gv_23)) (fun gj23 => (gbd (g_X2_findError gv) fun gr_4 => (gif (gceq gr_4.1 4294967295) (gbd (g_X6_tryOrders gr_4.2) fun gr_12 => (gif (gceq gr_12.1 4294967295) (gj24 1 gr_12.2) (gj23 gr_12.2))) (gj23 gr_4.2)))))))
noncomputable def g_X6_undo (gv : MG) : Option (Nat × Nat × MG) :=
  (gjn (fun (gs0_12 : Nat) => (gtb (g_X6_refuseIf gs0_12 gv) fun gr_12 gw_12 => (grd gw_12 0 5 5 fun y1 => (gsq (gsub y1 1) fun y2 => (gwr gw_12 0 5 5 y2 fun gw22_1 => (grd gw22_1 0 5 5 fun y3 => (gck (Nat.blt y3 4) (grd gw22_1 0 6 y3 fun y5 => (gck (Nat.blt y5 7) (gbd (g_X0_copyFrom 0 y5 gw22_1) fun gr_38 => (grd gr_38 0 5 5 fun y7 => (gsq y7 fun q => some (q, 0, gr_38))))))))))))) (fun gj12 => (grd gv 0 5 5 fun y8 => (gif (gcle y8 0) (gj12 3) (gj12 0)))))
noncomputable def g_X6_takeSnapshot (gv : MG) : Option (Nat × MG) :=
  (gbd (g_X0_copyFrom 2 0 gv) fun gr_8 => (gwr gr_8 0 5 3 1 fun gw13_1 => (grd gw13_1 1 10 0 fun y1 => (gsq y1 fun q => some (q, gw13_1)))))
noncomputable def g_X6_restoreSnapshot (gv : MG) : Option (Nat × Nat × MG) :=
  (gjn (fun (gs0_12 : Nat) => (gtb (g_X6_refuseIf gs0_12 gv) fun gr_12 gw_12 => (gbd (g_X6_keepState gw_12) fun gr_16 => (gbd (g_X0_copyFrom 0 2 gr_16) fun gr_27 => (grd gr_27 1 10 0 fun y1 => (gsq y1 fun q => some (q, 0, gr_27))))))) (fun gj12 => (grd gv 0 5 3 fun y2 => (gif (gceq y2 0) (gj12 3) (gj12 0)))))
noncomputable def g_X6_singers (gv : MG) : Option Nat :=
  (grd gv 1 9 0 fun y1 => (some y1))
noncomputable def g_X6_requireSinger (gx1 : Nat) (gv : MG) : Option (Nat × Nat × MG) :=
  (gjn (fun (gs0_19 : Nat) => (gtb (g_X6_refuseIf gs0_19 gv) fun gr_19 gw_19 => (gsq 0 fun q => some (q, 0, gw_19)))) (fun gj19 => (gbd (g_X5_has 0 gx1 gv) fun gr_8 => (gif (gceq gr_8 0) (gj19 1) (gj19 0)))))
noncomputable def g_X6_isInChoir (gx1 : Nat) (gv : MG) : Option (Nat × Nat × MG) :=
  (gtb (g_X6_requireSinger gx1 gv) fun gr_2 gw_2 => (grd gw_2 1 10 0 fun y1 => (gbd (g_X5_hasLeftBy 0 gx1 y1 gw_2) fun gr_20 => (gif (gceq gr_20 0) (gsq 1 fun q => some (q, 0, gw_2)) (gsq 0 fun q => some (q, 0, gw_2))))))
noncomputable def g_X6_ageOf (gx1 : Nat) (gv : MG) : Option (Nat × Nat × MG) :=
  (gtb (g_X6_requireSinger gx1 gv) fun gr_2 gw_2 => (gck (Nat.blt gx1 30) (grd gw_2 1 10 0 fun y2 => (grd gw_2 1 22 gx1 fun y3 => (gsq (gsub y2 y3) fun gy24_1 => (gck (Nat.blt gy24_1 2147483648) (gsq (gdiv gy24_1 360) fun q => some (q, 0, gw_2))))))))
noncomputable def g_X6_lowestNoteOf (gx1 : Nat) (gv : MG) : Option (Nat × Nat × MG) :=
  (gtb (g_X6_requireSinger gx1 gv) fun gr_2 gw_2 => (gck (Nat.blt gx1 30) (grd gw_2 1 10 0 fun y2 => (grd gw_2 1 7 gx1 fun y3 => (gbd (g_X5_noteOn 0 gx1 y2 y3 gw_2) fun gr_32 => (gsq gr_32 fun q => some (q, 0, gw_2)))))))
noncomputable def g_X6_highestNoteOf (gx1 : Nat) (gv : MG) : Option (Nat × Nat × MG) :=
  (gtb (g_X6_requireSinger gx1 gv) fun gr_2 gw_2 => (gck (Nat.blt gx1 30) (grd gw_2 1 10 0 fun y2 => (grd gw_2 1 8 gx1 fun y3 => (gbd (g_X5_noteOn 0 gx1 y2 y3 gw_2) fun gr_32 => (gsq gr_32 fun q => some (q, 0, gw_2)))))))
noncomputable def g_X6_breakDayOf (gx1 : Nat) (gv : MG) : Option (Nat × Nat × MG) :=
  (gtb (g_X6_requireSinger gx1 gv) fun gr_2 gw_2 => (gck (Nat.blt gx1 30) (grd gw_2 1 6 gx1 fun y2 => (gsq y2 fun q => some (q, 0, gw_2)))))
noncomputable def GL_X5_nextBreakingAfter_4 (o : Nat) (gx1 : Nat) (gv : MG) (gself4 : Nat → Nat → Option Nat) : Nat → Nat → Option Nat := fun gx2_4 gx3_4 =>
  (grd gv (Nat.succ o) 9 0 fun y1 => (gif (gcle y1 gx3_4) (some gx2_4) (gjn (fun (gs0_36 : Nat) => (gif (gceq gs0_36 0) (gsq (gadd gx3_4 1) fun y2 => (gself4 gx2_4 y2)) (gif (gceq gx2_4 4294967295) (gsq (gadd gx3_4 1) fun y3 => (gself4 gx3_4 y3)) (gck (Nat.blt gx3_4 30) (gck (Nat.blt gx2_4 30) (grd gv (Nat.succ o) 6 gx2_4 fun y6 => (grd gv (Nat.succ o) 6 gx3_4 fun y7 => (gif (gcle y6 y7) (gsq (gadd gx3_4 1) fun y8 => (gself4 gx2_4 y8)) (gsq (gadd gx3_4 1) fun y9 => (gself4 gx3_4 y9)))))))))) (fun gj36 => (gjn (fun (_u : Unit) => (gj36 0)) (fun gj35 => (gck (Nat.blt gx3_4 30) (grd gv (Nat.succ o) 6 gx3_4 fun y11 => (gif (gcle y11 gx1) (gj35 ()) (gbd (g_X5_hasLeftBy o gx3_4 gx1 gv) fun gr_25 => (gif (gceq gr_25 0) (gj36 1) (gj35 ()))))))))))))
noncomputable def g_X5_nextBreakingAfter (o : Nat) (gx1 : Nat) (gv : MG) : Option Nat :=
  (glp (fun _ _ => none) (GL_X5_nextBreakingAfter_4 o gx1 gv) 8192 4294967295 0)
noncomputable def g_X6_nextToBreak (gv : MG) : Option Nat :=
  (grd gv 1 10 0 fun y1 => (gbd (g_X5_nextBreakingAfter 0 y1 gv) fun gr_14 => (some gr_14)))
noncomputable def g_X6_choirOf (gx1 : Nat) (gv : MG) : Option (Nat × Nat × MG) :=
  (gtb (g_X6_requireSinger gx1 gv) fun gr_2 gw_2 => (gck (Nat.blt gx1 30) (grd gw_2 1 23 gx1 fun y2 => (gsq y2 fun q => some (q, 0, gw_2)))))
noncomputable def g_X6_awayUntil (gx1 : Nat) (gv : MG) : Option (Nat × Nat × MG) :=
  (gtb (g_X6_requireSinger gx1 gv) fun gr_2 gw_2 => (grd gw_2 1 10 0 fun y1 => (gbd (g_X5_isAwayOn 0 gx1 y1 gw_2) fun gr_20 => (gif (gceq gr_20 0) (gsq 4294967295 fun q => some (q, 0, gw_2)) (gck (Nat.blt gx1 30) (grd gw_2 1 1 gx1 fun y3 => (gsq y3 fun q => some (q, 0, gw_2))))))))
noncomputable def g_X6_isExcused (gx1 : Nat) (gx2 : Nat) (gv : MG) : Option (Nat × Nat × MG) :=
  (gjn (fun (gs0_21 : Nat) => (gtb (g_X6_refuseIf gs0_21 gv) fun gr_21 gw_21 => (gbd (g_X4_coverAnyOf 0 gx1 gx2 gx2 gw_21) fun gr_34 => (gck (Nat.ble gr_34 1) (gsq gr_34 fun q => some (q, 0, gw_21)))))) (fun gj21 => (gtb (g_X6_requireSinger gx1 gv) fun gr_2 gw_2 => (gbd (g_X6_isWithin gx2 0 9999 gw_2) fun gr_10 => (gif (gceq gr_10 0) (gj21 2) (gj21 0))))))
noncomputable def g_X6_feastsOf (gx1 : Nat) (gv : MG) : Option (Nat × Nat × MG) :=
  (gtb (g_X6_requireSinger gx1 gv) fun gr_2 gw_2 => (gck (Nat.blt gx1 30) (grd gw_2 1 18 gx1 fun y2 => (gsq y2 fun q => some (q, 0, gw_2)))))
noncomputable def g_X6_descantsOf (gx1 : Nat) (gv : MG) : Option (Nat × Nat × MG) :=
  (gtb (g_X6_requireSinger gx1 gv) fun gr_2 gw_2 => (gck (Nat.blt gx1 30) (grd gw_2 1 19 gx1 fun y2 => (gsq y2 fun q => some (q, 0, gw_2)))))
noncomputable def g_X6_feasts (gv : MG) : Option Nat :=
  (grd gv 1 11 0 fun y1 => (some y1))
noncomputable def g_X6_requireFeast (gx1 : Nat) (gv : MG) : Option (Nat × Nat × MG) :=
  (gjn (fun (gs0_19 : Nat) => (gtb (g_X6_refuseIf gs0_19 gv) fun gr_19 gw_19 => (gsq 0 fun q => some (q, 0, gw_19)))) (fun gj19 => (gbd (g_X1_has 0 gx1 gv) fun gr_8 => (gif (gceq gr_8 0) (gj19 1) (gj19 0)))))
noncomputable def g_X6_dayOf (gx1 : Nat) (gv : MG) : Option (Nat × Nat × MG) :=
  (gtb (g_X6_requireFeast gx1 gv) fun gr_2 gw_2 => (gck (Nat.blt gx1 20) (grd gw_2 1 12 gx1 fun y2 => (gsq y2 fun q => some (q, 0, gw_2)))))
noncomputable def g_X6_isHeld (gx1 : Nat) (gv : MG) : Option (Nat × Nat × MG) :=
  (gtb (g_X6_requireFeast gx1 gv) fun gr_2 gw_2 => (gbd (g_X0_hasHeld 0 gx1 gw_2) fun gr_10 => (gck (Nat.ble gr_10 1) (gsq gr_10 fun q => some (q, 0, gw_2)))))
noncomputable def g_X6_requireLine (gx0 : Nat) (gv : MG) : Option (Nat × Nat × MG) :=
  (gjn (fun (gs0_12 : Nat) => (gtb (g_X6_refuseIf gs0_12 gv) fun gr_12 gw_12 => (gsq 0 fun q => some (q, 0, gw_12)))) (fun gj12 => (gbd (g_X6_isLine gx0 gv) fun gr_1 => (gif (gceq gr_1 0) (gj12 1) (gj12 0)))))
noncomputable def g_X6_placesIn (gx1 : Nat) (gx2 : Nat) (gv : MG) : Option (Nat × Nat × MG) :=
  (gtb (g_X6_requireFeast gx1 gv) fun gr_2 gw_2 => (gtb (g_X6_requireLine gx2 gw_2) fun gr_6 gw_6 => (gck (Nat.blt gx1 20) (gck (Nat.blt gx2 4) (grd gw_6 1 13 (Nat.add (Nat.mul 4 gx1) gx2) fun y3 => (gsq y3 fun q => some (q, 0, gw_6)))))))
noncomputable def g_X6_whyNot (gx1 : Nat) (gx2 : Nat) (gx3 : Nat) (gv : MG) : Option (Nat × Nat × MG) :=
  (gjn (fun (gs0_30 : Nat) => (gtb (g_X6_refuseIf gs0_30 gv) fun gr_30 gw_30 => (gck (Nat.blt gx1 20) (grd gw_30 1 12 gx1 fun y2 => (gbd (g_X0_hindrance 0 gx2 y2 gw_30) fun gr_50 => (gif (gceq gr_50 0) (gbd (g_X0_misfit 0 gx1 gx2 gx3 gw_30) fun gr_72 => (gsq gr_72 fun q => some (q, 0, gw_30))) (gsq gr_50 fun q => some (q, 0, gw_30)))))))) (fun gj30 => (gtb (g_X6_requireFeast gx1 gv) fun gr_2 gw_2 => (gtb (g_X6_requireSinger gx2 gw_2) fun gr_7 gw_7 => (gtb (g_X6_requireLine gx3 gw_7) fun gr_11 gw_11 => (gbd (g_X0_hasHeld 0 gx1 gw_11) fun gr_19 => (gif (gceq gr_19 0) (gj30 0) (gj30 3))))))))
noncomputable def g_X3_tell (o : Nat) (gx2 : Nat) (gv : MG) : Option MG :=
  (gbd (g_X0_hasHeld o gx2 gv) fun gr_2 => (gif (gceq gr_2 0) (gbd (g_X3_make o gx2 gv) fun gr_34 => (some gr_34)) (gck (Nat.blt gx2 20) (gck (Nat.ble 30 30) (gcp gv 0 0 0 (Nat.succ o) 24 (Nat.mul 30 gx2) 30 fun gw25_1 => (some gw25_1))))))
noncomputable def g_X6_lineOf (gx1 : Nat) (gx2 : Nat) (gv : MG) : Option (Nat × Nat × MG) :=
  (gtb (g_X6_requireFeast gx1 gv) fun gr_2 gw_2 => (gtb (g_X6_requireSinger gx2 gw_2) fun gr_7 gw_7 => (gbd (g_X3_tell 0 gx1 gw_7) fun gr_19 => (gck (Nat.blt gx2 30) (grd gr_19 0 0 gx2 fun y2 => (gsq y2 fun q => some (q, 0, gr_19)))))))
noncomputable def g_X6_singersIn (gx1 : Nat) (gx2 : Nat) (gv : MG) : Option (Nat × Nat × MG) :=
  (gtb (g_X6_requireFeast gx1 gv) fun gr_2 gw_2 => (gtb (g_X6_requireLine gx2 gw_2) fun gr_6 gw_6 => (gbd (g_X3_tell 0 gx1 gw_6) fun gr_18 => (gbd (g_X3_countIn gx2 gr_18) fun gr_26 => (gsq gr_26 fun q => some (q, 0, gr_18))))))
noncomputable def g_X6_shortfall (gx1 : Nat) (gv : MG) : Option (Nat × Nat × MG) :=
  (gtb (g_X6_requireFeast gx1 gv) fun gr_2 gw_2 => (gbd (g_X3_tell 0 gx1 gw_2) fun gr_14 => (gbd (g_X1_allPlaces 0 gx1 gr_14) fun gr_25 => (gbd (g_X3_countAll gr_14) fun gr_32 => (gsq (gsub gr_25 gr_32) fun q => some (q, 0, gr_14))))))
noncomputable def GL_X3_lackBySets_38 (o : Nat) (gx2 : Nat) (gx3 : Nat) (gx4_12 : Nat) (gx5_12 : Nat) (gself12 : Nat → Nat → Option (Nat × MG)) (gr_3 : MG) (gself38 : Nat → Nat → Option (Nat × MG)) : Nat → Nat → Option (Nat × MG) := fun gx6_38 gx7_38 =>
  (gif (gcle 4 gx7_38) (gif (gcle gx6_38 gx4_12) (gsq (gadd gx5_12 1) fun y1 => (gself12 gx4_12 y1)) (gsq (gadd gx5_12 1) fun y2 => (gself12 gx6_38 y2))) (gbd (g_X3_contains gx5_12 gx7_38 gr_3) fun gr_48 => (gif (gceq gr_48 0) (gsq (gadd gx7_38 1) fun y3 => (gself38 gx6_38 y3)) (gck (Nat.blt gx2 20) (gck (Nat.blt gx7_38 4) (gif (gceq gx7_38 gx3) (grd gr_3 (Nat.succ o) 13 (Nat.add (Nat.mul 4 gx2) gx7_38) fun y6 => (gsq (gsub y6 1) fun gy79_2 => (gsq (gadd gx6_38 gy79_2) fun y7 => (gsq (gadd gx7_38 1) fun y8 => (gself38 y7 y8))))) (grd gr_3 (Nat.succ o) 13 (Nat.add (Nat.mul 4 gx2) gx7_38) fun y9 => (gsq (gsub y9 0) fun gy79_1 => (gsq (gadd gx6_38 gy79_1) fun y10 => (gsq (gadd gx7_38 1) fun y11 => (gself38 y10 y11)))))))))))
noncomputable def GL_X3_lackBySets_12 (o : Nat) (gx2 : Nat) (gx3 : Nat) (gr_3 : MG) (gself12 : Nat → Nat → Option (Nat × MG)) : Nat → Nat → Option (Nat × MG) := fun gx4_12 gx5_12 =>
  (gif (gcle 16 gx5_12) (gsq gx4_12 fun q => some (q, gr_3)) (grd gr_3 (Nat.succ o) 9 0 fun y1 => (gbd (g_X3_countWhoCanSing gx5_12 y1 gr_3) fun gr_29 => (gsq (gneg gr_29) fun y2 => (glp (fun _ _ => none) (GL_X3_lackBySets_38 o gx2 gx3 gx4_12 gx5_12 gself12 gr_3) 8192 y2 0)))))
noncomputable def g_X3_lackBySets (o : Nat) (gx2 : Nat) (gx3 : Nat) (gv : MG) : Option (Nat × MG) :=
  (gbd (g_X3_listWhoCanSing o gx2 gv) fun gr_3 => (glp (fun _ _ => none) (GL_X3_lackBySets_12 o gx2 gx3 gr_3) 8192 0 0))
noncomputable def g_X6_shortfallBySets (gx1 : Nat) (gv : MG) : Option (Nat × Nat × MG) :=
  (gjn (fun (gs0_21 : Nat) => (gtb (g_X6_refuseIf gs0_21 gv) fun gr_21 gw_21 => (gbd (g_X3_lackBySets 0 gx1 4294967295 gw_21) fun gr_34 => (gsq gr_34.1 fun q => some (q, 0, gr_34.2))))) (fun gj21 => (gtb (g_X6_requireFeast gx1 gv) fun gr_2 gw_2 => (gbd (g_X0_hasHeld 0 gx1 gw_2) fun gr_10 => (gif (gceq gr_10 0) (gj21 0) (gj21 3))))))
noncomputable def GL_X6_neededLine_40 (gx1 : Nat) (gr_34 : (Nat × MG)) (gself40 : Nat → MG → Option (Nat × Nat × MG)) : Nat → MG → Option (Nat × Nat × MG) := fun gx3_40 gv_40 =>
  (gif (gcle 4 gx3_40) (gsq 4294967295 fun q => some (q, 0, gv_40)) (gck (Nat.blt gx1 20) (gck (Nat.blt gx3_40 4) (grd gv_40 1 13 (Nat.add (Nat.mul 4 gx1) gx3_40) fun y3 => (gif (gcle y3 0) (gsq (gadd gx3_40 1) fun y4 => (gself40 y4 gv_40)) (gbd (g_X3_lackBySets 0 gx1 gx3_40 gv_40) fun gr_72 => (gif (gcle gr_34.1 gr_72.1) (gsq (gadd gx3_40 1) fun y5 => (gself40 y5 gr_72.2)) (gsq gx3_40 fun q => some (q, 0, gr_72.2)))))))))
noncomputable def g_X6_neededLine (gx1 : Nat) (gv : MG) : Option (Nat × Nat × MG) :=
  (gjn (fun (gs0_21 : Nat) => (gtb (g_X6_refuseIf gs0_21 gv) fun gr_21 gw_21 => (gbd (g_X3_lackBySets 0 gx1 4294967295 gw_21) fun gr_34 => (glp (fun _ _ => none) (GL_X6_neededLine_40 gx1 gr_34) 8192 0 gr_34.2)))) (fun gj21 => (gtb (g_X6_requireFeast gx1 gv) fun gr_2 gw_2 => (gbd (g_X0_hasHeld 0 gx1 gw_2) fun gr_10 => (gif (gceq gr_10 0) (gj21 0) (gj21 3))))))
noncomputable def GL_X3_descantToCome_33 (o : Nat) (gx2 : Nat) (gself33 : Nat → Nat → MG → Option (Nat × MG)) : Nat → Nat → MG → Option (Nat × MG) := fun gx3_33 gx4_33 gv_33 =>
  (gif (gcle 20 gx4_33) (gsq 4294967295 fun q => some (q, gv_33)) (gif (gceq gx3_33 4294967295) (gsq 4294967295 fun q => some (q, gv_33)) (gbd (g_X3_make o gx3_33 gv_33) fun gr_48 => (gbd (g_X3_chooseDescant o 0 4 gr_48) fun gr_60 => (gif (gceq gx3_33 gx2) (gsq gr_60 fun q => some (q, gr_48)) (gjn (fun (gv_90 : MG) => (gck (Nat.blt gx3_33 20) (grd gv_90 (Nat.succ o) 12 gx3_33 fun y2 => (gbd (g_X1_nextAfter o y2 gv_90) fun gr_103 => (gsq (gadd gx4_33 1) fun y3 => (gself33 gr_103 y3 gv_90)))))) (fun gj90 => (gif (gceq gr_60 4294967295) (gj90 gr_48) (gck (Nat.blt gr_60 30) (grd gr_48 0 4 gr_60 fun y5 => (gsq (gadd y5 1) fun y6 => (gwr gr_48 0 4 gr_60 y6 fun gw89_2 => (gj90 gw89_2)))))))))))))
noncomputable def g_X3_descantToCome (o : Nat) (gx2 : Nat) (gv : MG) : Option (Nat × MG) :=
  (gck (Nat.ble 30 30) (gcp gv 0 4 0 (Nat.succ o) 19 0 30 fun gw15_1 => (grd gw15_1 (Nat.succ o) 10 0 fun y2 => (gbd (g_X1_nextAfter o y2 gw15_1) fun gr_26 => (glp (fun _ _ _ => none) (GL_X3_descantToCome_33 o gx2) 8192 gr_26 0 gw15_1)))))
noncomputable def g_X6_descantIn (gx1 : Nat) (gv : MG) : Option (Nat × Nat × MG) :=
  (gtb (g_X6_requireFeast gx1 gv) fun gr_2 gw_2 => (gbd (g_X0_hasHeld 0 gx1 gw_2) fun gr_10 => (gif (gceq gr_10 0) (gbd (g_X3_descantToCome 0 gx1 gw_2) fun gr_40 => (gsq gr_40.1 fun q => some (q, 0, gr_40.2))) (gck (Nat.blt gx1 20) (grd gw_2 1 17 gx1 fun y2 => (gsq y2 fun q => some (q, 0, gw_2)))))))
noncomputable def g_X5_sitsBefore (o : Nat) (gx1 : Nat) (gx2 : Nat) (gv : MG) : Option Nat :=
  (gck (Nat.blt gx1 30) (gck (Nat.blt gx2 30) (grd gv (Nat.succ o) 21 gx1 fun y3 => (grd gv (Nat.succ o) 21 gx2 fun y4 => (gif (gclt y3 y4) (some 1) (gif (gceq y3 y4) (gif (gcle gx2 gx1) (some 0) (some 1)) (some 0)))))))
noncomputable def GL_X3_rankByHeight_17 (o : Nat) (gx2 : Nat) (gv : MG) (gself17 : Nat → Nat → Option Nat) : Nat → Nat → Option Nat := fun gx3_17 gx4_17 =>
  (grd gv (Nat.succ o) 9 0 fun y1 => (gif (gcle y1 gx4_17) (some gx3_17) (gck (Nat.blt gx4_17 30) (gck (Nat.blt gx2 30) (grd gv 0 0 gx4_17 fun y4 => (grd gv 0 0 gx2 fun y5 => (gif (gceq y4 y5) (gbd (g_X5_sitsBefore o gx4_17 gx2 gv) fun gr_46 => (gif (gceq gr_46 0) (gsq (gadd gx4_17 1) fun y6 => (gself17 gx3_17 y6)) (gsq (gadd gx3_17 1) fun y7 => (gsq (gadd gx4_17 1) fun y8 => (gself17 y7 y8))))) (gsq (gadd gx4_17 1) fun y9 => (gself17 gx3_17 y9)))))))))
noncomputable def g_X3_rankByHeight (o : Nat) (gx2 : Nat) (gv : MG) : Option Nat :=
  (gck (Nat.blt gx2 30) (grd gv 0 0 gx2 fun y2 => (gif (gceq y2 4294967295) (some 4294967295) (glp (fun _ _ => none) (GL_X3_rankByHeight_17 o gx2 gv) 8192 0 0))))
noncomputable def g_X6_pewOf (gx1 : Nat) (gx2 : Nat) (gv : MG) : Option (Nat × Nat × MG) :=
  (gtb (g_X6_requireFeast gx1 gv) fun gr_2 gw_2 => (gtb (g_X6_requireSinger gx2 gw_2) fun gr_7 gw_7 => (gbd (g_X3_tell 0 gx1 gw_7) fun gr_19 => (gbd (g_X3_rankByHeight 0 gx2 gr_19) fun gr_34 => (gif (gceq gr_34 4294967295) (gsq 4294967295 fun q => some (q, 0, gr_19)) (gck (Nat.blt gr_34 2147483648) (gsq (gdiv gr_34 2) fun q => some (q, 0, gr_19))))))))
noncomputable def g_X6_seatOf (gx1 : Nat) (gx2 : Nat) (gv : MG) : Option (Nat × Nat × MG) :=
  (gtb (g_X6_requireFeast gx1 gv) fun gr_2 gw_2 => (gtb (g_X6_requireSinger gx2 gw_2) fun gr_7 gw_7 => (gbd (g_X3_tell 0 gx1 gw_7) fun gr_19 => (gbd (g_X3_rankByHeight 0 gx2 gr_19) fun gr_34 => (gif (gceq gr_34 4294967295) (gsq 4294967295 fun q => some (q, 0, gr_19)) (gck (Nat.blt gr_34 2147483648) (gsq (gsub gr_34 (gmul (gdiv gr_34 2) 2)) fun q => some (q, 0, gr_19))))))))
noncomputable def GL_X6_firstShortFeast_20 (gself20 : Nat → Nat → MG → Option (Nat × MG)) : Nat → Nat → MG → Option (Nat × MG) := fun gx1_20 gx2_20 gv_20 =>
  (gif (gcle 20 gx2_20) (gsq 4294967295 fun q => some (q, gv_20)) (gif (gceq gx1_20 4294967295) (gsq 4294967295 fun q => some (q, gv_20)) (gbd (g_X3_lackBySets 0 gx1_20 4294967295 gv_20) fun gr_41 => (gif (gcle gr_41.1 0) (gck (Nat.blt gx1_20 20) (grd gr_41.2 1 12 gx1_20 fun y2 => (gbd (g_X1_nextAfter 0 y2 gr_41.2) fun gr_68 => (gsq (gadd gx2_20 1) fun y3 => (gself20 gr_68 y3 gr_41.2))))) (gsq gx1_20 fun q => some (q, gr_41.2))))))
noncomputable def g_X6_firstShortFeast (gv : MG) : Option (Nat × MG) :=
  (grd gv 1 10 0 fun y1 => (gbd (g_X1_nextAfter 0 y1 gv) fun gr_14 => (glp (fun _ _ _ => none) GL_X6_firstShortFeast_20 8192 gr_14 0 gv)))
noncomputable def g_X6_favoursOf (gx1 : Nat) (gv : MG) : Option (Nat × Nat × MG) :=
  (gjn (fun (gs0_14 : Nat) => (gtb (g_X6_refuseIf gs0_14 gv) fun gr_14 gw_14 => (gck (Nat.blt gx1 5) (grd gw_14 1 25 gx1 fun y2 => (gsq y2 fun q => some (q, 0, gw_14)))))) (fun gj14 => (gbd (g_X6_isWithin gx1 0 4 gv) fun gr_3 => (gif (gceq gr_3 0) (gj14 1) (gj14 0)))))
noncomputable def g_X6_purse (gv : MG) : Option Nat :=
  (grd gv 1 10 5 fun y1 => (some y1))
noncomputable def g_X6_purseByAccounts (gv : MG) : Option Nat :=
  (grd gv 1 10 7 fun y1 => (grd gv 1 10 6 fun y2 => (gsq (gadd (gadd 50 y1) y2) fun gy17_1 => (grd gv 1 10 8 fun y3 => (grd gv 1 10 9 fun y4 => (gsq (gsub (gsub gy17_1 y3) y4) fun gy33_2 => (some gy33_2)))))))
noncomputable def g_X6_collected (gv : MG) : Option Nat :=
  (grd gv 1 10 7 fun y1 => (some y1))
noncomputable def g_X6_fees (gv : MG) : Option Nat :=
  (grd gv 1 10 8 fun y1 => (some y1))
noncomputable def g_X6_fines (gv : MG) : Option Nat :=
  (grd gv 1 10 9 fun y1 => (some y1))
noncomputable def g_X6_day (gv : MG) : Option Nat :=
  (grd gv 1 10 0 fun y1 => (some y1))
noncomputable def g_X6_recordedStates (gv : MG) : Option Nat :=
  (grd gv 0 5 5 fun y1 => (some y1))
