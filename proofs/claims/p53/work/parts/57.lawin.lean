/-! THE LAW'S WORDS ARE THE TABLES' -/
set_option maxRecDepth 20000 in
theorem il_1 : ∀ w ∈ wsL_law0_r1, w ∈ lw_tbl := fun w h => (goodIn_p (big := lw_tbl) wsL_law0_r1 [1121, 44, 47] rfl (by decide +kernel) w h).1
set_option maxRecDepth 20000 in
theorem il_2 : ∀ w ∈ wsL_law0_r2, w ∈ lw_tbl := fun w h => (goodIn_p (big := lw_tbl) wsL_law0_r2 [52] rfl (by decide +kernel) w h).1
set_option maxRecDepth 20000 in
theorem il_3 : ∀ w ∈ wsL_law0_r3, w ∈ lw_tbl := fun w h => (goodIn_p (big := lw_tbl) wsL_law0_r3 [58, 123] rfl (by decide +kernel) w h).1
set_option maxRecDepth 20000 in
theorem il_4 : ∀ w ∈ wsL_law0_r4, w ∈ lw_tbl := fun w h => (goodIn_p (big := lw_tbl) wsL_law0_r4 [142, 234] rfl (by decide +kernel) w h).1
set_option maxRecDepth 20000 in
theorem il_5 : ∀ w ∈ wsL_law0_r5, w ∈ lw_tbl := fun w h => (goodIn_p (big := lw_tbl) wsL_law0_r5 [263, 559, 311] rfl (by decide +kernel) w h).1
set_option maxRecDepth 20000 in
theorem il_6 : ∀ w ∈ wsL_law0_r6, w ∈ lw_tbl := fun w h => (goodIn_p (big := lw_tbl) wsL_law0_r6 [315, 318, 321, 325, 329, 332] rfl (by decide +kernel) w h).1
set_option maxRecDepth 20000 in
theorem il_7 : ∀ w ∈ wsL_law0_r7, w ∈ lw_tbl := fun w h => (goodIn_p (big := lw_tbl) wsL_law0_r7 [436, 440, 444, 448] rfl (by decide +kernel) w h).1
set_option maxRecDepth 20000 in
theorem il_8 : ∀ w ∈ wsL_law0_r8, w ∈ lw_tbl := fun w h => (goodIn_p (big := lw_tbl) wsL_law0_r8 [455, 460, 466, 470, 563] rfl (by decide +kernel) w h).1
set_option maxRecDepth 20000 in
theorem il_9 : ∀ w ∈ wsL_law0_r9, w ∈ lw_tbl := fun w h => (goodIn_p (big := lw_tbl) wsL_law0_r9 [567, 571, 575, 579, 583, 588] rfl (by decide +kernel) w h).1
set_option maxRecDepth 20000 in
theorem il_10 : ∀ w ∈ wsL_law0_r10, w ∈ lw_tbl := fun w h => (goodIn_p (big := lw_tbl) wsL_law0_r10 [592, 596, 600, 604, 608] rfl (by decide +kernel) w h).1
set_option maxRecDepth 20000 in
theorem il_11 : ∀ w ∈ wsL_law0_r11, w ∈ lw_tbl := fun w h => (goodIn_p (big := lw_tbl) wsL_law0_r11 [612, 616, 620, 624, 628, 632] rfl (by decide +kernel) w h).1
set_option maxRecDepth 20000 in
theorem il_12 : ∀ w ∈ wsL_law0_r12, w ∈ lw_tbl := fun w h => (goodIn_p (big := lw_tbl) wsL_law0_r12 [636, 475, 479, 483, 487, 491] rfl (by decide +kernel) w h).1
set_option maxRecDepth 20000 in
theorem il_13 : ∀ w ∈ wsL_law0_r13, w ∈ lw_tbl := fun w h => (goodIn_p (big := lw_tbl) wsL_law0_r13 [495, 498, 502, 506, 510, 513] rfl (by decide +kernel) w h).1
set_option maxRecDepth 20000 in
theorem il_14 : ∀ w ∈ wsL_law0_r14, w ∈ lw_tbl := fun w h => (goodIn_p (big := lw_tbl) wsL_law0_r14 [518, 522, 526, 640, 644] rfl (by decide +kernel) w h).1
set_option maxRecDepth 20000 in
theorem il_15 : ∀ w ∈ wsL_law0_r15, w ∈ lw_tbl := fun w h => (goodIn_p (big := lw_tbl) wsL_law0_r15 [648, 652, 656, 660, 664] rfl (by decide +kernel) w h).1
set_option maxRecDepth 20000 in
theorem il_16 : ∀ w ∈ wsL_law0_r16, w ∈ lw_tbl := fun w h => (goodIn_p (big := lw_tbl) wsL_law0_r16 [668, 672, 676, 682, 686] rfl (by decide +kernel) w h).1
set_option maxRecDepth 20000 in
theorem il_17 : ∀ w ∈ wsL_law0_r17, w ∈ lw_tbl := fun w h => (goodIn_p (big := lw_tbl) wsL_law0_r17 [689, 693, 697, 701, 704, 708, 712] rfl (by decide +kernel) w h).1
set_option maxRecDepth 20000 in
theorem il_18 : ∀ w ∈ wsL_law0_r18, w ∈ lw_tbl := fun w h => (goodIn_p (big := lw_tbl) wsL_law0_r18 [716, 720, 724, 728] rfl (by decide +kernel) w h).1
set_option maxRecDepth 20000 in
theorem il_19 : ∀ w ∈ wsL_law0_r19, w ∈ lw_tbl := fun w h => (goodIn_p (big := lw_tbl) wsL_law0_r19 [732, 735, 739, 743, 749] rfl (by decide +kernel) w h).1
set_option maxRecDepth 20000 in
theorem il_20 : ∀ w ∈ wsL_law0_r20, w ∈ lw_tbl := fun w h => (goodIn_p (big := lw_tbl) wsL_law0_r20 [753, 758, 762, 766, 770] rfl (by decide +kernel) w h).1
set_option maxRecDepth 20000 in
theorem il_21 : ∀ w ∈ wsL_law0_r21, w ∈ lw_tbl := fun w h => (goodIn_p (big := lw_tbl) wsL_law0_r21 [775, 780, 784, 788] rfl (by decide +kernel) w h).1
set_option maxRecDepth 20000 in
theorem il_22 : ∀ w ∈ wsL_law0_r22, w ∈ lw_tbl := fun w h => (goodIn_p (big := lw_tbl) wsL_law0_r22 [791, 795, 799, 804, 809] rfl (by decide +kernel) w h).1
set_option maxRecDepth 20000 in
theorem il_23 : ∀ w ∈ wsL_law0_r23, w ∈ lw_tbl := fun w h => (goodIn_p (big := lw_tbl) wsL_law0_r23 [813, 821, 825, 829, 833] rfl (by decide +kernel) w h).1
set_option maxRecDepth 20000 in
theorem il_24 : ∀ w ∈ wsL_law0_r24, w ∈ lw_tbl := fun w h => (goodIn_p (big := lw_tbl) wsL_law0_r24 [837, 843, 847, 850] rfl (by decide +kernel) w h).1
set_option maxRecDepth 20000 in
theorem il_25 : ∀ w ∈ wsL_law0_r25, w ∈ lw_tbl := fun w h => (goodIn_p (big := lw_tbl) wsL_law0_r25 [855, 860, 864, 868, 872, 876] rfl (by decide +kernel) w h).1
set_option maxRecDepth 20000 in
theorem il_26 : ∀ w ∈ wsL_law0_r26, w ∈ lw_tbl := fun w h => (goodIn_p (big := lw_tbl) wsL_law0_r26 [881, 885, 889, 893, 897, 901] rfl (by decide +kernel) w h).1
set_option maxRecDepth 20000 in
theorem il_27 : ∀ w ∈ wsL_law0_r27, w ∈ lw_tbl := fun w h => (goodIn_p (big := lw_tbl) wsL_law0_r27 [905, 909, 913, 918, 922] rfl (by decide +kernel) w h).1
set_option maxRecDepth 20000 in
theorem il_28 : ∀ w ∈ wsL_law0_r28, w ∈ lw_tbl := fun w h => (goodIn_p (big := lw_tbl) wsL_law0_r28 [926, 932, 936, 939, 945, 948] rfl (by decide +kernel) w h).1
set_option maxRecDepth 20000 in
theorem il_29 : ∀ w ∈ wsL_law0_r29, w ∈ lw_tbl := fun w h => (goodIn_p (big := lw_tbl) wsL_law0_r29 [942, 951, 954, 960, 963, 966, 969] rfl (by decide +kernel) w h).1
set_option maxRecDepth 20000 in
theorem il_30 : ∀ w ∈ wsL_law0_r30, w ∈ lw_tbl := fun w h => (goodIn_p (big := lw_tbl) wsL_law0_r30 [974, 977, 980, 989, 992, 995] rfl (by decide +kernel) w h).1
set_option maxRecDepth 20000 in
theorem il_31 : ∀ w ∈ wsL_law0_r31, w ∈ lw_tbl := fun w h => (goodIn_p (big := lw_tbl) wsL_law0_r31 [999, 1007, 1010, 1013, 1016, 1019, 1022] rfl (by decide +kernel) w h).1
set_option maxRecDepth 20000 in
theorem il_32 : ∀ w ∈ wsL_law0_r32, w ∈ lw_tbl := fun w h => (goodIn_p (big := lw_tbl) wsL_law0_r32 [1027, 1031, 1039, 1043, 1047] rfl (by decide +kernel) w h).1
set_option maxRecDepth 20000 in
theorem il_33 : ∀ w ∈ wsL_law0_r33, w ∈ lw_tbl := fun w h => (goodIn_p (big := lw_tbl) wsL_law0_r33 [1054, 1058, 1062, 1066, 530] rfl (by decide +kernel) w h).1
set_option maxRecDepth 20000 in
theorem il_34 : ∀ w ∈ wsL_law0_r34, w ∈ lw_tbl := fun w h => (goodIn_p (big := lw_tbl) wsL_law0_r34 [538, 1075, 1079, 1083, 1124, 1087] rfl (by decide +kernel) w h).1
set_option maxRecDepth 20000 in
theorem il_35 : ∀ w ∈ wsL_law0_r35, w ∈ lw_tbl := fun w h => (goodIn_p (big := lw_tbl) wsL_law0_r35 [1128, 1091, 1095, 1099, 1132] rfl (by decide +kernel) w h).1
set_option maxRecDepth 20000 in
theorem il_36 : ∀ w ∈ wsL_law0_r36, w ∈ lw_tbl := fun w h => (goodIn_p (big := lw_tbl) wsL_law0_r36 [1136, 1140, 1102, 1069, 542, 1105] rfl (by decide +kernel) w h).1
set_option maxRecDepth 20000 in
theorem il_37 : ∀ w ∈ wsL_law0_r37, w ∈ lw_tbl := fun w h => (goodIn_p (big := lw_tbl) wsL_law0_r37 [1108, 1144, 1147, 1150] rfl (by decide +kernel) w h).1
set_option maxRecDepth 20000 in
theorem il_38 : ∀ w ∈ wsL_law0_r38, w ∈ lw_tbl := fun w h => (goodIn_p (big := lw_tbl) wsL_law0_r38 [534, 1153, 1156, 1159, 1162] rfl (by decide +kernel) w h).1
set_option maxRecDepth 20000 in
theorem il_39 : ∀ w ∈ wsL_law0_r39, w ∈ lw_tbl := fun w h => (goodIn_p (big := lw_tbl) wsL_law0_r39 [] rfl (by decide +kernel) w h).1
set_option maxRecDepth 20000 in
theorem il_40 : ∀ w ∈ wsL_law0_r40, w ∈ lw_tbl := fun w h => (goodIn_p (big := lw_tbl) wsL_law0_r40 [1166, 1170, 1174, 1177, 1182, 549] rfl (by decide +kernel) w h).1
set_option maxRecDepth 20000 in
theorem il_41 : ∀ w ∈ wsL_law0_r41, w ∈ lw_tbl := fun w h => (goodIn_p (big := lw_tbl) wsL_law0_r41 [545] rfl (by decide +kernel) w h).1
set_option maxRecDepth 20000 in
theorem il_wsX60 : ∀ w ∈ wsX60, w ∈ lw_tbl := by decide +kernel
set_option maxRecDepth 20000 in
theorem il_wsX00 : ∀ w ∈ wsX00, w ∈ lw_tbl := by decide +kernel
set_option maxRecDepth 20000 in
theorem il_wsX20 : ∀ w ∈ wsX20, w ∈ lw_tbl := by decide +kernel
set_option maxRecDepth 20000 in
theorem il_wsX30 : ∀ w ∈ wsX30, w ∈ lw_tbl := by decide +kernel
set_option maxRecDepth 20000 in
theorem il_wsX50 : ∀ w ∈ wsX50, w ∈ lw_tbl := by decide +kernel
set_option maxRecDepth 20000 in
theorem il_wsX40 : ∀ w ∈ wsX40, w ∈ lw_tbl := by decide +kernel
set_option maxRecDepth 20000 in
theorem il_wsX10 : ∀ w ∈ wsX10, w ∈ lw_tbl := by decide +kernel
def wsL_S : List (List Cond) := [wsL_law0_r1, wsL_law0_r2, wsL_law0_r3, wsL_law0_r4, wsL_law0_r5, wsL_law0_r6, wsL_law0_r7, wsL_law0_r8, wsL_law0_r9, wsL_law0_r10, wsL_law0_r11, wsL_law0_r12, wsL_law0_r13, wsL_law0_r14, wsL_law0_r15, wsL_law0_r16, wsL_law0_r17, wsL_law0_r18, wsL_law0_r19, wsL_law0_r20, wsL_law0_r21, wsL_law0_r22, wsL_law0_r23, wsL_law0_r24, wsL_law0_r25, wsL_law0_r26, wsL_law0_r27, wsL_law0_r28, wsL_law0_r29, wsL_law0_r30, wsL_law0_r31, wsL_law0_r32, wsL_law0_r33, wsL_law0_r34, wsL_law0_r35, wsL_law0_r36, wsL_law0_r37, wsL_law0_r38, wsL_law0_r39, wsL_law0_r40, wsL_law0_r41, wsX60, wsX00, wsX20, wsX30, wsX50, wsX40, wsX10]
theorem wsL_S_e : wsL_S.flatten = wsL_law0 := by
  unfold wsL_S wsL_law0
  simp only [List.flatten_cons, List.flatten_nil, List.append_assoc, List.append_nil]
theorem wsL_law_in0 : ∀ w ∈ wsL_law0, w ∈ lw_tbl := by
  rw [← wsL_S_e]
  have H : ∀ s ∈ wsL_S, ∀ w ∈ s, w ∈ lw_tbl := List.forall_mem_cons.mpr ⟨il_1, List.forall_mem_cons.mpr ⟨il_2, List.forall_mem_cons.mpr ⟨il_3, List.forall_mem_cons.mpr ⟨il_4, List.forall_mem_cons.mpr ⟨il_5, List.forall_mem_cons.mpr ⟨il_6, List.forall_mem_cons.mpr ⟨il_7, List.forall_mem_cons.mpr ⟨il_8, List.forall_mem_cons.mpr ⟨il_9, List.forall_mem_cons.mpr ⟨il_10, List.forall_mem_cons.mpr ⟨il_11, List.forall_mem_cons.mpr ⟨il_12, List.forall_mem_cons.mpr ⟨il_13, List.forall_mem_cons.mpr ⟨il_14, List.forall_mem_cons.mpr ⟨il_15, List.forall_mem_cons.mpr ⟨il_16, List.forall_mem_cons.mpr ⟨il_17, List.forall_mem_cons.mpr ⟨il_18, List.forall_mem_cons.mpr ⟨il_19, List.forall_mem_cons.mpr ⟨il_20, List.forall_mem_cons.mpr ⟨il_21, List.forall_mem_cons.mpr ⟨il_22, List.forall_mem_cons.mpr ⟨il_23, List.forall_mem_cons.mpr ⟨il_24, List.forall_mem_cons.mpr ⟨il_25, List.forall_mem_cons.mpr ⟨il_26, List.forall_mem_cons.mpr ⟨il_27, List.forall_mem_cons.mpr ⟨il_28, List.forall_mem_cons.mpr ⟨il_29, List.forall_mem_cons.mpr ⟨il_30, List.forall_mem_cons.mpr ⟨il_31, List.forall_mem_cons.mpr ⟨il_32, List.forall_mem_cons.mpr ⟨il_33, List.forall_mem_cons.mpr ⟨il_34, List.forall_mem_cons.mpr ⟨il_35, List.forall_mem_cons.mpr ⟨il_36, List.forall_mem_cons.mpr ⟨il_37, List.forall_mem_cons.mpr ⟨il_38, List.forall_mem_cons.mpr ⟨il_39, List.forall_mem_cons.mpr ⟨il_40, List.forall_mem_cons.mpr ⟨il_41, List.forall_mem_cons.mpr ⟨il_wsX60, List.forall_mem_cons.mpr ⟨il_wsX00, List.forall_mem_cons.mpr ⟨il_wsX20, List.forall_mem_cons.mpr ⟨il_wsX30, List.forall_mem_cons.mpr ⟨il_wsX50, List.forall_mem_cons.mpr ⟨il_wsX40, List.forall_mem_cons.mpr ⟨il_wsX10, fun _ h => absurd h List.not_mem_nil⟩⟩⟩⟩⟩⟩⟩⟩⟩⟩⟩⟩⟩⟩⟩⟩⟩⟩⟩⟩⟩⟩⟩⟩⟩⟩⟩⟩⟩⟩⟩⟩⟩⟩⟩⟩⟩⟩⟩⟩⟩⟩⟩⟩⟩⟩⟩⟩
  intro w hw
  obtain ⟨s, hs, hw2⟩ := List.mem_flatten.mp hw
  exact H s hs w hw2
theorem wsL_law_in : ∀ w ∈ wsL_law, w ∈ lw_tbl := fun w h => (List.mem_append.mp h).elim (fun h => (List.mem_append.mp h).elim (fun h => (List.mem_append.mp h).elim (fun h => wsL_law_in0 w h) (fun h => wsL_law_x0 w h)) (fun h => wsL_law_x1 w h)) (fun h => wsL_law_x2 w h)
