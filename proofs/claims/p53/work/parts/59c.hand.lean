/-! THE LAW'S METHODS THAT CATCH (printed by wip/p53/genhand.py) -/
theorem hc_s {F : Option (Int32 × Nat × mC)} {r : Int32 × mC} (h : hc F = some r) : ∃ q, F = some q ∧ ((q.2.1 = 0 ∧ r = (q.1, q.2.2)) ∨ (q.2.1 = 1 ∧ r = (-2011, q.2.2)) ∨ (q.2.1 = 2 ∧ r = (-2012, q.2.2)) ∨ (q.2.1 = 3 ∧ r = (-2013, q.2.2))) := by
  obtain ⟨q, h1, h2⟩ := Option.bind_eq_some_iff.mp h
  refine ⟨q, h1, ?_⟩
  by_cases k0 : q.2.1 = 0
  · rw [if_pos k0] at h2; exact Or.inl ⟨k0, (Option.some.inj h2).symm⟩
  rw [if_neg k0] at h2
  by_cases k1 : q.2.1 = 1
  · rw [if_pos k1] at h2; exact Or.inr (Or.inl ⟨k1, (Option.some.inj h2).symm⟩)
  rw [if_neg k1] at h2
  by_cases k2 : q.2.1 = 2
  · rw [if_pos k2] at h2; exact Or.inr (Or.inr (Or.inl ⟨k2, (Option.some.inj h2).symm⟩))
  rw [if_neg k2] at h2
  by_cases k3 : q.2.1 = 3
  · rw [if_pos k3] at h2; exact Or.inr (Or.inr (Or.inr ⟨k3, (Option.some.inj h2).symm⟩))
  rw [if_neg k3] at h2
  cases h2
theorem hc2_s {F : Option (Int32 × Nat × mC)} {r : Int32 × mC} (h : hc2 F = some r) : ∃ q, F = some q ∧ ((q.2.1 = 0 ∧ r = (q.1, q.2.2)) ∨ (q.2.1 = 2 ∧ r = (-2012, q.2.2)) ∨ (q.2.1 = 3 ∧ r = (-2013, q.2.2))) := by
  obtain ⟨q, h1, h2⟩ := Option.bind_eq_some_iff.mp h
  refine ⟨q, h1, ?_⟩
  by_cases k0 : q.2.1 = 0
  · rw [if_pos k0] at h2; exact Or.inl ⟨k0, (Option.some.inj h2).symm⟩
  rw [if_neg k0] at h2
  by_cases k2 : q.2.1 = 2
  · rw [if_pos k2] at h2; exact Or.inr (Or.inl ⟨k2, (Option.some.inj h2).symm⟩)
  rw [if_neg k2] at h2
  by_cases k3 : q.2.1 = 3
  · rw [if_pos k3] at h2; exact Or.inr (Or.inr ⟨k3, (Option.some.inj h2).symm⟩)
  rw [if_neg k3] at h2
  cases h2
abbrev rmL_registered : Room := { frames := 11, cells := 1, slots := 6, locals := 245 }
set_option maxRecDepth 100000 in
set_option maxHeartbeats 4000000 in
theorem c_L_registered {Λ : jL kC} (hC : LC Λ) {x1 : Int32} {x2 : Int32} {x3 : Int32} {x4 : Int32} {x5 : Int32} {l : Launch} (hfl : l.stackTraces = false) (hX : Xnc Λ) {v : mC} {r : Int32 × mC} (hr_ : f_L_registered x1 x2 x3 x4 x5 v = some r) : Cw l yL_registered wsL_registered rmL_registered Λ [.ref (Λ.2.2.2.1 (0, 0, 0)), .int x1, .int x2, .int x3, .int x4, .int x5] v (some (.int r.1)) r.2 := by
  refine cw_of (cc := cL_registered) (maxL := 7) (hh := [(0, 11, 12, 28), (0, 11, 18, 30)]) (r := ()) (ex := some ()) (fun (_ : Unit) => (some (Value.int r.1), r.2)) hC.1 rfl (by decide) rfl (Nat.le_of_ble_eq_true rfl) (fun Γ hG hT hN hl => ?_)
  subst hl
  have hnc := (hX _ _ hG.2.2.2.2.2.2.2.2.2).1
  have hfc := (hC.2.2.2 _ _ hG.2.2.2.2.2.2.2.2.2).2.1.2.2
  show Sm Γ Λ (0, 0) 0 [(0, .ref (Λ.2.2.2.1 (0, 0, 0))), (1, .int x1), (2, .int x2), (3, .int x3), (4, .int x4), (5, .int x5)] [] v _
  obtain ⟨q0, hq, hq2⟩ := hc2_s hr_
  refine sm_aload_n hG 1 rfl dL_registered_0 rfl 0 rfl ?_
  refine sm_iload_n hG 2 rfl dL_registered_1 rfl 1 rfl ?_
  refine sm_iload_n hG 3 rfl dL_registered_2 rfl 2 rfl ?_
  refine sm_iload_n hG 4 rfl dL_registered_3 rfl 3 rfl ?_
  refine sm_iload hG 6 rfl dL_registered_4 4 rfl ?_
  refine sm_iload hG 8 rfl dL_registered_6 5 rfl ?_
  refine sl_hcall (hh := [(0, 11, 12, 28), (0, 11, 18, 30)]) (k0 := q0.2.1) (x := .int q0.1) (v' := q0.2.2) hG hT.2.2.2 (0, 0, 0) [.int x1, .int x2, .int x3, .int x4, .int x5] 11 rfl (ok0 hC) (ce_0 hC _) (ci := 6) rfl (c_X6_register hC hfl hq) gL_registered_X6_register rfl (by decide) (by decide) (n := 5) rfl (Nat.le_of_ble_eq_true rfl) (1, 6) ⟨rfl, rfl⟩ (by decide) rfl dL_registered_8 hnc hfc (fun h0 => ?_) (fun h0 => ?_)
  · rcases hq2 with ⟨e0, e1⟩ | ⟨e0, e1⟩ | ⟨e0, e1⟩
    · subst e1
      exact sl_hret hG hT (by decide) dL_registered_11 rfl
    · omega
    · omega
  · rcases hq2 with ⟨e0, e1⟩ | ⟨e0, e1⟩ | ⟨e0, e1⟩
    · exact absurd e0 h0
    · subst e1
      have hk : q0.2.1 = 2 := e0
      rw [hk]
      refine ⟨[], ⟨0, 11, 12, 28⟩, [⟨0, 11, 18, 30⟩], rfl, (by intro _ h; cases h), rfl, by decide, by decide +kernel, by decide +kernel, fun q => ?_⟩
      refine sm_astore hG 14 rfl dL_registered_12 (jlt hN rfl) [(6, .ref q), (0, .ref (Λ.2.2.2.1 (0, 0, 0))), (1, .int x1), (2, .int x2), (3, .int x3), (4, .int x4), (5, .int x5)] rfl ?_
      refine sm_sipush (x := (-2012 : Int32)) hG 17 rfl dL_registered_14 rfl ?_
      exact sl_hret hG hT (by decide) dL_registered_17 rfl
    · subst e1
      have hk : q0.2.1 = 3 := e0
      rw [hk]
      refine ⟨[⟨0, 11, 12, 28⟩], ⟨0, 11, 18, 30⟩, [], rfl, List.forall_mem_cons.mpr ⟨Or.inr ⟨by decide, exN 2, by decide +kernel, by decide +kernel⟩, (by intro _ h; cases h)⟩, rfl, by decide, by decide +kernel, by decide +kernel, fun q => ?_⟩
      refine sm_astore hG 20 rfl dL_registered_18 (jlt hN rfl) [(6, .ref q), (0, .ref (Λ.2.2.2.1 (0, 0, 0))), (1, .int x1), (2, .int x2), (3, .int x3), (4, .int x4), (5, .int x5)] rfl ?_
      refine sm_sipush (x := (-2013 : Int32)) hG 23 rfl dL_registered_20 rfl ?_
      exact sl_hret hG hT (by decide) dL_registered_23 rfl
abbrev rmL_borrowed : Room := { frames := 11, cells := 1, slots := 6, locals := 246 }
set_option maxRecDepth 100000 in
set_option maxHeartbeats 4000000 in
theorem c_L_borrowed {Λ : jL kC} (hC : LC Λ) {x1 : Int32} {x2 : Int32} {x3 : Int32} {x4 : Int32} {x5 : Int32} {l : Launch} (hfl : l.stackTraces = false) (hX : Xnc Λ) {v : mC} {r : Int32 × mC} (hr_ : f_L_borrowed x1 x2 x3 x4 x5 v = some r) : Cw l yL_borrowed wsL_borrowed rmL_borrowed Λ [.ref (Λ.2.2.2.1 (0, 0, 0)), .int x1, .int x2, .int x3, .int x4, .int x5] v (some (.int r.1)) r.2 := by
  refine cw_of (cc := cL_borrowed) (maxL := 7) (hh := [(0, 13, 14, 26), (0, 13, 20, 28), (0, 13, 26, 30)]) (r := ()) (ex := some ()) (fun (_ : Unit) => (some (Value.int r.1), r.2)) hC.1 rfl (by decide) rfl (Nat.le_of_ble_eq_true rfl) (fun Γ hG hT hN hl => ?_)
  subst hl
  have hnc := (hX _ _ hG.2.2.2.2.2.2.2.2.2).1
  have hfc := (hC.2.2.2 _ _ hG.2.2.2.2.2.2.2.2.2).2.1.2.2
  show Sm Γ Λ (0, 0) 0 [(0, .ref (Λ.2.2.2.1 (0, 0, 0))), (1, .int x1), (2, .int x2), (3, .int x3), (4, .int x4), (5, .int x5)] [] v _
  obtain ⟨q0, hq, hq2⟩ := hc_s hr_
  refine sm_aload_n hG 1 rfl dL_borrowed_0 rfl 0 rfl ?_
  refine sm_iload_n hG 2 rfl dL_borrowed_1 rfl 1 rfl ?_
  refine sm_iload_n hG 3 rfl dL_borrowed_2 rfl 2 rfl ?_
  refine sm_iload_n hG 4 rfl dL_borrowed_3 rfl 3 rfl ?_
  refine sm_bipush (x := (20 : Int32)) hG 6 rfl dL_borrowed_4 rfl ?_
  refine sm_iload hG 8 rfl dL_borrowed_6 4 rfl ?_
  refine sm_iload hG 10 rfl dL_borrowed_8 5 rfl ?_
  refine sl_hcall (hh := [(0, 13, 14, 26), (0, 13, 20, 28), (0, 13, 26, 30)]) (k0 := q0.2.1) (x := .int q0.1) (v' := q0.2.2) hG hT.2.2.2 (0, 0, 0) [.int x1, .int x2, .int x3, .int (20 : Int32), .int x4, .int x5] 13 rfl (ok0 hC) (ce_0 hC _) (ci := 6) rfl (c_X6_borrow hC hfl hq) gL_borrowed_X6_borrow rfl (by decide) (by decide) (n := 6) rfl (Nat.le_of_ble_eq_true rfl) (1, 6) ⟨rfl, rfl⟩ (by decide) rfl dL_borrowed_10 hnc hfc (fun h0 => ?_) (fun h0 => ?_)
  · rcases hq2 with ⟨e0, e1⟩ | ⟨e0, e1⟩ | ⟨e0, e1⟩ | ⟨e0, e1⟩
    · subst e1
      exact sl_hret hG hT (by decide) dL_borrowed_13 rfl
    · omega
    · omega
    · omega
  · rcases hq2 with ⟨e0, e1⟩ | ⟨e0, e1⟩ | ⟨e0, e1⟩ | ⟨e0, e1⟩
    · exact absurd e0 h0
    · subst e1
      have hk : q0.2.1 = 1 := e0
      rw [hk]
      refine ⟨[], ⟨0, 13, 14, 26⟩, [⟨0, 13, 20, 28⟩, ⟨0, 13, 26, 30⟩], rfl, (by intro _ h; cases h), rfl, by decide, by decide +kernel, by decide +kernel, fun q => ?_⟩
      refine sm_astore hG 16 rfl dL_borrowed_14 (jlt hN rfl) [(6, .ref q), (0, .ref (Λ.2.2.2.1 (0, 0, 0))), (1, .int x1), (2, .int x2), (3, .int x3), (4, .int x4), (5, .int x5)] rfl ?_
      refine sm_sipush (x := (-2011 : Int32)) hG 19 rfl dL_borrowed_16 rfl ?_
      exact sl_hret hG hT (by decide) dL_borrowed_19 rfl
    · subst e1
      have hk : q0.2.1 = 2 := e0
      rw [hk]
      refine ⟨[⟨0, 13, 14, 26⟩], ⟨0, 13, 20, 28⟩, [⟨0, 13, 26, 30⟩], rfl, List.forall_mem_cons.mpr ⟨Or.inr ⟨by decide, exN 1, by decide +kernel, by decide +kernel⟩, (by intro _ h; cases h)⟩, rfl, by decide, by decide +kernel, by decide +kernel, fun q => ?_⟩
      refine sm_astore hG 22 rfl dL_borrowed_20 (jlt hN rfl) [(6, .ref q), (0, .ref (Λ.2.2.2.1 (0, 0, 0))), (1, .int x1), (2, .int x2), (3, .int x3), (4, .int x4), (5, .int x5)] rfl ?_
      refine sm_sipush (x := (-2012 : Int32)) hG 25 rfl dL_borrowed_22 rfl ?_
      exact sl_hret hG hT (by decide) dL_borrowed_25 rfl
    · subst e1
      have hk : q0.2.1 = 3 := e0
      rw [hk]
      refine ⟨[⟨0, 13, 14, 26⟩, ⟨0, 13, 20, 28⟩], ⟨0, 13, 26, 30⟩, [], rfl, List.forall_mem_cons.mpr ⟨Or.inr ⟨by decide, exN 1, by decide +kernel, by decide +kernel⟩, List.forall_mem_cons.mpr ⟨Or.inr ⟨by decide, exN 2, by decide +kernel, by decide +kernel⟩, (by intro _ h; cases h)⟩⟩, rfl, by decide, by decide +kernel, by decide +kernel, fun q => ?_⟩
      refine sm_astore hG 28 rfl dL_borrowed_26 (jlt hN rfl) [(6, .ref q), (0, .ref (Λ.2.2.2.1 (0, 0, 0))), (1, .int x1), (2, .int x2), (3, .int x3), (4, .int x4), (5, .int x5)] rfl ?_
      refine sm_sipush (x := (-2013 : Int32)) hG 31 rfl dL_borrowed_28 rfl ?_
      exact sl_hret hG hT (by decide) dL_borrowed_31 rfl
abbrev rmL_line : Room := { frames := 11, cells := 1, slots := 6, locals := 245 }
set_option maxRecDepth 100000 in
set_option maxHeartbeats 4000000 in
theorem c_L_line {Λ : jL kC} (hC : LC Λ) {x1 : Int32} {x2 : Int32} {x3 : Int32} {l : Launch} (hfl : l.stackTraces = false) (hX : Xnc Λ) {v : mC} {r : Int32 × mC} (hr_ : f_L_line x1 x2 x3 v = some r) : Cw l yL_line wsL_line rmL_line Λ [.ref (Λ.2.2.2.1 (0, 0, 0)), .int x1, .int x2, .int x3] v (some (.int r.1)) r.2 := by
  refine cw_of (cc := cL_line) (maxL := 5) (hh := [(0, 9, 10, 26), (0, 9, 16, 28), (0, 9, 22, 30)]) (r := ()) (ex := some ()) (fun (_ : Unit) => (some (Value.int r.1), r.2)) hC.1 rfl (by decide) rfl (Nat.le_of_ble_eq_true rfl) (fun Γ hG hT hN hl => ?_)
  subst hl
  have hnc := (hX _ _ hG.2.2.2.2.2.2.2.2.2).1
  have hfc := (hC.2.2.2 _ _ hG.2.2.2.2.2.2.2.2.2).2.1.2.2
  show Sm Γ Λ (0, 0) 0 [(0, .ref (Λ.2.2.2.1 (0, 0, 0))), (1, .int x1), (2, .int x2), (3, .int x3)] [] v _
  obtain ⟨q0, hq, hq2⟩ := hc_s hr_
  refine sm_aload_n hG 1 rfl dL_line_0 rfl 0 rfl ?_
  refine sm_iconst (x := (0 : Int32)) hG 2 rfl dL_line_1 rfl ?_
  refine sm_iconst (x := (3 : Int32)) hG 3 rfl dL_line_2 rfl ?_
  refine sm_iload_n hG 4 rfl dL_line_3 rfl 1 rfl ?_
  refine sm_iload_n hG 5 rfl dL_line_4 rfl 2 rfl ?_
  refine sm_iload_n hG 6 rfl dL_line_5 rfl 3 rfl ?_
  refine sl_hcall (hh := [(0, 9, 10, 26), (0, 9, 16, 28), (0, 9, 22, 30)]) (k0 := q0.2.1) (x := .int q0.1) (v' := q0.2.2) hG hT.2.2.2 (0, 0, 0) [.int (0 : Int32), .int (3 : Int32), .int x1, .int x2, .int x3] 9 rfl (ok0 hC) (ce_0 hC _) (ci := 6) rfl (c_X6_setLine hC hfl hq) gL_line_X6_setLine rfl (by decide) (by decide) (n := 5) rfl (Nat.le_of_ble_eq_true rfl) (1, 6) ⟨rfl, rfl⟩ (by decide) rfl dL_line_6 hnc hfc (fun h0 => ?_) (fun h0 => ?_)
  · rcases hq2 with ⟨e0, e1⟩ | ⟨e0, e1⟩ | ⟨e0, e1⟩ | ⟨e0, e1⟩
    · subst e1
      exact sl_hret hG hT (by decide) dL_line_9 rfl
    · omega
    · omega
    · omega
  · rcases hq2 with ⟨e0, e1⟩ | ⟨e0, e1⟩ | ⟨e0, e1⟩ | ⟨e0, e1⟩
    · exact absurd e0 h0
    · subst e1
      have hk : q0.2.1 = 1 := e0
      rw [hk]
      refine ⟨[], ⟨0, 9, 10, 26⟩, [⟨0, 9, 16, 28⟩, ⟨0, 9, 22, 30⟩], rfl, (by intro _ h; cases h), rfl, by decide, by decide +kernel, by decide +kernel, fun q => ?_⟩
      refine sm_astore hG 12 rfl dL_line_10 (jlt hN rfl) [(4, .ref q), (0, .ref (Λ.2.2.2.1 (0, 0, 0))), (1, .int x1), (2, .int x2), (3, .int x3)] rfl ?_
      refine sm_sipush (x := (-2011 : Int32)) hG 15 rfl dL_line_12 rfl ?_
      exact sl_hret hG hT (by decide) dL_line_15 rfl
    · subst e1
      have hk : q0.2.1 = 2 := e0
      rw [hk]
      refine ⟨[⟨0, 9, 10, 26⟩], ⟨0, 9, 16, 28⟩, [⟨0, 9, 22, 30⟩], rfl, List.forall_mem_cons.mpr ⟨Or.inr ⟨by decide, exN 1, by decide +kernel, by decide +kernel⟩, (by intro _ h; cases h)⟩, rfl, by decide, by decide +kernel, by decide +kernel, fun q => ?_⟩
      refine sm_astore hG 18 rfl dL_line_16 (jlt hN rfl) [(4, .ref q), (0, .ref (Λ.2.2.2.1 (0, 0, 0))), (1, .int x1), (2, .int x2), (3, .int x3)] rfl ?_
      refine sm_sipush (x := (-2012 : Int32)) hG 21 rfl dL_line_18 rfl ?_
      exact sl_hret hG hT (by decide) dL_line_21 rfl
    · subst e1
      have hk : q0.2.1 = 3 := e0
      rw [hk]
      refine ⟨[⟨0, 9, 10, 26⟩, ⟨0, 9, 16, 28⟩], ⟨0, 9, 22, 30⟩, [], rfl, List.forall_mem_cons.mpr ⟨Or.inr ⟨by decide, exN 1, by decide +kernel, by decide +kernel⟩, List.forall_mem_cons.mpr ⟨Or.inr ⟨by decide, exN 2, by decide +kernel, by decide +kernel⟩, (by intro _ h; cases h)⟩⟩, rfl, by decide, by decide +kernel, by decide +kernel, fun q => ?_⟩
      refine sm_astore hG 24 rfl dL_line_22 (jlt hN rfl) [(4, .ref q), (0, .ref (Λ.2.2.2.1 (0, 0, 0))), (1, .int x1), (2, .int x2), (3, .int x3)] rfl ?_
      refine sm_sipush (x := (-2013 : Int32)) hG 27 rfl dL_line_24 rfl ?_
      exact sl_hret hG hT (by decide) dL_line_27 rfl
abbrev rmL_call : Room := { frames := 13, cells := 4, slots := 24, locals := 289 }
set_option maxRecDepth 100000 in
set_option maxHeartbeats 4000000 in
theorem c_L_call {Λ : jL kC} (hC : LC Λ) {x1 : Int32} {x2 : Int32} {x3 : Int32} {x4 : Int32} {l : Launch} (hfl : l.stackTraces = false) (hX : Xnc Λ) {v : mC} {r : Int32 × mC} (hr_ : f_L_call x1 x2 x3 x4 v = some r) : Cw l yL_call wsL_call rmL_call Λ [.ref (Λ.2.2.2.1 (0, 0, 0)), .int x1, .int x2, .int x3, .int x4] v (some (.int r.1)) r.2 := by
  refine cw_of (cc := cL_call) (maxL := 6) (hh := [(0, 58, 59, 26), (0, 58, 65, 28), (0, 58, 71, 30)]) (r := ()) (ex := some ()) (fun (_ : Unit) => (some (Value.int r.1), r.2)) hC.1 rfl (by decide) rfl (Nat.le_of_ble_eq_true rfl) (fun Γ hG hT hN hl => ?_)
  subst hl
  have hnc := (hX _ _ hG.2.2.2.2.2.2.2.2.2).1
  have hfc := (hC.2.2.2 _ _ hG.2.2.2.2.2.2.2.2.2).2.1.2.2
  show Sm Γ Λ (0, 0) 0 [(0, .ref (Λ.2.2.2.1 (0, 0, 0))), (1, .int x1), (2, .int x2), (3, .int x3), (4, .int x4)] [] v _
  unfold f_L_call at hr_
  refine sm_iload_n hG 1 rfl dL_call_0 rfl 1 rfl ?_
  refine sm_bipush (x := (8 : Int32)) hG 3 rfl dL_call_1 rfl ?_
  refine sl_ige hG 18 6 rfl dL_call_3 (by decide) (fun g => ?_) (fun g => ?_)
  · rw [if_neg (Int32.not_lt.mpr g)] at hr_
    refine sm_iload_n hG 19 rfl dL_call_18 rfl 1 rfl ?_
    refine sm_bipush (x := (19 : Int32)) hG 21 rfl dL_call_19 rfl ?_
    refine sl_ige hG 34 24 rfl dL_call_21 (by decide) (fun g => ?_) (fun g => ?_)
    · rw [if_neg (Int32.not_lt.mpr g)] at hr_
      refine sm_iload_n hG 35 rfl dL_call_34 rfl 1 rfl ?_
      refine sm_bipush (x := (30 : Int32)) hG 37 rfl dL_call_35 rfl ?_
      refine sl_ige hG 52 40 rfl dL_call_37 (by decide) (fun g => ?_) (fun g => ?_)
      · rw [if_neg (Int32.not_lt.mpr g)] at hr_
        obtain ⟨q0, hq, hq2⟩ := hc_s hr_
        refine sm_aload_n hG 53 rfl dL_call_52 rfl 0 rfl ?_
        refine sm_iload_n hG 54 rfl dL_call_53 rfl 1 rfl ?_
        refine sm_iload_n hG 55 rfl dL_call_54 rfl 2 rfl ?_
        refine sl_hcallS (hh := [(0, 58, 59, 26), (0, 58, 65, 28), (0, 58, 71, 30)]) (k0 := q0.2.1) (x := .int q0.1) (v' := q0.2.2) hG hT.2.2.2 [.ref (Λ.2.2.2.1 (0, 0, 0)), .int x1, .int x2] 58 rfl (c_L_rest hC hfl hq) gL_call_L_rest rfl (by decide) (by decide) (n := 3) rfl (Nat.le_of_ble_eq_true rfl) (1, 6) ⟨rfl, rfl⟩ (by decide) rfl dL_call_55 hnc hfc (fun h0 => ?_) (fun h0 => ?_)
        · rcases hq2 with ⟨e0, e1⟩ | ⟨e0, e1⟩ | ⟨e0, e1⟩ | ⟨e0, e1⟩
          · subst e1
            exact sl_hret hG hT (by decide) dL_call_58 rfl
          · omega
          · omega
          · omega
        · rcases hq2 with ⟨e0, e1⟩ | ⟨e0, e1⟩ | ⟨e0, e1⟩ | ⟨e0, e1⟩
          · exact absurd e0 h0
          · subst e1
            have hk : q0.2.1 = 1 := e0
            rw [hk]
            refine ⟨[], ⟨0, 58, 59, 26⟩, [⟨0, 58, 65, 28⟩, ⟨0, 58, 71, 30⟩], rfl, (by intro _ h; cases h), rfl, by decide, by decide +kernel, by decide +kernel, fun q => ?_⟩
            refine sm_astore hG 61 rfl dL_call_59 (jlt hN rfl) [(5, .ref q), (0, .ref (Λ.2.2.2.1 (0, 0, 0))), (1, .int x1), (2, .int x2), (3, .int x3), (4, .int x4)] rfl ?_
            refine sm_sipush (x := (-2011 : Int32)) hG 64 rfl dL_call_61 rfl ?_
            exact sl_hret hG hT (by decide) dL_call_64 rfl
          · subst e1
            have hk : q0.2.1 = 2 := e0
            rw [hk]
            refine ⟨[⟨0, 58, 59, 26⟩], ⟨0, 58, 65, 28⟩, [⟨0, 58, 71, 30⟩], rfl, List.forall_mem_cons.mpr ⟨Or.inr ⟨by decide, exN 1, by decide +kernel, by decide +kernel⟩, (by intro _ h; cases h)⟩, rfl, by decide, by decide +kernel, by decide +kernel, fun q => ?_⟩
            refine sm_astore hG 67 rfl dL_call_65 (jlt hN rfl) [(5, .ref q), (0, .ref (Λ.2.2.2.1 (0, 0, 0))), (1, .int x1), (2, .int x2), (3, .int x3), (4, .int x4)] rfl ?_
            refine sm_sipush (x := (-2012 : Int32)) hG 70 rfl dL_call_67 rfl ?_
            exact sl_hret hG hT (by decide) dL_call_70 rfl
          · subst e1
            have hk : q0.2.1 = 3 := e0
            rw [hk]
            refine ⟨[⟨0, 58, 59, 26⟩, ⟨0, 58, 65, 28⟩], ⟨0, 58, 71, 30⟩, [], rfl, List.forall_mem_cons.mpr ⟨Or.inr ⟨by decide, exN 1, by decide +kernel, by decide +kernel⟩, List.forall_mem_cons.mpr ⟨Or.inr ⟨by decide, exN 2, by decide +kernel, by decide +kernel⟩, (by intro _ h; cases h)⟩⟩, rfl, by decide, by decide +kernel, by decide +kernel, fun q => ?_⟩
            refine sm_astore hG 73 rfl dL_call_71 (jlt hN rfl) [(5, .ref q), (0, .ref (Λ.2.2.2.1 (0, 0, 0))), (1, .int x1), (2, .int x2), (3, .int x3), (4, .int x4)] rfl ?_
            refine sm_sipush (x := (-2013 : Int32)) hG 76 rfl dL_call_73 rfl ?_
            exact sl_hret hG hT (by decide) dL_call_76 rfl
      · rw [if_pos (Int32.not_le.mp g)] at hr_
        obtain ⟨q0, hq, hq2⟩ := hc_s hr_
        refine sm_aload_n hG 41 rfl dL_call_40 rfl 0 rfl ?_
        refine sm_iload_n hG 42 rfl dL_call_41 rfl 1 rfl ?_
        refine sm_iload_n hG 43 rfl dL_call_42 rfl 2 rfl ?_
        refine sm_iload_n hG 44 rfl dL_call_43 rfl 3 rfl ?_
        refine sm_iload hG 46 rfl dL_call_44 4 rfl ?_
        refine sl_hcallS (hh := [(0, 58, 59, 26), (0, 58, 65, 28), (0, 58, 71, 30)]) (k0 := q0.2.1) (x := .int q0.1) (v' := q0.2.2) hG hT.2.2.2 [.ref (Λ.2.2.2.1 (0, 0, 0)), .int x1, .int x2, .int x3, .int x4] 49 rfl (c_L_feast hC hfl hq) gL_call_L_feast rfl (by decide) (by decide) (n := 5) rfl (Nat.le_of_ble_eq_true rfl) (4, 24) ⟨rfl, rfl⟩ (by decide) rfl dL_call_46 hnc hfc (fun h0 => ?_) (fun h0 => ?_)
        · refine sm_goto hG 58 dL_call_49 (by decide) ?_
          rcases hq2 with ⟨e0, e1⟩ | ⟨e0, e1⟩ | ⟨e0, e1⟩ | ⟨e0, e1⟩
          · subst e1
            exact sl_hret hG hT (by decide) dL_call_58 rfl
          · omega
          · omega
          · omega
        · rcases hq2 with ⟨e0, e1⟩ | ⟨e0, e1⟩ | ⟨e0, e1⟩ | ⟨e0, e1⟩
          · exact absurd e0 h0
          · subst e1
            have hk : q0.2.1 = 1 := e0
            rw [hk]
            refine ⟨[], ⟨0, 58, 59, 26⟩, [⟨0, 58, 65, 28⟩, ⟨0, 58, 71, 30⟩], rfl, (by intro _ h; cases h), rfl, by decide, by decide +kernel, by decide +kernel, fun q => ?_⟩
            refine sm_astore hG 61 rfl dL_call_59 (jlt hN rfl) [(5, .ref q), (0, .ref (Λ.2.2.2.1 (0, 0, 0))), (1, .int x1), (2, .int x2), (3, .int x3), (4, .int x4)] rfl ?_
            refine sm_sipush (x := (-2011 : Int32)) hG 64 rfl dL_call_61 rfl ?_
            exact sl_hret hG hT (by decide) dL_call_64 rfl
          · subst e1
            have hk : q0.2.1 = 2 := e0
            rw [hk]
            refine ⟨[⟨0, 58, 59, 26⟩], ⟨0, 58, 65, 28⟩, [⟨0, 58, 71, 30⟩], rfl, List.forall_mem_cons.mpr ⟨Or.inr ⟨by decide, exN 1, by decide +kernel, by decide +kernel⟩, (by intro _ h; cases h)⟩, rfl, by decide, by decide +kernel, by decide +kernel, fun q => ?_⟩
            refine sm_astore hG 67 rfl dL_call_65 (jlt hN rfl) [(5, .ref q), (0, .ref (Λ.2.2.2.1 (0, 0, 0))), (1, .int x1), (2, .int x2), (3, .int x3), (4, .int x4)] rfl ?_
            refine sm_sipush (x := (-2012 : Int32)) hG 70 rfl dL_call_67 rfl ?_
            exact sl_hret hG hT (by decide) dL_call_70 rfl
          · subst e1
            have hk : q0.2.1 = 3 := e0
            rw [hk]
            refine ⟨[⟨0, 58, 59, 26⟩, ⟨0, 58, 65, 28⟩], ⟨0, 58, 71, 30⟩, [], rfl, List.forall_mem_cons.mpr ⟨Or.inr ⟨by decide, exN 1, by decide +kernel, by decide +kernel⟩, List.forall_mem_cons.mpr ⟨Or.inr ⟨by decide, exN 2, by decide +kernel, by decide +kernel⟩, (by intro _ h; cases h)⟩⟩, rfl, by decide, by decide +kernel, by decide +kernel, fun q => ?_⟩
            refine sm_astore hG 73 rfl dL_call_71 (jlt hN rfl) [(5, .ref q), (0, .ref (Λ.2.2.2.1 (0, 0, 0))), (1, .int x1), (2, .int x2), (3, .int x3), (4, .int x4)] rfl ?_
            refine sm_sipush (x := (-2013 : Int32)) hG 76 rfl dL_call_73 rfl ?_
            exact sl_hret hG hT (by decide) dL_call_76 rfl
    · rw [if_pos (Int32.not_le.mp g)] at hr_
      obtain ⟨q0, hq, hq2⟩ := hc_s hr_
      refine sm_aload_n hG 25 rfl dL_call_24 rfl 0 rfl ?_
      refine sm_iload_n hG 26 rfl dL_call_25 rfl 1 rfl ?_
      refine sm_iload_n hG 27 rfl dL_call_26 rfl 2 rfl ?_
      refine sm_iload_n hG 28 rfl dL_call_27 rfl 3 rfl ?_
      refine sl_hcallS (hh := [(0, 58, 59, 26), (0, 58, 65, 28), (0, 58, 71, 30)]) (k0 := q0.2.1) (x := .int q0.1) (v' := q0.2.2) hG hT.2.2.2 [.ref (Λ.2.2.2.1 (0, 0, 0)), .int x1, .int x2, .int x3] 31 rfl (c_L_singer hC hfl hq) gL_call_L_singer rfl (by decide) (by decide) (n := 4) rfl (Nat.le_of_ble_eq_true rfl) (2, 12) ⟨rfl, rfl⟩ (by decide) rfl dL_call_28 hnc hfc (fun h0 => ?_) (fun h0 => ?_)
      · refine sm_goto hG 58 dL_call_31 (by decide) ?_
        rcases hq2 with ⟨e0, e1⟩ | ⟨e0, e1⟩ | ⟨e0, e1⟩ | ⟨e0, e1⟩
        · subst e1
          exact sl_hret hG hT (by decide) dL_call_58 rfl
        · omega
        · omega
        · omega
      · rcases hq2 with ⟨e0, e1⟩ | ⟨e0, e1⟩ | ⟨e0, e1⟩ | ⟨e0, e1⟩
        · exact absurd e0 h0
        · subst e1
          have hk : q0.2.1 = 1 := e0
          rw [hk]
          refine ⟨[], ⟨0, 58, 59, 26⟩, [⟨0, 58, 65, 28⟩, ⟨0, 58, 71, 30⟩], rfl, (by intro _ h; cases h), rfl, by decide, by decide +kernel, by decide +kernel, fun q => ?_⟩
          refine sm_astore hG 61 rfl dL_call_59 (jlt hN rfl) [(5, .ref q), (0, .ref (Λ.2.2.2.1 (0, 0, 0))), (1, .int x1), (2, .int x2), (3, .int x3), (4, .int x4)] rfl ?_
          refine sm_sipush (x := (-2011 : Int32)) hG 64 rfl dL_call_61 rfl ?_
          exact sl_hret hG hT (by decide) dL_call_64 rfl
        · subst e1
          have hk : q0.2.1 = 2 := e0
          rw [hk]
          refine ⟨[⟨0, 58, 59, 26⟩], ⟨0, 58, 65, 28⟩, [⟨0, 58, 71, 30⟩], rfl, List.forall_mem_cons.mpr ⟨Or.inr ⟨by decide, exN 1, by decide +kernel, by decide +kernel⟩, (by intro _ h; cases h)⟩, rfl, by decide, by decide +kernel, by decide +kernel, fun q => ?_⟩
          refine sm_astore hG 67 rfl dL_call_65 (jlt hN rfl) [(5, .ref q), (0, .ref (Λ.2.2.2.1 (0, 0, 0))), (1, .int x1), (2, .int x2), (3, .int x3), (4, .int x4)] rfl ?_
          refine sm_sipush (x := (-2012 : Int32)) hG 70 rfl dL_call_67 rfl ?_
          exact sl_hret hG hT (by decide) dL_call_70 rfl
        · subst e1
          have hk : q0.2.1 = 3 := e0
          rw [hk]
          refine ⟨[⟨0, 58, 59, 26⟩, ⟨0, 58, 65, 28⟩], ⟨0, 58, 71, 30⟩, [], rfl, List.forall_mem_cons.mpr ⟨Or.inr ⟨by decide, exN 1, by decide +kernel, by decide +kernel⟩, List.forall_mem_cons.mpr ⟨Or.inr ⟨by decide, exN 2, by decide +kernel, by decide +kernel⟩, (by intro _ h; cases h)⟩⟩, rfl, by decide, by decide +kernel, by decide +kernel, fun q => ?_⟩
          refine sm_astore hG 73 rfl dL_call_71 (jlt hN rfl) [(5, .ref q), (0, .ref (Λ.2.2.2.1 (0, 0, 0))), (1, .int x1), (2, .int x2), (3, .int x3), (4, .int x4)] rfl ?_
          refine sm_sipush (x := (-2013 : Int32)) hG 76 rfl dL_call_73 rfl ?_
          exact sl_hret hG hT (by decide) dL_call_76 rfl
  · rw [if_pos (Int32.not_le.mp g)] at hr_
    obtain ⟨q0, hq, hq2⟩ := hc_s hr_
    refine sm_aload_n hG 7 rfl dL_call_6 rfl 0 rfl ?_
    refine sm_iload_n hG 8 rfl dL_call_7 rfl 1 rfl ?_
    refine sm_iload_n hG 9 rfl dL_call_8 rfl 2 rfl ?_
    refine sm_iload_n hG 10 rfl dL_call_9 rfl 3 rfl ?_
    refine sm_iload hG 12 rfl dL_call_10 4 rfl ?_
    refine sl_hcallS (hh := [(0, 58, 59, 26), (0, 58, 65, 28), (0, 58, 71, 30)]) (k0 := q0.2.1) (x := .int q0.1) (v' := q0.2.2) hG hT.2.2.2 [.ref (Λ.2.2.2.1 (0, 0, 0)), .int x1, .int x2, .int x3, .int x4] 15 rfl (c_L_act hC hfl hq) gL_call_L_act rfl (by decide) (by decide) (n := 5) rfl (Nat.le_of_ble_eq_true rfl) (1, 6) ⟨rfl, rfl⟩ (by decide) rfl dL_call_12 hnc hfc (fun h0 => ?_) (fun h0 => ?_)
    · refine sm_goto hG 58 dL_call_15 (by decide) ?_
      rcases hq2 with ⟨e0, e1⟩ | ⟨e0, e1⟩ | ⟨e0, e1⟩ | ⟨e0, e1⟩
      · subst e1
        exact sl_hret hG hT (by decide) dL_call_58 rfl
      · omega
      · omega
      · omega
    · rcases hq2 with ⟨e0, e1⟩ | ⟨e0, e1⟩ | ⟨e0, e1⟩ | ⟨e0, e1⟩
      · exact absurd e0 h0
      · subst e1
        have hk : q0.2.1 = 1 := e0
        rw [hk]
        refine ⟨[], ⟨0, 58, 59, 26⟩, [⟨0, 58, 65, 28⟩, ⟨0, 58, 71, 30⟩], rfl, (by intro _ h; cases h), rfl, by decide, by decide +kernel, by decide +kernel, fun q => ?_⟩
        refine sm_astore hG 61 rfl dL_call_59 (jlt hN rfl) [(5, .ref q), (0, .ref (Λ.2.2.2.1 (0, 0, 0))), (1, .int x1), (2, .int x2), (3, .int x3), (4, .int x4)] rfl ?_
        refine sm_sipush (x := (-2011 : Int32)) hG 64 rfl dL_call_61 rfl ?_
        exact sl_hret hG hT (by decide) dL_call_64 rfl
      · subst e1
        have hk : q0.2.1 = 2 := e0
        rw [hk]
        refine ⟨[⟨0, 58, 59, 26⟩], ⟨0, 58, 65, 28⟩, [⟨0, 58, 71, 30⟩], rfl, List.forall_mem_cons.mpr ⟨Or.inr ⟨by decide, exN 1, by decide +kernel, by decide +kernel⟩, (by intro _ h; cases h)⟩, rfl, by decide, by decide +kernel, by decide +kernel, fun q => ?_⟩
        refine sm_astore hG 67 rfl dL_call_65 (jlt hN rfl) [(5, .ref q), (0, .ref (Λ.2.2.2.1 (0, 0, 0))), (1, .int x1), (2, .int x2), (3, .int x3), (4, .int x4)] rfl ?_
        refine sm_sipush (x := (-2012 : Int32)) hG 70 rfl dL_call_67 rfl ?_
        exact sl_hret hG hT (by decide) dL_call_70 rfl
      · subst e1
        have hk : q0.2.1 = 3 := e0
        rw [hk]
        refine ⟨[⟨0, 58, 59, 26⟩, ⟨0, 58, 65, 28⟩], ⟨0, 58, 71, 30⟩, [], rfl, List.forall_mem_cons.mpr ⟨Or.inr ⟨by decide, exN 1, by decide +kernel, by decide +kernel⟩, List.forall_mem_cons.mpr ⟨Or.inr ⟨by decide, exN 2, by decide +kernel, by decide +kernel⟩, (by intro _ h; cases h)⟩⟩, rfl, by decide, by decide +kernel, by decide +kernel, fun q => ?_⟩
        refine sm_astore hG 73 rfl dL_call_71 (jlt hN rfl) [(5, .ref q), (0, .ref (Λ.2.2.2.1 (0, 0, 0))), (1, .int x1), (2, .int x2), (3, .int x3), (4, .int x4)] rfl ?_
        refine sm_sipush (x := (-2013 : Int32)) hG 76 rfl dL_call_73 rfl ?_
        exact sl_hret hG hT (by decide) dL_call_76 rfl
