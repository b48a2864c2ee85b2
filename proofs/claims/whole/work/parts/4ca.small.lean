/-! THE LAW'S SMALL METHODS: the call, its answer into the row of one long, or the number of what was thrown -/
def oU (x : Int32) (o : Nat → Int32) : Nat → Int32 := fun i => if i = 0 then x else o i
def oK (k : Nat) (x : Int32) (o : Nat → Int32) : Nat → Int32 := if k = 0 then oU x o else o
def bz (x : Int32) : Int32 := if x = 0 then 0 else 1
section LO
variable {ρ : Type} {Γ : jG ρ} {P : pS} {cs : Nat × Nat} {pc : Nat} {ls : List (Nat × Value)} {st : List Value} {v : mC} {w : mM} {o : Nat → Int32} {ex : Option ρ} {cc : ByteArray} {own : String} {Ts : List Cond} {rm : Room}
theorem sl_out (hG : jOk Γ (lS P) cc own Ts rm) (x : Int32) {y : Int64} (hy : x.toInt64 = y) (pc2 : Nat) (hp : pc + 1 = pc2) (d : decode cc pc = .ok (.lastore, 1)) (k : Sm Γ (lS P) cs pc2 ls st (m3 v w (oU x o)) ex) : Sm Γ (lS P) cs pc ls (.long y :: .int 0 :: .ref P.2.2.2.2.1 :: st) (m3 v w o) ex := by
  subst hy
  refine sl_last hG (.inr (.inr ())) (i := 0) (f := fun i => (o i).toInt64) (n := 1) pc2 hp (by unfold vp_in; decide) trivial rfl d (m3 v w (oU x o)) (fun z _ hz => ?_) ?_ k
  · rcases z with z | z | z
    · rfl
    · rfl
    · exact absurd rfl hz
  · show (Sum.inl (P.2.1 4, 1, Sum.inr (Sum.inl (fun i => (oU x o i).toInt64))) : va_E) = _
    have e : (fun i => (oU x o i).toInt64) = vp_updL (fun i => (o i).toInt64) (ix 0) x.toInt64 := funext fun i => by
      show (if i = 0 then x else o i).toInt64 = if i = 0 then x.toInt64 else (o i).toInt64
      by_cases q : i = 0
      · rw [if_pos q, if_pos q]
      · rw [if_neg q, if_neg q]
    rw [e]
    rfl
theorem sl_oin (hG : jOk Γ (lS P) cc own Ts rm) (pc2 : Nat) (hp : pc + 1 = pc2) (d : decode cc pc = .ok (.laload, 1)) (k : Sm Γ (lS P) cs pc2 ls (.long (o 0).toInt64 :: st) (m3 v w o) ex) : Sm Γ (lS P) cs pc ls (.int 0 :: .ref P.2.2.2.2.1 :: st) (m3 v w o) ex :=
  sl_lald hG (.inr (.inr ())) (i := 0) (f := fun i => (o i).toInt64) (n := 1) pc2 hp (by unfold vp_in; decide) trivial rfl d k
theorem ceS_0 {P : pS} {v : mC} {w : mM} {o : Nat → Int32} : (lS P).2.2.2.2.1 (.inl (0, 0, 0)) (m3 v w o (.inl (0, 0, 0))) = .inr (6, [.ref (P.2.2.1 (1, 0, 0)), .ref (P.2.2.1 (1, 1, 0)), .ref (P.2.2.1 (1, 2, 0)), .int (v (0, 0, 0) 3), .ref (P.2.2.1 (31, 0, 0)), .int (v (0, 0, 0) 5), .ref (P.2.2.1 (32, 0, 0)), .ref (P.2.2.1 (35, 0, 0))]) := rfl
end LO
theorem k_c23 {k : Nat} (hk : k ≤ 3) (hc : c23 k = 0 ↔ k = 0) (h : k ≠ 0) : k = 2 ∨ k = 3 := by
  rcases (show k = 0 ∨ k = 1 ∨ k = 2 ∨ k = 3 by omega) with e | e | e | e <;> subst e <;> first | exact absurd rfl h | exact absurd (hc.mp rfl) (by decide) | exact Or.inl rfl | exact Or.inr (rfl)
theorem k_c13 {k : Nat} (hk : k ≤ 3) (hc : c13 k = 0 ↔ k = 0) (h : k ≠ 0) : k = 1 ∨ k = 3 := by
  rcases (show k = 0 ∨ k = 1 ∨ k = 2 ∨ k = 3 by omega) with e | e | e | e <;> subst e <;> first | exact absurd rfl h | exact absurd (hc.mp rfl) (by decide) | exact Or.inl rfl | exact Or.inr (rfl)
theorem k_c12 {k : Nat} (hk : k ≤ 3) (hc : c12 k = 0 ↔ k = 0) (h : k ≠ 0) : k = 1 ∨ k = 2 := by
  rcases (show k = 0 ∨ k = 1 ∨ k = 2 ∨ k = 3 by omega) with e | e | e | e <;> subst e <;> first | exact absurd rfl h | exact absurd (hc.mp rfl) (by decide) | exact Or.inl rfl | exact Or.inr (rfl)
theorem k_c3 {k : Nat} (hk : k ≤ 3) (hc : c3 k = 0 ↔ k = 0) (h : k ≠ 0) : k = 3 := by
  rcases (show k = 0 ∨ k = 1 ∨ k = 2 ∨ k = 3 by omega) with e | e | e | e <;> subst e <;> first | exact absurd rfl h | exact absurd (hc.mp rfl) (by decide) | rfl
theorem k_c1 {k : Nat} (hk : k ≤ 3) (hc : c1 k = 0 ↔ k = 0) (h : k ≠ 0) : k = 1 := by
  rcases (show k = 0 ∨ k = 1 ∨ k = 2 ∨ k = 3 by omega) with e | e | e | e <;> subst e <;> first | exact absurd rfl h | exact absurd (hc.mp rfl) (by decide) | rfl
theorem k_c123 {k : Nat} (hk : k ≤ 3) (hc : c123 k = 0 ↔ k = 0) (h : k ≠ 0) : k = 1 ∨ k = 2 ∨ k = 3 := by
  rcases (show k = 0 ∨ k = 1 ∨ k = 2 ∨ k = 3 by omega) with e | e | e | e <;> subst e <;> first | exact absurd rfl h | exact absurd (hc.mp rfl) (by decide) | exact Or.inl rfl | exact Or.inr (Or.inl rfl) | exact Or.inr (Or.inr (rfl))
abbrev rmL_register : Room := { frames := rmX6_register.frames + 1, cells := rmX6_register.cells, slots := rmX6_register.slots, locals := 8 + (6 + 11) + rmX6_register.locals }
set_option maxRecDepth 100000 in
set_option maxHeartbeats 4000000 in
theorem c_L_register {P : pS} (hP : Ap P) {x1 x2 x3 x4 x5 : Int32} {l : Launch} (hfl : l.stackTraces = false) {v v' : mC} {w : mM} {o : Nat → Int32} {x : Int32} {k : Nat} (hF : f_X6_register x1 x2 x3 x4 x5 v = some (x, k, v')) (hk : k ≤ 3) (hc : c23 k = 0 ↔ k = 0) : Cw l yL_register wsL_register rmL_register (lS P) [.ref (P.2.2.1 (0, 0, 0)), .int x1, .int x2, .int x3, .int x4, .int x5, .ref P.2.2.2.2.1] (m3 v w o) (some (.int (nI (c23 k)))) (m3 v' w (oK k (x) o)) := by
  refine cw_of (cc := cL_register) (maxL := 8) (hh := [(0, 16, 19, 13), (0, 16, 23, 15)]) (r := ()) (ex := some ()) (fun (_ : Unit) => (some (Value.int (nI (c23 k))), m3 v' w (oK k (x) o))) (lS_ok hP) rfl (by decide) rfl (Nat.le_of_ble_eq_true rfl) (fun Γ hG hT hN hl => ?_)
  subst hl
  have hX : XS P _ _ := hG.2.2.2.2.2.2.2.2.2
  show Sm Γ (lS P) (0, 0) 0 [(0, .ref (P.2.2.1 (0, 0, 0))), (1, .int x1), (2, .int x2), (3, .int x3), (4, .int x4), (5, .int x5), (6, .ref P.2.2.2.2.1)] [] (m3 v w o) _
  refine sm_aload hG 2 rfl dL_register_0 6 rfl ?_
  refine sm_iconst (x := (0 : Int32)) hG 3 rfl dL_register_2 rfl ?_
  refine sm_aload_n hG 4 rfl dL_register_3 rfl 0 rfl ?_
  refine sm_iload_n hG 5 rfl dL_register_4 rfl 1 rfl ?_
  refine sm_iload_n hG 6 rfl dL_register_5 rfl 2 rfl ?_
  refine sm_iload_n hG 7 rfl dL_register_6 rfl 3 rfl ?_
  refine sm_iload hG 9 rfl dL_register_7 4 rfl ?_
  refine sm_iload hG 11 rfl dL_register_9 5 rfl ?_
  refine sl_hcall (hh := [(0, 16, 19, 13), (0, 16, 23, 15)]) (k0 := k) (x := .int x) (v' := m3 v' w o) hG hT.2.2.2 (.inl (0, 0, 0)) [.int x1, .int x2, .int x3, .int x4, .int x5] 14 rfl (ok0 (lC_ok hP)) ceS_0 (ci := 6) rfl (lift_X hP (c_X6_register (lC_ok hP) hfl hF)) gL_register_X6_register rfl (by decide) (by decide) (n := 5) rfl (Nat.le_of_ble_eq_true rfl) (rmX6_register.cells, rmX6_register.slots) ⟨Nat.zero_add _, Nat.zero_add _⟩ (by decide) rfl dL_register_11 hX.2.2 hX.1.2.1.2.2 (fun h0 => ?_) (fun h0 => ?_)
  · subst h0
    refine sl_i2l hG 15 rfl dL_register_14 ?_
    refine sl_out hG x rfl 16 rfl dL_register_15 ?_
    refine sm_goto hG 27 dL_register_16 (by decide) ?_
    refine sm_iconst (x := (0 : Int32)) hG 28 rfl dL_register_27 rfl ?_
    exact sl_hret hG hT (by decide) dL_register_28 rfl
  · rcases k_c23 hk hc h0 with e | e
    · subst e
      refine ⟨[], ⟨0, 16, 19, 13⟩, [⟨0, 16, 23, 15⟩], rfl, (by intro _ h; cases h), rfl, by decide, by decide +kernel, by decide +kernel, fun q => ?_⟩
      refine sm_astore hG 21 rfl dL_register_19 (jlt hN rfl) [(7, .ref q), (0, .ref (P.2.2.1 (0, 0, 0))), (1, .int x1), (2, .int x2), (3, .int x3), (4, .int x4), (5, .int x5), (6, .ref P.2.2.2.2.1)] rfl ?_
      refine sm_iconst (x := (1 : Int32)) hG 22 rfl dL_register_21 rfl ?_
      exact sl_hret hG hT (by decide) dL_register_22 rfl
    · subst e
      refine ⟨[⟨0, 16, 19, 13⟩], ⟨0, 16, 23, 15⟩, [], rfl, List.forall_mem_cons.mpr ⟨Or.inr ⟨by decide, exN 2, by decide +kernel, by decide +kernel⟩, (by intro _ h; cases h)⟩, rfl, by decide, by decide +kernel, by decide +kernel, fun q => ?_⟩
      refine sm_astore hG 25 rfl dL_register_23 (jlt hN rfl) [(7, .ref q), (0, .ref (P.2.2.1 (0, 0, 0))), (1, .int x1), (2, .int x2), (3, .int x3), (4, .int x4), (5, .int x5), (6, .ref P.2.2.2.2.1)] rfl ?_
      refine sm_iconst (x := (2 : Int32)) hG 26 rfl dL_register_25 rfl ?_
      exact sl_hret hG hT (by decide) dL_register_26 rfl
abbrev rmL_leave : Room := { frames := rmX6_leave.frames + 1, cells := rmX6_leave.cells, slots := rmX6_leave.slots, locals := 8 + (2 + 11) + rmX6_leave.locals }
set_option maxRecDepth 100000 in
set_option maxHeartbeats 4000000 in
theorem c_L_leave {P : pS} (hP : Ap P) {x1 : Int32} {l : Launch} (hfl : l.stackTraces = false) {v v' : mC} {w : mM} {o : Nat → Int32} {x : Int32} {k : Nat} (hF : f_X6_leave x1 v = some (x, k, v')) (hk : k ≤ 3) (hc : c13 k = 0 ↔ k = 0) : Cw l yL_leave wsL_leave rmL_leave (lS P) [.ref (P.2.2.1 (0, 0, 0)), .int x1, .ref P.2.2.2.2.1] (m3 v w o) (some (.int (nI (c13 k)))) (m3 v' w (oK k (x) o)) := by
  refine cw_of (cc := cL_leave) (maxL := 4) (hh := [(0, 9, 12, 21), (0, 9, 15, 15)]) (r := ()) (ex := some ()) (fun (_ : Unit) => (some (Value.int (nI (c13 k))), m3 v' w (oK k (x) o))) (lS_ok hP) rfl (by decide) rfl (Nat.le_of_ble_eq_true rfl) (fun Γ hG hT hN hl => ?_)
  subst hl
  have hX : XS P _ _ := hG.2.2.2.2.2.2.2.2.2
  show Sm Γ (lS P) (0, 0) 0 [(0, .ref (P.2.2.1 (0, 0, 0))), (1, .int x1), (2, .ref P.2.2.2.2.1)] [] (m3 v w o) _
  refine sm_aload_n hG 1 rfl dL_leave_0 rfl 2 rfl ?_
  refine sm_iconst (x := (0 : Int32)) hG 2 rfl dL_leave_1 rfl ?_
  refine sm_aload_n hG 3 rfl dL_leave_2 rfl 0 rfl ?_
  refine sm_iload_n hG 4 rfl dL_leave_3 rfl 1 rfl ?_
  refine sl_hcall (hh := [(0, 9, 12, 21), (0, 9, 15, 15)]) (k0 := k) (x := .int x) (v' := m3 v' w o) hG hT.2.2.2 (.inl (0, 0, 0)) [.int x1] 7 rfl (ok0 (lC_ok hP)) ceS_0 (ci := 6) rfl (lift_X hP (c_X6_leave (lC_ok hP) hfl hF)) gL_leave_X6_leave rfl (by decide) (by decide) (n := 1) rfl (Nat.le_of_ble_eq_true rfl) (rmX6_leave.cells, rmX6_leave.slots) ⟨Nat.zero_add _, Nat.zero_add _⟩ (by decide) rfl dL_leave_4 hX.2.2 hX.1.2.1.2.2 (fun h0 => ?_) (fun h0 => ?_)
  · subst h0
    refine sl_i2l hG 8 rfl dL_leave_7 ?_
    refine sl_out hG x rfl 9 rfl dL_leave_8 ?_
    refine sm_goto hG 18 dL_leave_9 (by decide) ?_
    refine sm_iconst (x := (0 : Int32)) hG 19 rfl dL_leave_18 rfl ?_
    exact sl_hret hG hT (by decide) dL_leave_19 rfl
  · rcases k_c13 hk hc h0 with e | e
    · subst e
      refine ⟨[], ⟨0, 9, 12, 21⟩, [⟨0, 9, 15, 15⟩], rfl, (by intro _ h; cases h), rfl, by decide, by decide +kernel, by decide +kernel, fun q => ?_⟩
      refine sm_astore_n hG 13 rfl dL_leave_12 rfl (jlt hN rfl) [(3, .ref q), (0, .ref (P.2.2.1 (0, 0, 0))), (1, .int x1), (2, .ref P.2.2.2.2.1)] rfl ?_
      refine sm_iconst (x := (1 : Int32)) hG 14 rfl dL_leave_13 rfl ?_
      exact sl_hret hG hT (by decide) dL_leave_14 rfl
    · subst e
      refine ⟨[⟨0, 9, 12, 21⟩], ⟨0, 9, 15, 15⟩, [], rfl, List.forall_mem_cons.mpr ⟨Or.inr ⟨by decide, exN 1, by decide +kernel, by decide +kernel⟩, (by intro _ h; cases h)⟩, rfl, by decide, by decide +kernel, by decide +kernel, fun q => ?_⟩
      refine sm_astore_n hG 16 rfl dL_leave_15 rfl (jlt hN rfl) [(3, .ref q), (0, .ref (P.2.2.1 (0, 0, 0))), (1, .int x1), (2, .ref P.2.2.2.2.1)] rfl ?_
      refine sm_iconst (x := (2 : Int32)) hG 17 rfl dL_leave_16 rfl ?_
      exact sl_hret hG hT (by decide) dL_leave_17 rfl
abbrev rmL_borrow : Room := { frames := rmX6_borrow.frames + 1, cells := rmX6_borrow.cells, slots := rmX6_borrow.slots, locals := 8 + (7 + 11) + rmX6_borrow.locals }
set_option maxRecDepth 100000 in
set_option maxHeartbeats 4000000 in
theorem c_L_borrow {P : pS} (hP : Ap P) {x1 x2 x3 x4 x5 x6 : Int32} {l : Launch} (hfl : l.stackTraces = false) {v v' : mC} {w : mM} {o : Nat → Int32} {x : Int32} {k : Nat} (hF : f_X6_borrow x1 x2 x3 x4 x5 x6 v = some (x, k, v')) (hk : k ≤ 3) (hc : c123 k = 0 ↔ k = 0) : Cw l yL_borrow wsL_borrow rmL_borrow (lS P) [.ref (P.2.2.1 (0, 0, 0)), .int x1, .int x2, .int x3, .int x4, .int x5, .int x6, .ref P.2.2.2.2.1] (m3 v w o) (some (.int (nI (c123 k)))) (m3 v' w (oK k (x) o)) := by
  refine cw_of (cc := cL_borrow) (maxL := 9) (hh := [(0, 18, 21, 21), (0, 18, 25, 13), (0, 18, 29, 15)]) (r := ()) (ex := some ()) (fun (_ : Unit) => (some (Value.int (nI (c123 k))), m3 v' w (oK k (x) o))) (lS_ok hP) rfl (by decide) rfl (Nat.le_of_ble_eq_true rfl) (fun Γ hG hT hN hl => ?_)
  subst hl
  have hX : XS P _ _ := hG.2.2.2.2.2.2.2.2.2
  show Sm Γ (lS P) (0, 0) 0 [(0, .ref (P.2.2.1 (0, 0, 0))), (1, .int x1), (2, .int x2), (3, .int x3), (4, .int x4), (5, .int x5), (6, .int x6), (7, .ref P.2.2.2.2.1)] [] (m3 v w o) _
  refine sm_aload hG 2 rfl dL_borrow_0 7 rfl ?_
  refine sm_iconst (x := (0 : Int32)) hG 3 rfl dL_borrow_2 rfl ?_
  refine sm_aload_n hG 4 rfl dL_borrow_3 rfl 0 rfl ?_
  refine sm_iload_n hG 5 rfl dL_borrow_4 rfl 1 rfl ?_
  refine sm_iload_n hG 6 rfl dL_borrow_5 rfl 2 rfl ?_
  refine sm_iload_n hG 7 rfl dL_borrow_6 rfl 3 rfl ?_
  refine sm_iload hG 9 rfl dL_borrow_7 4 rfl ?_
  refine sm_iload hG 11 rfl dL_borrow_9 5 rfl ?_
  refine sm_iload hG 13 rfl dL_borrow_11 6 rfl ?_
  refine sl_hcall (hh := [(0, 18, 21, 21), (0, 18, 25, 13), (0, 18, 29, 15)]) (k0 := k) (x := .int x) (v' := m3 v' w o) hG hT.2.2.2 (.inl (0, 0, 0)) [.int x1, .int x2, .int x3, .int x4, .int x5, .int x6] 16 rfl (ok0 (lC_ok hP)) ceS_0 (ci := 6) rfl (lift_X hP (c_X6_borrow (lC_ok hP) hfl hF)) gL_borrow_X6_borrow rfl (by decide) (by decide) (n := 6) rfl (Nat.le_of_ble_eq_true rfl) (rmX6_borrow.cells, rmX6_borrow.slots) ⟨Nat.zero_add _, Nat.zero_add _⟩ (by decide) rfl dL_borrow_13 hX.2.2 hX.1.2.1.2.2 (fun h0 => ?_) (fun h0 => ?_)
  · subst h0
    refine sl_i2l hG 17 rfl dL_borrow_16 ?_
    refine sl_out hG x rfl 18 rfl dL_borrow_17 ?_
    refine sm_goto hG 33 dL_borrow_18 (by decide) ?_
    refine sm_iconst (x := (0 : Int32)) hG 34 rfl dL_borrow_33 rfl ?_
    exact sl_hret hG hT (by decide) dL_borrow_34 rfl
  · rcases k_c123 hk hc h0 with e | e | e
    · subst e
      refine ⟨[], ⟨0, 18, 21, 21⟩, [⟨0, 18, 25, 13⟩, ⟨0, 18, 29, 15⟩], rfl, (by intro _ h; cases h), rfl, by decide, by decide +kernel, by decide +kernel, fun q => ?_⟩
      refine sm_astore hG 23 rfl dL_borrow_21 (jlt hN rfl) [(8, .ref q), (0, .ref (P.2.2.1 (0, 0, 0))), (1, .int x1), (2, .int x2), (3, .int x3), (4, .int x4), (5, .int x5), (6, .int x6), (7, .ref P.2.2.2.2.1)] rfl ?_
      refine sm_iconst (x := (1 : Int32)) hG 24 rfl dL_borrow_23 rfl ?_
      exact sl_hret hG hT (by decide) dL_borrow_24 rfl
    · subst e
      refine ⟨[⟨0, 18, 21, 21⟩], ⟨0, 18, 25, 13⟩, [⟨0, 18, 29, 15⟩], rfl, List.forall_mem_cons.mpr ⟨Or.inr ⟨by decide, exN 1, by decide +kernel, by decide +kernel⟩, (by intro _ h; cases h)⟩, rfl, by decide, by decide +kernel, by decide +kernel, fun q => ?_⟩
      refine sm_astore hG 27 rfl dL_borrow_25 (jlt hN rfl) [(8, .ref q), (0, .ref (P.2.2.1 (0, 0, 0))), (1, .int x1), (2, .int x2), (3, .int x3), (4, .int x4), (5, .int x5), (6, .int x6), (7, .ref P.2.2.2.2.1)] rfl ?_
      refine sm_iconst (x := (2 : Int32)) hG 28 rfl dL_borrow_27 rfl ?_
      exact sl_hret hG hT (by decide) dL_borrow_28 rfl
    · subst e
      refine ⟨[⟨0, 18, 21, 21⟩, ⟨0, 18, 25, 13⟩], ⟨0, 18, 29, 15⟩, [], rfl, List.forall_mem_cons.mpr ⟨Or.inr ⟨by decide, exN 1, by decide +kernel, by decide +kernel⟩, List.forall_mem_cons.mpr ⟨Or.inr ⟨by decide, exN 2, by decide +kernel, by decide +kernel⟩, (by intro _ h; cases h)⟩⟩, rfl, by decide, by decide +kernel, by decide +kernel, fun q => ?_⟩
      refine sm_astore hG 31 rfl dL_borrow_29 (jlt hN rfl) [(8, .ref q), (0, .ref (P.2.2.1 (0, 0, 0))), (1, .int x1), (2, .int x2), (3, .int x3), (4, .int x4), (5, .int x5), (6, .int x6), (7, .ref P.2.2.2.2.1)] rfl ?_
      refine sm_iconst (x := (3 : Int32)) hG 32 rfl dL_borrow_31 rfl ?_
      exact sl_hret hG hT (by decide) dL_borrow_32 rfl
abbrev rmL_lend : Room := { frames := rmX6_lend.frames + 1, cells := rmX6_lend.cells, slots := rmX6_lend.slots, locals := 8 + (4 + 11) + rmX6_lend.locals }
set_option maxRecDepth 100000 in
set_option maxHeartbeats 4000000 in
theorem c_L_lend {P : pS} (hP : Ap P) {x1 x2 x3 : Int32} {l : Launch} (hfl : l.stackTraces = false) {v v' : mC} {w : mM} {o : Nat → Int32} {x : Int32} {k : Nat} (hF : f_X6_lend x1 x2 x3 v = some (x, k, v')) (hk : k ≤ 3) (hc : c123 k = 0 ↔ k = 0) : Cw l yL_lend wsL_lend rmL_lend (lS P) [.ref (P.2.2.1 (0, 0, 0)), .int x1, .int x2, .int x3, .ref P.2.2.2.2.1] (m3 v w o) (some (.int (nI (c123 k)))) (m3 v' w (oK k (x) o)) := by
  refine cw_of (cc := cL_lend) (maxL := 6) (hh := [(0, 12, 15, 21), (0, 12, 19, 13), (0, 12, 23, 15)]) (r := ()) (ex := some ()) (fun (_ : Unit) => (some (Value.int (nI (c123 k))), m3 v' w (oK k (x) o))) (lS_ok hP) rfl (by decide) rfl (Nat.le_of_ble_eq_true rfl) (fun Γ hG hT hN hl => ?_)
  subst hl
  have hX : XS P _ _ := hG.2.2.2.2.2.2.2.2.2
  show Sm Γ (lS P) (0, 0) 0 [(0, .ref (P.2.2.1 (0, 0, 0))), (1, .int x1), (2, .int x2), (3, .int x3), (4, .ref P.2.2.2.2.1)] [] (m3 v w o) _
  refine sm_aload hG 2 rfl dL_lend_0 4 rfl ?_
  refine sm_iconst (x := (0 : Int32)) hG 3 rfl dL_lend_2 rfl ?_
  refine sm_aload_n hG 4 rfl dL_lend_3 rfl 0 rfl ?_
  refine sm_iload_n hG 5 rfl dL_lend_4 rfl 1 rfl ?_
  refine sm_iload_n hG 6 rfl dL_lend_5 rfl 2 rfl ?_
  refine sm_iload_n hG 7 rfl dL_lend_6 rfl 3 rfl ?_
  refine sl_hcall (hh := [(0, 12, 15, 21), (0, 12, 19, 13), (0, 12, 23, 15)]) (k0 := k) (x := .int x) (v' := m3 v' w o) hG hT.2.2.2 (.inl (0, 0, 0)) [.int x1, .int x2, .int x3] 10 rfl (ok0 (lC_ok hP)) ceS_0 (ci := 6) rfl (lift_X hP (c_X6_lend (lC_ok hP) hfl hF)) gL_lend_X6_lend rfl (by decide) (by decide) (n := 3) rfl (Nat.le_of_ble_eq_true rfl) (rmX6_lend.cells, rmX6_lend.slots) ⟨Nat.zero_add _, Nat.zero_add _⟩ (by decide) rfl dL_lend_7 hX.2.2 hX.1.2.1.2.2 (fun h0 => ?_) (fun h0 => ?_)
  · subst h0
    refine sl_i2l hG 11 rfl dL_lend_10 ?_
    refine sl_out hG x rfl 12 rfl dL_lend_11 ?_
    refine sm_goto hG 27 dL_lend_12 (by decide) ?_
    refine sm_iconst (x := (0 : Int32)) hG 28 rfl dL_lend_27 rfl ?_
    exact sl_hret hG hT (by decide) dL_lend_28 rfl
  · rcases k_c123 hk hc h0 with e | e | e
    · subst e
      refine ⟨[], ⟨0, 12, 15, 21⟩, [⟨0, 12, 19, 13⟩, ⟨0, 12, 23, 15⟩], rfl, (by intro _ h; cases h), rfl, by decide, by decide +kernel, by decide +kernel, fun q => ?_⟩
      refine sm_astore hG 17 rfl dL_lend_15 (jlt hN rfl) [(5, .ref q), (0, .ref (P.2.2.1 (0, 0, 0))), (1, .int x1), (2, .int x2), (3, .int x3), (4, .ref P.2.2.2.2.1)] rfl ?_
      refine sm_iconst (x := (1 : Int32)) hG 18 rfl dL_lend_17 rfl ?_
      exact sl_hret hG hT (by decide) dL_lend_18 rfl
    · subst e
      refine ⟨[⟨0, 12, 15, 21⟩], ⟨0, 12, 19, 13⟩, [⟨0, 12, 23, 15⟩], rfl, List.forall_mem_cons.mpr ⟨Or.inr ⟨by decide, exN 1, by decide +kernel, by decide +kernel⟩, (by intro _ h; cases h)⟩, rfl, by decide, by decide +kernel, by decide +kernel, fun q => ?_⟩
      refine sm_astore hG 21 rfl dL_lend_19 (jlt hN rfl) [(5, .ref q), (0, .ref (P.2.2.1 (0, 0, 0))), (1, .int x1), (2, .int x2), (3, .int x3), (4, .ref P.2.2.2.2.1)] rfl ?_
      refine sm_iconst (x := (2 : Int32)) hG 22 rfl dL_lend_21 rfl ?_
      exact sl_hret hG hT (by decide) dL_lend_22 rfl
    · subst e
      refine ⟨[⟨0, 12, 15, 21⟩, ⟨0, 12, 19, 13⟩], ⟨0, 12, 23, 15⟩, [], rfl, List.forall_mem_cons.mpr ⟨Or.inr ⟨by decide, exN 1, by decide +kernel, by decide +kernel⟩, List.forall_mem_cons.mpr ⟨Or.inr ⟨by decide, exN 2, by decide +kernel, by decide +kernel⟩, (by intro _ h; cases h)⟩⟩, rfl, by decide, by decide +kernel, by decide +kernel, fun q => ?_⟩
      refine sm_astore hG 25 rfl dL_lend_23 (jlt hN rfl) [(5, .ref q), (0, .ref (P.2.2.1 (0, 0, 0))), (1, .int x1), (2, .int x2), (3, .int x3), (4, .ref P.2.2.2.2.1)] rfl ?_
      refine sm_iconst (x := (3 : Int32)) hG 26 rfl dL_lend_25 rfl ?_
      exact sl_hret hG hT (by decide) dL_lend_26 rfl
abbrev rmL_excuse : Room := { frames := rmX6_excuse.frames + 1, cells := rmX6_excuse.cells, slots := rmX6_excuse.slots, locals := 8 + (4 + 11) + rmX6_excuse.locals }
set_option maxRecDepth 100000 in
set_option maxHeartbeats 4000000 in
theorem c_L_excuse {P : pS} (hP : Ap P) {x1 x2 x3 : Int32} {l : Launch} (hfl : l.stackTraces = false) {v v' : mC} {w : mM} {o : Nat → Int32} {x : Int32} {k : Nat} (hF : f_X6_excuse x1 x2 x3 v = some (x, k, v')) (hk : k ≤ 3) (hc : c123 k = 0 ↔ k = 0) : Cw l yL_excuse wsL_excuse rmL_excuse (lS P) [.ref (P.2.2.1 (0, 0, 0)), .int x1, .int x2, .int x3, .ref P.2.2.2.2.1] (m3 v w o) (some (.int (nI (c123 k)))) (m3 v' w (oK k (x) o)) := by
  refine cw_of (cc := cL_excuse) (maxL := 6) (hh := [(0, 12, 15, 21), (0, 12, 19, 13), (0, 12, 23, 15)]) (r := ()) (ex := some ()) (fun (_ : Unit) => (some (Value.int (nI (c123 k))), m3 v' w (oK k (x) o))) (lS_ok hP) rfl (by decide) rfl (Nat.le_of_ble_eq_true rfl) (fun Γ hG hT hN hl => ?_)
  subst hl
  have hX : XS P _ _ := hG.2.2.2.2.2.2.2.2.2
  show Sm Γ (lS P) (0, 0) 0 [(0, .ref (P.2.2.1 (0, 0, 0))), (1, .int x1), (2, .int x2), (3, .int x3), (4, .ref P.2.2.2.2.1)] [] (m3 v w o) _
  refine sm_aload hG 2 rfl dL_excuse_0 4 rfl ?_
  refine sm_iconst (x := (0 : Int32)) hG 3 rfl dL_excuse_2 rfl ?_
  refine sm_aload_n hG 4 rfl dL_excuse_3 rfl 0 rfl ?_
  refine sm_iload_n hG 5 rfl dL_excuse_4 rfl 1 rfl ?_
  refine sm_iload_n hG 6 rfl dL_excuse_5 rfl 2 rfl ?_
  refine sm_iload_n hG 7 rfl dL_excuse_6 rfl 3 rfl ?_
  refine sl_hcall (hh := [(0, 12, 15, 21), (0, 12, 19, 13), (0, 12, 23, 15)]) (k0 := k) (x := .int x) (v' := m3 v' w o) hG hT.2.2.2 (.inl (0, 0, 0)) [.int x1, .int x2, .int x3] 10 rfl (ok0 (lC_ok hP)) ceS_0 (ci := 6) rfl (lift_X hP (c_X6_excuse (lC_ok hP) hfl hF)) gL_excuse_X6_excuse rfl (by decide) (by decide) (n := 3) rfl (Nat.le_of_ble_eq_true rfl) (rmX6_excuse.cells, rmX6_excuse.slots) ⟨Nat.zero_add _, Nat.zero_add _⟩ (by decide) rfl dL_excuse_7 hX.2.2 hX.1.2.1.2.2 (fun h0 => ?_) (fun h0 => ?_)
  · subst h0
    refine sl_i2l hG 11 rfl dL_excuse_10 ?_
    refine sl_out hG x rfl 12 rfl dL_excuse_11 ?_
    refine sm_goto hG 27 dL_excuse_12 (by decide) ?_
    refine sm_iconst (x := (0 : Int32)) hG 28 rfl dL_excuse_27 rfl ?_
    exact sl_hret hG hT (by decide) dL_excuse_28 rfl
  · rcases k_c123 hk hc h0 with e | e | e
    · subst e
      refine ⟨[], ⟨0, 12, 15, 21⟩, [⟨0, 12, 19, 13⟩, ⟨0, 12, 23, 15⟩], rfl, (by intro _ h; cases h), rfl, by decide, by decide +kernel, by decide +kernel, fun q => ?_⟩
      refine sm_astore hG 17 rfl dL_excuse_15 (jlt hN rfl) [(5, .ref q), (0, .ref (P.2.2.1 (0, 0, 0))), (1, .int x1), (2, .int x2), (3, .int x3), (4, .ref P.2.2.2.2.1)] rfl ?_
      refine sm_iconst (x := (1 : Int32)) hG 18 rfl dL_excuse_17 rfl ?_
      exact sl_hret hG hT (by decide) dL_excuse_18 rfl
    · subst e
      refine ⟨[⟨0, 12, 15, 21⟩], ⟨0, 12, 19, 13⟩, [⟨0, 12, 23, 15⟩], rfl, List.forall_mem_cons.mpr ⟨Or.inr ⟨by decide, exN 1, by decide +kernel, by decide +kernel⟩, (by intro _ h; cases h)⟩, rfl, by decide, by decide +kernel, by decide +kernel, fun q => ?_⟩
      refine sm_astore hG 21 rfl dL_excuse_19 (jlt hN rfl) [(5, .ref q), (0, .ref (P.2.2.1 (0, 0, 0))), (1, .int x1), (2, .int x2), (3, .int x3), (4, .ref P.2.2.2.2.1)] rfl ?_
      refine sm_iconst (x := (2 : Int32)) hG 22 rfl dL_excuse_21 rfl ?_
      exact sl_hret hG hT (by decide) dL_excuse_22 rfl
    · subst e
      refine ⟨[⟨0, 12, 15, 21⟩, ⟨0, 12, 19, 13⟩], ⟨0, 12, 23, 15⟩, [], rfl, List.forall_mem_cons.mpr ⟨Or.inr ⟨by decide, exN 1, by decide +kernel, by decide +kernel⟩, List.forall_mem_cons.mpr ⟨Or.inr ⟨by decide, exN 2, by decide +kernel, by decide +kernel⟩, (by intro _ h; cases h)⟩⟩, rfl, by decide, by decide +kernel, by decide +kernel, fun q => ?_⟩
      refine sm_astore hG 25 rfl dL_excuse_23 (jlt hN rfl) [(5, .ref q), (0, .ref (P.2.2.1 (0, 0, 0))), (1, .int x1), (2, .int x2), (3, .int x3), (4, .ref P.2.2.2.2.1)] rfl ?_
      refine sm_iconst (x := (3 : Int32)) hG 26 rfl dL_excuse_25 rfl ?_
      exact sl_hret hG hT (by decide) dL_excuse_26 rfl
abbrev rmL_announce : Room := { frames := rmX6_announce.frames + 1, cells := rmX6_announce.cells, slots := rmX6_announce.slots, locals := 8 + (3 + 11) + rmX6_announce.locals }
set_option maxRecDepth 100000 in
set_option maxHeartbeats 4000000 in
theorem c_L_announce {P : pS} (hP : Ap P) {x1 x2 : Int32} {l : Launch} (hfl : l.stackTraces = false) {v v' : mC} {w : mM} {o : Nat → Int32} {x : Int32} {k : Nat} (hF : f_X6_announce x1 x2 v = some (x, k, v')) (hk : k ≤ 3) (hc : c23 k = 0 ↔ k = 0) : Cw l yL_announce wsL_announce rmL_announce (lS P) [.ref (P.2.2.1 (0, 0, 0)), .int x1, .int x2, .ref P.2.2.2.2.1] (m3 v w o) (some (.int (nI (c23 k)))) (m3 v' w (oK k (x) o)) := by
  refine cw_of (cc := cL_announce) (maxL := 5) (hh := [(0, 10, 13, 13), (0, 10, 17, 15)]) (r := ()) (ex := some ()) (fun (_ : Unit) => (some (Value.int (nI (c23 k))), m3 v' w (oK k (x) o))) (lS_ok hP) rfl (by decide) rfl (Nat.le_of_ble_eq_true rfl) (fun Γ hG hT hN hl => ?_)
  subst hl
  have hX : XS P _ _ := hG.2.2.2.2.2.2.2.2.2
  show Sm Γ (lS P) (0, 0) 0 [(0, .ref (P.2.2.1 (0, 0, 0))), (1, .int x1), (2, .int x2), (3, .ref P.2.2.2.2.1)] [] (m3 v w o) _
  refine sm_aload_n hG 1 rfl dL_announce_0 rfl 3 rfl ?_
  refine sm_iconst (x := (0 : Int32)) hG 2 rfl dL_announce_1 rfl ?_
  refine sm_aload_n hG 3 rfl dL_announce_2 rfl 0 rfl ?_
  refine sm_iload_n hG 4 rfl dL_announce_3 rfl 1 rfl ?_
  refine sm_iload_n hG 5 rfl dL_announce_4 rfl 2 rfl ?_
  refine sl_hcall (hh := [(0, 10, 13, 13), (0, 10, 17, 15)]) (k0 := k) (x := .int x) (v' := m3 v' w o) hG hT.2.2.2 (.inl (0, 0, 0)) [.int x1, .int x2] 8 rfl (ok0 (lC_ok hP)) ceS_0 (ci := 6) rfl (lift_X hP (c_X6_announce (lC_ok hP) hfl hF)) gL_announce_X6_announce rfl (by decide) (by decide) (n := 2) rfl (Nat.le_of_ble_eq_true rfl) (rmX6_announce.cells, rmX6_announce.slots) ⟨Nat.zero_add _, Nat.zero_add _⟩ (by decide) rfl dL_announce_5 hX.2.2 hX.1.2.1.2.2 (fun h0 => ?_) (fun h0 => ?_)
  · subst h0
    refine sl_i2l hG 9 rfl dL_announce_8 ?_
    refine sl_out hG x rfl 10 rfl dL_announce_9 ?_
    refine sm_goto hG 21 dL_announce_10 (by decide) ?_
    refine sm_iconst (x := (0 : Int32)) hG 22 rfl dL_announce_21 rfl ?_
    exact sl_hret hG hT (by decide) dL_announce_22 rfl
  · rcases k_c23 hk hc h0 with e | e
    · subst e
      refine ⟨[], ⟨0, 10, 13, 13⟩, [⟨0, 10, 17, 15⟩], rfl, (by intro _ h; cases h), rfl, by decide, by decide +kernel, by decide +kernel, fun q => ?_⟩
      refine sm_astore hG 15 rfl dL_announce_13 (jlt hN rfl) [(4, .ref q), (0, .ref (P.2.2.1 (0, 0, 0))), (1, .int x1), (2, .int x2), (3, .ref P.2.2.2.2.1)] rfl ?_
      refine sm_iconst (x := (1 : Int32)) hG 16 rfl dL_announce_15 rfl ?_
      exact sl_hret hG hT (by decide) dL_announce_16 rfl
    · subst e
      refine ⟨[⟨0, 10, 13, 13⟩], ⟨0, 10, 17, 15⟩, [], rfl, List.forall_mem_cons.mpr ⟨Or.inr ⟨by decide, exN 2, by decide +kernel, by decide +kernel⟩, (by intro _ h; cases h)⟩, rfl, by decide, by decide +kernel, by decide +kernel, fun q => ?_⟩
      refine sm_astore hG 19 rfl dL_announce_17 (jlt hN rfl) [(4, .ref q), (0, .ref (P.2.2.1 (0, 0, 0))), (1, .int x1), (2, .int x2), (3, .ref P.2.2.2.2.1)] rfl ?_
      refine sm_iconst (x := (2 : Int32)) hG 20 rfl dL_announce_19 rfl ?_
      exact sl_hret hG hT (by decide) dL_announce_20 rfl
abbrev rmL_setLine : Room := { frames := rmX6_setLine.frames + 1, cells := rmX6_setLine.cells, slots := rmX6_setLine.slots, locals := 8 + (6 + 11) + rmX6_setLine.locals }
set_option maxRecDepth 100000 in
set_option maxHeartbeats 4000000 in
theorem c_L_setLine {P : pS} (hP : Ap P) {x1 x2 x3 x4 x5 : Int32} {l : Launch} (hfl : l.stackTraces = false) {v v' : mC} {w : mM} {o : Nat → Int32} {x : Int32} {k : Nat} (hF : f_X6_setLine x1 x2 x3 x4 x5 v = some (x, k, v')) (hk : k ≤ 3) (hc : c123 k = 0 ↔ k = 0) : Cw l yL_setLine wsL_setLine rmL_setLine (lS P) [.ref (P.2.2.1 (0, 0, 0)), .int x1, .int x2, .int x3, .int x4, .int x5, .ref P.2.2.2.2.1] (m3 v w o) (some (.int (nI (c123 k)))) (m3 v' w (oK k (x) o)) := by
  refine cw_of (cc := cL_setLine) (maxL := 8) (hh := [(0, 16, 19, 21), (0, 16, 23, 13), (0, 16, 27, 15)]) (r := ()) (ex := some ()) (fun (_ : Unit) => (some (Value.int (nI (c123 k))), m3 v' w (oK k (x) o))) (lS_ok hP) rfl (by decide) rfl (Nat.le_of_ble_eq_true rfl) (fun Γ hG hT hN hl => ?_)
  subst hl
  have hX : XS P _ _ := hG.2.2.2.2.2.2.2.2.2
  show Sm Γ (lS P) (0, 0) 0 [(0, .ref (P.2.2.1 (0, 0, 0))), (1, .int x1), (2, .int x2), (3, .int x3), (4, .int x4), (5, .int x5), (6, .ref P.2.2.2.2.1)] [] (m3 v w o) _
  refine sm_aload hG 2 rfl dL_setLine_0 6 rfl ?_
  refine sm_iconst (x := (0 : Int32)) hG 3 rfl dL_setLine_2 rfl ?_
  refine sm_aload_n hG 4 rfl dL_setLine_3 rfl 0 rfl ?_
  refine sm_iload_n hG 5 rfl dL_setLine_4 rfl 1 rfl ?_
  refine sm_iload_n hG 6 rfl dL_setLine_5 rfl 2 rfl ?_
  refine sm_iload_n hG 7 rfl dL_setLine_6 rfl 3 rfl ?_
  refine sm_iload hG 9 rfl dL_setLine_7 4 rfl ?_
  refine sm_iload hG 11 rfl dL_setLine_9 5 rfl ?_
  refine sl_hcall (hh := [(0, 16, 19, 21), (0, 16, 23, 13), (0, 16, 27, 15)]) (k0 := k) (x := .int x) (v' := m3 v' w o) hG hT.2.2.2 (.inl (0, 0, 0)) [.int x1, .int x2, .int x3, .int x4, .int x5] 14 rfl (ok0 (lC_ok hP)) ceS_0 (ci := 6) rfl (lift_X hP (c_X6_setLine (lC_ok hP) hfl hF)) gL_setLine_X6_setLine rfl (by decide) (by decide) (n := 5) rfl (Nat.le_of_ble_eq_true rfl) (rmX6_setLine.cells, rmX6_setLine.slots) ⟨Nat.zero_add _, Nat.zero_add _⟩ (by decide) rfl dL_setLine_11 hX.2.2 hX.1.2.1.2.2 (fun h0 => ?_) (fun h0 => ?_)
  · subst h0
    refine sl_i2l hG 15 rfl dL_setLine_14 ?_
    refine sl_out hG x rfl 16 rfl dL_setLine_15 ?_
    refine sm_goto hG 31 dL_setLine_16 (by decide) ?_
    refine sm_iconst (x := (0 : Int32)) hG 32 rfl dL_setLine_31 rfl ?_
    exact sl_hret hG hT (by decide) dL_setLine_32 rfl
  · rcases k_c123 hk hc h0 with e | e | e
    · subst e
      refine ⟨[], ⟨0, 16, 19, 21⟩, [⟨0, 16, 23, 13⟩, ⟨0, 16, 27, 15⟩], rfl, (by intro _ h; cases h), rfl, by decide, by decide +kernel, by decide +kernel, fun q => ?_⟩
      refine sm_astore hG 21 rfl dL_setLine_19 (jlt hN rfl) [(7, .ref q), (0, .ref (P.2.2.1 (0, 0, 0))), (1, .int x1), (2, .int x2), (3, .int x3), (4, .int x4), (5, .int x5), (6, .ref P.2.2.2.2.1)] rfl ?_
      refine sm_iconst (x := (1 : Int32)) hG 22 rfl dL_setLine_21 rfl ?_
      exact sl_hret hG hT (by decide) dL_setLine_22 rfl
    · subst e
      refine ⟨[⟨0, 16, 19, 21⟩], ⟨0, 16, 23, 13⟩, [⟨0, 16, 27, 15⟩], rfl, List.forall_mem_cons.mpr ⟨Or.inr ⟨by decide, exN 1, by decide +kernel, by decide +kernel⟩, (by intro _ h; cases h)⟩, rfl, by decide, by decide +kernel, by decide +kernel, fun q => ?_⟩
      refine sm_astore hG 25 rfl dL_setLine_23 (jlt hN rfl) [(7, .ref q), (0, .ref (P.2.2.1 (0, 0, 0))), (1, .int x1), (2, .int x2), (3, .int x3), (4, .int x4), (5, .int x5), (6, .ref P.2.2.2.2.1)] rfl ?_
      refine sm_iconst (x := (2 : Int32)) hG 26 rfl dL_setLine_25 rfl ?_
      exact sl_hret hG hT (by decide) dL_setLine_26 rfl
    · subst e
      refine ⟨[⟨0, 16, 19, 21⟩, ⟨0, 16, 23, 13⟩], ⟨0, 16, 27, 15⟩, [], rfl, List.forall_mem_cons.mpr ⟨Or.inr ⟨by decide, exN 1, by decide +kernel, by decide +kernel⟩, List.forall_mem_cons.mpr ⟨Or.inr ⟨by decide, exN 2, by decide +kernel, by decide +kernel⟩, (by intro _ h; cases h)⟩⟩, rfl, by decide, by decide +kernel, by decide +kernel, fun q => ?_⟩
      refine sm_astore hG 29 rfl dL_setLine_27 (jlt hN rfl) [(7, .ref q), (0, .ref (P.2.2.1 (0, 0, 0))), (1, .int x1), (2, .int x2), (3, .int x3), (4, .int x4), (5, .int x5), (6, .ref P.2.2.2.2.1)] rfl ?_
      refine sm_iconst (x := (3 : Int32)) hG 30 rfl dL_setLine_29 rfl ?_
      exact sl_hret hG hT (by decide) dL_setLine_30 rfl
abbrev rmL_passDays : Room := { frames := rmX6_passDays.frames + 1, cells := rmX6_passDays.cells, slots := rmX6_passDays.slots, locals := 8 + (2 + 11) + rmX6_passDays.locals }
set_option maxRecDepth 100000 in
set_option maxHeartbeats 4000000 in
theorem c_L_passDays {P : pS} (hP : Ap P) {x1 : Int32} {l : Launch} (hfl : l.stackTraces = false) {v v' : mC} {w : mM} {o : Nat → Int32} {x : Int32} {k : Nat} (hF : f_X6_passDays x1 v = some (x, k, v')) (hk : k ≤ 3) (hc : c23 k = 0 ↔ k = 0) : Cw l yL_passDays wsL_passDays rmL_passDays (lS P) [.ref (P.2.2.1 (0, 0, 0)), .int x1, .ref P.2.2.2.2.1] (m3 v w o) (some (.int (nI (c23 k)))) (m3 v' w (oK k (x) o)) := by
  refine cw_of (cc := cL_passDays) (maxL := 4) (hh := [(0, 9, 12, 13), (0, 9, 15, 15)]) (r := ()) (ex := some ()) (fun (_ : Unit) => (some (Value.int (nI (c23 k))), m3 v' w (oK k (x) o))) (lS_ok hP) rfl (by decide) rfl (Nat.le_of_ble_eq_true rfl) (fun Γ hG hT hN hl => ?_)
  subst hl
  have hX : XS P _ _ := hG.2.2.2.2.2.2.2.2.2
  show Sm Γ (lS P) (0, 0) 0 [(0, .ref (P.2.2.1 (0, 0, 0))), (1, .int x1), (2, .ref P.2.2.2.2.1)] [] (m3 v w o) _
  refine sm_aload_n hG 1 rfl dL_passDays_0 rfl 2 rfl ?_
  refine sm_iconst (x := (0 : Int32)) hG 2 rfl dL_passDays_1 rfl ?_
  refine sm_aload_n hG 3 rfl dL_passDays_2 rfl 0 rfl ?_
  refine sm_iload_n hG 4 rfl dL_passDays_3 rfl 1 rfl ?_
  refine sl_hcall (hh := [(0, 9, 12, 13), (0, 9, 15, 15)]) (k0 := k) (x := .int x) (v' := m3 v' w o) hG hT.2.2.2 (.inl (0, 0, 0)) [.int x1] 7 rfl (ok0 (lC_ok hP)) ceS_0 (ci := 6) rfl (lift_X hP (c_X6_passDays (lC_ok hP) hfl hF)) gL_passDays_X6_passDays rfl (by decide) (by decide) (n := 1) rfl (Nat.le_of_ble_eq_true rfl) (rmX6_passDays.cells, rmX6_passDays.slots) ⟨Nat.zero_add _, Nat.zero_add _⟩ (by decide) rfl dL_passDays_4 hX.2.2 hX.1.2.1.2.2 (fun h0 => ?_) (fun h0 => ?_)
  · subst h0
    refine sl_i2l hG 8 rfl dL_passDays_7 ?_
    refine sl_out hG x rfl 9 rfl dL_passDays_8 ?_
    refine sm_goto hG 18 dL_passDays_9 (by decide) ?_
    refine sm_iconst (x := (0 : Int32)) hG 19 rfl dL_passDays_18 rfl ?_
    exact sl_hret hG hT (by decide) dL_passDays_19 rfl
  · rcases k_c23 hk hc h0 with e | e
    · subst e
      refine ⟨[], ⟨0, 9, 12, 13⟩, [⟨0, 9, 15, 15⟩], rfl, (by intro _ h; cases h), rfl, by decide, by decide +kernel, by decide +kernel, fun q => ?_⟩
      refine sm_astore_n hG 13 rfl dL_passDays_12 rfl (jlt hN rfl) [(3, .ref q), (0, .ref (P.2.2.1 (0, 0, 0))), (1, .int x1), (2, .ref P.2.2.2.2.1)] rfl ?_
      refine sm_iconst (x := (1 : Int32)) hG 14 rfl dL_passDays_13 rfl ?_
      exact sl_hret hG hT (by decide) dL_passDays_14 rfl
    · subst e
      refine ⟨[⟨0, 9, 12, 13⟩], ⟨0, 9, 15, 15⟩, [], rfl, List.forall_mem_cons.mpr ⟨Or.inr ⟨by decide, exN 2, by decide +kernel, by decide +kernel⟩, (by intro _ h; cases h)⟩, rfl, by decide, by decide +kernel, by decide +kernel, fun q => ?_⟩
      refine sm_astore_n hG 16 rfl dL_passDays_15 rfl (jlt hN rfl) [(3, .ref q), (0, .ref (P.2.2.1 (0, 0, 0))), (1, .int x1), (2, .ref P.2.2.2.2.1)] rfl ?_
      refine sm_iconst (x := (2 : Int32)) hG 17 rfl dL_passDays_16 rfl ?_
      exact sl_hret hG hT (by decide) dL_passDays_17 rfl
abbrev rmL_type : Room := { frames := rmX6_type.frames + 1, cells := rmX6_type.cells, slots := rmX6_type.slots, locals := 8 + (2 + 11) + rmX6_type.locals }
set_option maxRecDepth 100000 in
set_option maxHeartbeats 4000000 in
theorem c_L_type {P : pS} (hP : Ap P) {x1 : Int32} {l : Launch} (hfl : l.stackTraces = false) {v v' : mC} {w : mM} {o : Nat → Int32} {x : Int32} {k : Nat} (hF : f_X6_type x1 v = some (x, k, v')) (hk : k ≤ 3) (hc : c3 k = 0 ↔ k = 0) : Cw l yL_type wsL_type rmL_type (lS P) [.ref (P.2.2.1 (0, 0, 0)), .int x1, .ref P.2.2.2.2.1] (m3 v w o) (some (.int (nI (c3 k)))) (m3 v' w (oK k (x) o)) := by
  refine cw_of (cc := cL_type) (maxL := 4) (hh := [(0, 9, 12, 15)]) (r := ()) (ex := some ()) (fun (_ : Unit) => (some (Value.int (nI (c3 k))), m3 v' w (oK k (x) o))) (lS_ok hP) rfl (by decide) rfl (Nat.le_of_ble_eq_true rfl) (fun Γ hG hT hN hl => ?_)
  subst hl
  have hX : XS P _ _ := hG.2.2.2.2.2.2.2.2.2
  show Sm Γ (lS P) (0, 0) 0 [(0, .ref (P.2.2.1 (0, 0, 0))), (1, .int x1), (2, .ref P.2.2.2.2.1)] [] (m3 v w o) _
  refine sm_aload_n hG 1 rfl dL_type_0 rfl 2 rfl ?_
  refine sm_iconst (x := (0 : Int32)) hG 2 rfl dL_type_1 rfl ?_
  refine sm_aload_n hG 3 rfl dL_type_2 rfl 0 rfl ?_
  refine sm_iload_n hG 4 rfl dL_type_3 rfl 1 rfl ?_
  refine sl_hcall (hh := [(0, 9, 12, 15)]) (k0 := k) (x := .int x) (v' := m3 v' w o) hG hT.2.2.2 (.inl (0, 0, 0)) [.int x1] 7 rfl (ok0 (lC_ok hP)) ceS_0 (ci := 6) rfl (lift_X hP (c_X6_type (lC_ok hP) hfl hF)) gL_type_X6_type rfl (by decide) (by decide) (n := 1) rfl (Nat.le_of_ble_eq_true rfl) (rmX6_type.cells, rmX6_type.slots) ⟨Nat.zero_add _, Nat.zero_add _⟩ (by decide) rfl dL_type_4 hX.2.2 hX.1.2.1.2.2 (fun h0 => ?_) (fun h0 => ?_)
  · subst h0
    refine sl_i2l hG 8 rfl dL_type_7 ?_
    refine sl_out hG x rfl 9 rfl dL_type_8 ?_
    refine sm_goto hG 15 dL_type_9 (by decide) ?_
    refine sm_iconst (x := (0 : Int32)) hG 16 rfl dL_type_15 rfl ?_
    exact sl_hret hG hT (by decide) dL_type_16 rfl
  · rcases k_c3 hk hc h0 with e
    · subst e
      refine ⟨[], ⟨0, 9, 12, 15⟩, [], rfl, (by intro _ h; cases h), rfl, by decide, by decide +kernel, by decide +kernel, fun q => ?_⟩
      refine sm_astore_n hG 13 rfl dL_type_12 rfl (jlt hN rfl) [(3, .ref q), (0, .ref (P.2.2.1 (0, 0, 0))), (1, .int x1), (2, .ref P.2.2.2.2.1)] rfl ?_
      refine sm_iconst (x := (1 : Int32)) hG 14 rfl dL_type_13 rfl ?_
      exact sl_hret hG hT (by decide) dL_type_14 rfl
abbrev rmL_impossibleOrder : Room := { frames := rmX6_impossibleOrder.frames + 1, cells := rmX6_impossibleOrder.cells, slots := rmX6_impossibleOrder.slots, locals := 8 + (1 + 11) + rmX6_impossibleOrder.locals }
set_option maxRecDepth 100000 in
set_option maxHeartbeats 4000000 in
theorem c_L_impossibleOrder {P : pS} (hP : Ap P) {l : Launch} (hfl : l.stackTraces = false) {v v' : mC} {w : mM} {o : Nat → Int32} {x : Int32} {k : Nat} (hF : f_X6_impossibleOrder v = some (x, k, v')) (hk : k ≤ 3) (hc : c3 k = 0 ↔ k = 0) : Cw l yL_impossibleOrder wsL_impossibleOrder rmL_impossibleOrder (lS P) [.ref (P.2.2.1 (0, 0, 0)), .ref P.2.2.2.2.1] (m3 v w o) (some (.int (nI (c3 k)))) (m3 v' w (oK k (x) o)) := by
  refine cw_of (cc := cL_impossibleOrder) (maxL := 3) (hh := [(0, 8, 11, 15)]) (r := ()) (ex := some ()) (fun (_ : Unit) => (some (Value.int (nI (c3 k))), m3 v' w (oK k (x) o))) (lS_ok hP) rfl (by decide) rfl (Nat.le_of_ble_eq_true rfl) (fun Γ hG hT hN hl => ?_)
  subst hl
  have hX : XS P _ _ := hG.2.2.2.2.2.2.2.2.2
  show Sm Γ (lS P) (0, 0) 0 [(0, .ref (P.2.2.1 (0, 0, 0))), (1, .ref P.2.2.2.2.1)] [] (m3 v w o) _
  refine sm_aload_n hG 1 rfl dL_impossibleOrder_0 rfl 1 rfl ?_
  refine sm_iconst (x := (0 : Int32)) hG 2 rfl dL_impossibleOrder_1 rfl ?_
  refine sm_aload_n hG 3 rfl dL_impossibleOrder_2 rfl 0 rfl ?_
  refine sl_hcall (hh := [(0, 8, 11, 15)]) (k0 := k) (x := .int x) (v' := m3 v' w o) hG hT.2.2.2 (.inl (0, 0, 0)) [] 6 rfl (ok0 (lC_ok hP)) ceS_0 (ci := 6) rfl (lift_X hP (c_X6_impossibleOrder (lC_ok hP) hfl hF)) gL_impossibleOrder_X6_impossibleOrder rfl (by decide) (by decide) (n := 0) rfl (Nat.le_of_ble_eq_true rfl) (rmX6_impossibleOrder.cells, rmX6_impossibleOrder.slots) ⟨Nat.zero_add _, Nat.zero_add _⟩ (by decide) rfl dL_impossibleOrder_3 hX.2.2 hX.1.2.1.2.2 (fun h0 => ?_) (fun h0 => ?_)
  · subst h0
    refine sl_i2l hG 7 rfl dL_impossibleOrder_6 ?_
    refine sl_out hG x rfl 8 rfl dL_impossibleOrder_7 ?_
    refine sm_goto hG 14 dL_impossibleOrder_8 (by decide) ?_
    refine sm_iconst (x := (0 : Int32)) hG 15 rfl dL_impossibleOrder_14 rfl ?_
    exact sl_hret hG hT (by decide) dL_impossibleOrder_15 rfl
  · rcases k_c3 hk hc h0 with e
    · subst e
      refine ⟨[], ⟨0, 8, 11, 15⟩, [], rfl, (by intro _ h; cases h), rfl, by decide, by decide +kernel, by decide +kernel, fun q => ?_⟩
      refine sm_astore_n hG 12 rfl dL_impossibleOrder_11 rfl (jlt hN rfl) [(2, .ref q), (0, .ref (P.2.2.1 (0, 0, 0))), (1, .ref P.2.2.2.2.1)] rfl ?_
      refine sm_iconst (x := (1 : Int32)) hG 13 rfl dL_impossibleOrder_12 rfl ?_
      exact sl_hret hG hT (by decide) dL_impossibleOrder_13 rfl
abbrev rmL_carryOut : Room := { frames := rmX6_carryOut.frames + 1, cells := rmX6_carryOut.cells, slots := rmX6_carryOut.slots, locals := 8 + (2 + 11) + rmX6_carryOut.locals }
set_option maxRecDepth 100000 in
set_option maxHeartbeats 4000000 in
theorem c_L_carryOut {P : pS} (hP : Ap P) {l : Launch} (hfl : l.stackTraces = false) {v v' : mC} {w : mM} {o : Nat → Int32} {x : Int32} {k : Nat} (hF : f_X6_carryOut v = some (x, k, v')) (hk : k ≤ 3) (hc : c3 k = 0 ↔ k = 0) : Cw l yL_carryOut wsL_carryOut rmL_carryOut (lS P) [.ref (P.2.2.1 (0, 0, 0)), .ref P.2.2.2.2.1] (m3 v w o) (some (.int (nI (c3 k)))) (m3 v' w (oK k (x) o)) := by
  refine cw_of (cc := cL_carryOut) (maxL := 3) (hh := [(0, 8, 11, 15)]) (r := ()) (ex := some ()) (fun (_ : Unit) => (some (Value.int (nI (c3 k))), m3 v' w (oK k (x) o))) (lS_ok hP) rfl (by decide) rfl (Nat.le_of_ble_eq_true rfl) (fun Γ hG hT hN hl => ?_)
  subst hl
  have hX : XS P _ _ := hG.2.2.2.2.2.2.2.2.2
  show Sm Γ (lS P) (0, 0) 0 [(0, .ref (P.2.2.1 (0, 0, 0))), (1, .ref P.2.2.2.2.1)] [] (m3 v w o) _
  refine sm_aload_n hG 1 rfl dL_carryOut_0 rfl 1 rfl ?_
  refine sm_iconst (x := (0 : Int32)) hG 2 rfl dL_carryOut_1 rfl ?_
  refine sm_aload_n hG 3 rfl dL_carryOut_2 rfl 0 rfl ?_
  refine sl_hcall (hh := [(0, 8, 11, 15)]) (k0 := k) (x := .int x) (v' := m3 v' w o) hG hT.2.2.2 (.inl (0, 0, 0)) [] 6 rfl (ok0 (lC_ok hP)) ceS_0 (ci := 6) rfl (lift_X hP (c_X6_carryOut (lC_ok hP) hfl hF)) gL_carryOut_X6_carryOut rfl (by decide) (by decide) (n := 0) rfl (Nat.le_of_ble_eq_true rfl) (rmX6_carryOut.cells, rmX6_carryOut.slots) ⟨Nat.zero_add _, Nat.zero_add _⟩ (by decide) rfl dL_carryOut_3 hX.2.2 hX.1.2.1.2.2 (fun h0 => ?_) (fun h0 => ?_)
  · subst h0
    refine sl_i2l hG 7 rfl dL_carryOut_6 ?_
    refine sl_out hG x rfl 8 rfl dL_carryOut_7 ?_
    refine sm_goto hG 14 dL_carryOut_8 (by decide) ?_
    refine sm_iconst (x := (0 : Int32)) hG 15 rfl dL_carryOut_14 rfl ?_
    exact sl_hret hG hT (by decide) dL_carryOut_15 rfl
  · rcases k_c3 hk hc h0 with e
    · subst e
      refine ⟨[], ⟨0, 8, 11, 15⟩, [], rfl, (by intro _ h; cases h), rfl, by decide, by decide +kernel, by decide +kernel, fun q => ?_⟩
      refine sm_astore_n hG 12 rfl dL_carryOut_11 rfl (jlt hN rfl) [(2, .ref q), (0, .ref (P.2.2.1 (0, 0, 0))), (1, .ref P.2.2.2.2.1)] rfl ?_
      refine sm_iconst (x := (1 : Int32)) hG 13 rfl dL_carryOut_12 rfl ?_
      exact sl_hret hG hT (by decide) dL_carryOut_13 rfl
abbrev rmL_undo : Room := { frames := rmX6_undo.frames + 1, cells := rmX6_undo.cells, slots := rmX6_undo.slots, locals := 8 + (1 + 11) + rmX6_undo.locals }
set_option maxRecDepth 100000 in
set_option maxHeartbeats 4000000 in
theorem c_L_undo {P : pS} (hP : Ap P) {l : Launch} (hfl : l.stackTraces = false) {v v' : mC} {w : mM} {o : Nat → Int32} {x : Int32} {k : Nat} (hF : f_X6_undo v = some (x, k, v')) (hk : k ≤ 3) (hc : c3 k = 0 ↔ k = 0) : Cw l yL_undo wsL_undo rmL_undo (lS P) [.ref (P.2.2.1 (0, 0, 0)), .ref P.2.2.2.2.1] (m3 v w o) (some (.int (nI (c3 k)))) (m3 v' w (oK k (x) o)) := by
  refine cw_of (cc := cL_undo) (maxL := 3) (hh := [(0, 8, 11, 15)]) (r := ()) (ex := some ()) (fun (_ : Unit) => (some (Value.int (nI (c3 k))), m3 v' w (oK k (x) o))) (lS_ok hP) rfl (by decide) rfl (Nat.le_of_ble_eq_true rfl) (fun Γ hG hT hN hl => ?_)
  subst hl
  have hX : XS P _ _ := hG.2.2.2.2.2.2.2.2.2
  show Sm Γ (lS P) (0, 0) 0 [(0, .ref (P.2.2.1 (0, 0, 0))), (1, .ref P.2.2.2.2.1)] [] (m3 v w o) _
  refine sm_aload_n hG 1 rfl dL_undo_0 rfl 1 rfl ?_
  refine sm_iconst (x := (0 : Int32)) hG 2 rfl dL_undo_1 rfl ?_
  refine sm_aload_n hG 3 rfl dL_undo_2 rfl 0 rfl ?_
  refine sl_hcall (hh := [(0, 8, 11, 15)]) (k0 := k) (x := .int x) (v' := m3 v' w o) hG hT.2.2.2 (.inl (0, 0, 0)) [] 6 rfl (ok0 (lC_ok hP)) ceS_0 (ci := 6) rfl (lift_X hP (c_X6_undo (lC_ok hP) hfl hF)) gL_undo_X6_undo rfl (by decide) (by decide) (n := 0) rfl (Nat.le_of_ble_eq_true rfl) (rmX6_undo.cells, rmX6_undo.slots) ⟨Nat.zero_add _, Nat.zero_add _⟩ (by decide) rfl dL_undo_3 hX.2.2 hX.1.2.1.2.2 (fun h0 => ?_) (fun h0 => ?_)
  · subst h0
    refine sl_i2l hG 7 rfl dL_undo_6 ?_
    refine sl_out hG x rfl 8 rfl dL_undo_7 ?_
    refine sm_goto hG 14 dL_undo_8 (by decide) ?_
    refine sm_iconst (x := (0 : Int32)) hG 15 rfl dL_undo_14 rfl ?_
    exact sl_hret hG hT (by decide) dL_undo_15 rfl
  · rcases k_c3 hk hc h0 with e
    · subst e
      refine ⟨[], ⟨0, 8, 11, 15⟩, [], rfl, (by intro _ h; cases h), rfl, by decide, by decide +kernel, by decide +kernel, fun q => ?_⟩
      refine sm_astore_n hG 12 rfl dL_undo_11 rfl (jlt hN rfl) [(2, .ref q), (0, .ref (P.2.2.1 (0, 0, 0))), (1, .ref P.2.2.2.2.1)] rfl ?_
      refine sm_iconst (x := (1 : Int32)) hG 13 rfl dL_undo_12 rfl ?_
      exact sl_hret hG hT (by decide) dL_undo_13 rfl
abbrev rmL_restoreSnapshot : Room := { frames := rmX6_restoreSnapshot.frames + 1, cells := rmX6_restoreSnapshot.cells, slots := rmX6_restoreSnapshot.slots, locals := 8 + (1 + 11) + rmX6_restoreSnapshot.locals }
set_option maxRecDepth 100000 in
set_option maxHeartbeats 4000000 in
theorem c_L_restoreSnapshot {P : pS} (hP : Ap P) {l : Launch} (hfl : l.stackTraces = false) {v v' : mC} {w : mM} {o : Nat → Int32} {x : Int32} {k : Nat} (hF : f_X6_restoreSnapshot v = some (x, k, v')) (hk : k ≤ 3) (hc : c3 k = 0 ↔ k = 0) : Cw l yL_restoreSnapshot wsL_restoreSnapshot rmL_restoreSnapshot (lS P) [.ref (P.2.2.1 (0, 0, 0)), .ref P.2.2.2.2.1] (m3 v w o) (some (.int (nI (c3 k)))) (m3 v' w (oK k (x) o)) := by
  refine cw_of (cc := cL_restoreSnapshot) (maxL := 3) (hh := [(0, 8, 11, 15)]) (r := ()) (ex := some ()) (fun (_ : Unit) => (some (Value.int (nI (c3 k))), m3 v' w (oK k (x) o))) (lS_ok hP) rfl (by decide) rfl (Nat.le_of_ble_eq_true rfl) (fun Γ hG hT hN hl => ?_)
  subst hl
  have hX : XS P _ _ := hG.2.2.2.2.2.2.2.2.2
  show Sm Γ (lS P) (0, 0) 0 [(0, .ref (P.2.2.1 (0, 0, 0))), (1, .ref P.2.2.2.2.1)] [] (m3 v w o) _
  refine sm_aload_n hG 1 rfl dL_restoreSnapshot_0 rfl 1 rfl ?_
  refine sm_iconst (x := (0 : Int32)) hG 2 rfl dL_restoreSnapshot_1 rfl ?_
  refine sm_aload_n hG 3 rfl dL_restoreSnapshot_2 rfl 0 rfl ?_
  refine sl_hcall (hh := [(0, 8, 11, 15)]) (k0 := k) (x := .int x) (v' := m3 v' w o) hG hT.2.2.2 (.inl (0, 0, 0)) [] 6 rfl (ok0 (lC_ok hP)) ceS_0 (ci := 6) rfl (lift_X hP (c_X6_restoreSnapshot (lC_ok hP) hfl hF)) gL_restoreSnapshot_X6_restoreSnapshot rfl (by decide) (by decide) (n := 0) rfl (Nat.le_of_ble_eq_true rfl) (rmX6_restoreSnapshot.cells, rmX6_restoreSnapshot.slots) ⟨Nat.zero_add _, Nat.zero_add _⟩ (by decide) rfl dL_restoreSnapshot_3 hX.2.2 hX.1.2.1.2.2 (fun h0 => ?_) (fun h0 => ?_)
  · subst h0
    refine sl_i2l hG 7 rfl dL_restoreSnapshot_6 ?_
    refine sl_out hG x rfl 8 rfl dL_restoreSnapshot_7 ?_
    refine sm_goto hG 14 dL_restoreSnapshot_8 (by decide) ?_
    refine sm_iconst (x := (0 : Int32)) hG 15 rfl dL_restoreSnapshot_14 rfl ?_
    exact sl_hret hG hT (by decide) dL_restoreSnapshot_15 rfl
  · rcases k_c3 hk hc h0 with e
    · subst e
      refine ⟨[], ⟨0, 8, 11, 15⟩, [], rfl, (by intro _ h; cases h), rfl, by decide, by decide +kernel, by decide +kernel, fun q => ?_⟩
      refine sm_astore_n hG 12 rfl dL_restoreSnapshot_11 rfl (jlt hN rfl) [(2, .ref q), (0, .ref (P.2.2.1 (0, 0, 0))), (1, .ref P.2.2.2.2.1)] rfl ?_
      refine sm_iconst (x := (1 : Int32)) hG 13 rfl dL_restoreSnapshot_12 rfl ?_
      exact sl_hret hG hT (by decide) dL_restoreSnapshot_13 rfl
abbrev rmL_isInChoir : Room := { frames := rmX6_isInChoir.frames + 1, cells := rmX6_isInChoir.cells, slots := rmX6_isInChoir.slots, locals := 8 + (2 + 11) + rmX6_isInChoir.locals }
set_option maxRecDepth 100000 in
set_option maxHeartbeats 4000000 in
theorem c_L_isInChoir {P : pS} (hP : Ap P) {x1 : Int32} {l : Launch} (hfl : l.stackTraces = false) {v v' : mC} {w : mM} {o : Nat → Int32} {x : Int32} {k : Nat} (hF : f_X6_isInChoir x1 v = some (x, k, v')) (hk : k ≤ 3) (hc : c1 k = 0 ↔ k = 0) : Cw l yL_isInChoir wsL_isInChoir rmL_isInChoir (lS P) [.ref (P.2.2.1 (0, 0, 0)), .int x1, .ref P.2.2.2.2.1] (m3 v w o) (some (.int (nI (c1 k)))) (m3 v' w (oK k (bz x) o)) := by
  refine cw_of (cc := cL_isInChoir) (maxL := 4) (hh := [(0, 16, 19, 21)]) (r := ()) (ex := some ()) (fun (_ : Unit) => (some (Value.int (nI (c1 k))), m3 v' w (oK k (bz x) o))) (lS_ok hP) rfl (by decide) rfl (Nat.le_of_ble_eq_true rfl) (fun Γ hG hT hN hl => ?_)
  subst hl
  have hX : XS P _ _ := hG.2.2.2.2.2.2.2.2.2
  show Sm Γ (lS P) (0, 0) 0 [(0, .ref (P.2.2.1 (0, 0, 0))), (1, .int x1), (2, .ref P.2.2.2.2.1)] [] (m3 v w o) _
  refine sm_aload_n hG 1 rfl dL_isInChoir_0 rfl 2 rfl ?_
  refine sm_iconst (x := (0 : Int32)) hG 2 rfl dL_isInChoir_1 rfl ?_
  refine sm_aload_n hG 3 rfl dL_isInChoir_2 rfl 0 rfl ?_
  refine sm_iload_n hG 4 rfl dL_isInChoir_3 rfl 1 rfl ?_
  refine sl_hcall (hh := [(0, 16, 19, 21)]) (k0 := k) (x := .int x) (v' := m3 v' w o) hG hT.2.2.2 (.inl (0, 0, 0)) [.int x1] 7 rfl (ok0 (lC_ok hP)) ceS_0 (ci := 6) rfl (lift_X hP (c_X6_isInChoir (lC_ok hP) hfl hF)) gL_isInChoir_X6_isInChoir rfl (by decide) (by decide) (n := 1) rfl (Nat.le_of_ble_eq_true rfl) (rmX6_isInChoir.cells, rmX6_isInChoir.slots) ⟨Nat.zero_add _, Nat.zero_add _⟩ (by decide) rfl dL_isInChoir_4 hX.2.2 hX.1.2.1.2.2 (fun h0 => ?_) (fun h0 => ?_)
  · subst h0
    refine sl_eq hG 14 10 rfl dL_isInChoir_7 (by decide) (fun hz => ?_) (fun hz => ?_)
    · skip
      refine sl_lconst hG 0 15 rfl dL_isInChoir_14 rfl ?_
      refine sl_out hG (bz x) (by unfold bz; rw [if_pos hz]; rfl) 16 rfl dL_isInChoir_15 ?_
      refine sm_goto hG 22 dL_isInChoir_16 (by decide) ?_
      refine sm_iconst (x := (0 : Int32)) hG 23 rfl dL_isInChoir_22 rfl ?_
      exact sl_hret hG hT (by decide) dL_isInChoir_23 rfl
    · skip
      refine sl_lconst hG 1 11 rfl dL_isInChoir_10 rfl ?_
      refine sm_goto hG 15 dL_isInChoir_11 (by decide) ?_
      refine sl_out hG (bz x) (by unfold bz; rw [if_neg hz]; rfl) 16 rfl dL_isInChoir_15 ?_
      refine sm_goto hG 22 dL_isInChoir_16 (by decide) ?_
      refine sm_iconst (x := (0 : Int32)) hG 23 rfl dL_isInChoir_22 rfl ?_
      exact sl_hret hG hT (by decide) dL_isInChoir_23 rfl
  · rcases k_c1 hk hc h0 with e
    · subst e
      refine ⟨[], ⟨0, 16, 19, 21⟩, [], rfl, (by intro _ h; cases h), rfl, by decide, by decide +kernel, by decide +kernel, fun q => ?_⟩
      refine sm_astore_n hG 20 rfl dL_isInChoir_19 rfl (jlt hN rfl) [(3, .ref q), (0, .ref (P.2.2.1 (0, 0, 0))), (1, .int x1), (2, .ref P.2.2.2.2.1)] rfl ?_
      refine sm_iconst (x := (1 : Int32)) hG 21 rfl dL_isInChoir_20 rfl ?_
      exact sl_hret hG hT (by decide) dL_isInChoir_21 rfl
abbrev rmL_ageOf : Room := { frames := rmX6_ageOf.frames + 1, cells := rmX6_ageOf.cells, slots := rmX6_ageOf.slots, locals := 8 + (2 + 11) + rmX6_ageOf.locals }
set_option maxRecDepth 100000 in
set_option maxHeartbeats 4000000 in
theorem c_L_ageOf {P : pS} (hP : Ap P) {x1 : Int32} {l : Launch} (hfl : l.stackTraces = false) {v v' : mC} {w : mM} {o : Nat → Int32} {x : Int32} {k : Nat} (hF : f_X6_ageOf x1 v = some (x, k, v')) (hk : k ≤ 3) (hc : c1 k = 0 ↔ k = 0) : Cw l yL_ageOf wsL_ageOf rmL_ageOf (lS P) [.ref (P.2.2.1 (0, 0, 0)), .int x1, .ref P.2.2.2.2.1] (m3 v w o) (some (.int (nI (c1 k)))) (m3 v' w (oK k (x) o)) := by
  refine cw_of (cc := cL_ageOf) (maxL := 4) (hh := [(0, 9, 12, 21)]) (r := ()) (ex := some ()) (fun (_ : Unit) => (some (Value.int (nI (c1 k))), m3 v' w (oK k (x) o))) (lS_ok hP) rfl (by decide) rfl (Nat.le_of_ble_eq_true rfl) (fun Γ hG hT hN hl => ?_)
  subst hl
  have hX : XS P _ _ := hG.2.2.2.2.2.2.2.2.2
  show Sm Γ (lS P) (0, 0) 0 [(0, .ref (P.2.2.1 (0, 0, 0))), (1, .int x1), (2, .ref P.2.2.2.2.1)] [] (m3 v w o) _
  refine sm_aload_n hG 1 rfl dL_ageOf_0 rfl 2 rfl ?_
  refine sm_iconst (x := (0 : Int32)) hG 2 rfl dL_ageOf_1 rfl ?_
  refine sm_aload_n hG 3 rfl dL_ageOf_2 rfl 0 rfl ?_
  refine sm_iload_n hG 4 rfl dL_ageOf_3 rfl 1 rfl ?_
  refine sl_hcall (hh := [(0, 9, 12, 21)]) (k0 := k) (x := .int x) (v' := m3 v' w o) hG hT.2.2.2 (.inl (0, 0, 0)) [.int x1] 7 rfl (ok0 (lC_ok hP)) ceS_0 (ci := 6) rfl (lift_X hP (c_X6_ageOf (lC_ok hP) hfl hF)) gL_ageOf_X6_ageOf rfl (by decide) (by decide) (n := 1) rfl (Nat.le_of_ble_eq_true rfl) (rmX6_ageOf.cells, rmX6_ageOf.slots) ⟨Nat.zero_add _, Nat.zero_add _⟩ (by decide) rfl dL_ageOf_4 hX.2.2 hX.1.2.1.2.2 (fun h0 => ?_) (fun h0 => ?_)
  · subst h0
    refine sl_i2l hG 8 rfl dL_ageOf_7 ?_
    refine sl_out hG x rfl 9 rfl dL_ageOf_8 ?_
    refine sm_goto hG 15 dL_ageOf_9 (by decide) ?_
    refine sm_iconst (x := (0 : Int32)) hG 16 rfl dL_ageOf_15 rfl ?_
    exact sl_hret hG hT (by decide) dL_ageOf_16 rfl
  · rcases k_c1 hk hc h0 with e
    · subst e
      refine ⟨[], ⟨0, 9, 12, 21⟩, [], rfl, (by intro _ h; cases h), rfl, by decide, by decide +kernel, by decide +kernel, fun q => ?_⟩
      refine sm_astore_n hG 13 rfl dL_ageOf_12 rfl (jlt hN rfl) [(3, .ref q), (0, .ref (P.2.2.1 (0, 0, 0))), (1, .int x1), (2, .ref P.2.2.2.2.1)] rfl ?_
      refine sm_iconst (x := (1 : Int32)) hG 14 rfl dL_ageOf_13 rfl ?_
      exact sl_hret hG hT (by decide) dL_ageOf_14 rfl
abbrev rmL_lowestNoteOf : Room := { frames := rmX6_lowestNoteOf.frames + 1, cells := rmX6_lowestNoteOf.cells, slots := rmX6_lowestNoteOf.slots, locals := 8 + (2 + 11) + rmX6_lowestNoteOf.locals }
set_option maxRecDepth 100000 in
set_option maxHeartbeats 4000000 in
theorem c_L_lowestNoteOf {P : pS} (hP : Ap P) {x1 : Int32} {l : Launch} (hfl : l.stackTraces = false) {v v' : mC} {w : mM} {o : Nat → Int32} {x : Int32} {k : Nat} (hF : f_X6_lowestNoteOf x1 v = some (x, k, v')) (hk : k ≤ 3) (hc : c1 k = 0 ↔ k = 0) : Cw l yL_lowestNoteOf wsL_lowestNoteOf rmL_lowestNoteOf (lS P) [.ref (P.2.2.1 (0, 0, 0)), .int x1, .ref P.2.2.2.2.1] (m3 v w o) (some (.int (nI (c1 k)))) (m3 v' w (oK k (x) o)) := by
  refine cw_of (cc := cL_lowestNoteOf) (maxL := 4) (hh := [(0, 9, 12, 21)]) (r := ()) (ex := some ()) (fun (_ : Unit) => (some (Value.int (nI (c1 k))), m3 v' w (oK k (x) o))) (lS_ok hP) rfl (by decide) rfl (Nat.le_of_ble_eq_true rfl) (fun Γ hG hT hN hl => ?_)
  subst hl
  have hX : XS P _ _ := hG.2.2.2.2.2.2.2.2.2
  show Sm Γ (lS P) (0, 0) 0 [(0, .ref (P.2.2.1 (0, 0, 0))), (1, .int x1), (2, .ref P.2.2.2.2.1)] [] (m3 v w o) _
  refine sm_aload_n hG 1 rfl dL_lowestNoteOf_0 rfl 2 rfl ?_
  refine sm_iconst (x := (0 : Int32)) hG 2 rfl dL_lowestNoteOf_1 rfl ?_
  refine sm_aload_n hG 3 rfl dL_lowestNoteOf_2 rfl 0 rfl ?_
  refine sm_iload_n hG 4 rfl dL_lowestNoteOf_3 rfl 1 rfl ?_
  refine sl_hcall (hh := [(0, 9, 12, 21)]) (k0 := k) (x := .int x) (v' := m3 v' w o) hG hT.2.2.2 (.inl (0, 0, 0)) [.int x1] 7 rfl (ok0 (lC_ok hP)) ceS_0 (ci := 6) rfl (lift_X hP (c_X6_lowestNoteOf (lC_ok hP) hfl hF)) gL_lowestNoteOf_X6_lowestNoteOf rfl (by decide) (by decide) (n := 1) rfl (Nat.le_of_ble_eq_true rfl) (rmX6_lowestNoteOf.cells, rmX6_lowestNoteOf.slots) ⟨Nat.zero_add _, Nat.zero_add _⟩ (by decide) rfl dL_lowestNoteOf_4 hX.2.2 hX.1.2.1.2.2 (fun h0 => ?_) (fun h0 => ?_)
  · subst h0
    refine sl_i2l hG 8 rfl dL_lowestNoteOf_7 ?_
    refine sl_out hG x rfl 9 rfl dL_lowestNoteOf_8 ?_
    refine sm_goto hG 15 dL_lowestNoteOf_9 (by decide) ?_
    refine sm_iconst (x := (0 : Int32)) hG 16 rfl dL_lowestNoteOf_15 rfl ?_
    exact sl_hret hG hT (by decide) dL_lowestNoteOf_16 rfl
  · rcases k_c1 hk hc h0 with e
    · subst e
      refine ⟨[], ⟨0, 9, 12, 21⟩, [], rfl, (by intro _ h; cases h), rfl, by decide, by decide +kernel, by decide +kernel, fun q => ?_⟩
      refine sm_astore_n hG 13 rfl dL_lowestNoteOf_12 rfl (jlt hN rfl) [(3, .ref q), (0, .ref (P.2.2.1 (0, 0, 0))), (1, .int x1), (2, .ref P.2.2.2.2.1)] rfl ?_
      refine sm_iconst (x := (1 : Int32)) hG 14 rfl dL_lowestNoteOf_13 rfl ?_
      exact sl_hret hG hT (by decide) dL_lowestNoteOf_14 rfl
abbrev rmL_highestNoteOf : Room := { frames := rmX6_highestNoteOf.frames + 1, cells := rmX6_highestNoteOf.cells, slots := rmX6_highestNoteOf.slots, locals := 8 + (2 + 11) + rmX6_highestNoteOf.locals }
set_option maxRecDepth 100000 in
set_option maxHeartbeats 4000000 in
theorem c_L_highestNoteOf {P : pS} (hP : Ap P) {x1 : Int32} {l : Launch} (hfl : l.stackTraces = false) {v v' : mC} {w : mM} {o : Nat → Int32} {x : Int32} {k : Nat} (hF : f_X6_highestNoteOf x1 v = some (x, k, v')) (hk : k ≤ 3) (hc : c1 k = 0 ↔ k = 0) : Cw l yL_highestNoteOf wsL_highestNoteOf rmL_highestNoteOf (lS P) [.ref (P.2.2.1 (0, 0, 0)), .int x1, .ref P.2.2.2.2.1] (m3 v w o) (some (.int (nI (c1 k)))) (m3 v' w (oK k (x) o)) := by
  refine cw_of (cc := cL_highestNoteOf) (maxL := 4) (hh := [(0, 9, 12, 21)]) (r := ()) (ex := some ()) (fun (_ : Unit) => (some (Value.int (nI (c1 k))), m3 v' w (oK k (x) o))) (lS_ok hP) rfl (by decide) rfl (Nat.le_of_ble_eq_true rfl) (fun Γ hG hT hN hl => ?_)
  subst hl
  have hX : XS P _ _ := hG.2.2.2.2.2.2.2.2.2
  show Sm Γ (lS P) (0, 0) 0 [(0, .ref (P.2.2.1 (0, 0, 0))), (1, .int x1), (2, .ref P.2.2.2.2.1)] [] (m3 v w o) _
  refine sm_aload_n hG 1 rfl dL_highestNoteOf_0 rfl 2 rfl ?_
  refine sm_iconst (x := (0 : Int32)) hG 2 rfl dL_highestNoteOf_1 rfl ?_
  refine sm_aload_n hG 3 rfl dL_highestNoteOf_2 rfl 0 rfl ?_
  refine sm_iload_n hG 4 rfl dL_highestNoteOf_3 rfl 1 rfl ?_
  refine sl_hcall (hh := [(0, 9, 12, 21)]) (k0 := k) (x := .int x) (v' := m3 v' w o) hG hT.2.2.2 (.inl (0, 0, 0)) [.int x1] 7 rfl (ok0 (lC_ok hP)) ceS_0 (ci := 6) rfl (lift_X hP (c_X6_highestNoteOf (lC_ok hP) hfl hF)) gL_highestNoteOf_X6_highestNoteOf rfl (by decide) (by decide) (n := 1) rfl (Nat.le_of_ble_eq_true rfl) (rmX6_highestNoteOf.cells, rmX6_highestNoteOf.slots) ⟨Nat.zero_add _, Nat.zero_add _⟩ (by decide) rfl dL_highestNoteOf_4 hX.2.2 hX.1.2.1.2.2 (fun h0 => ?_) (fun h0 => ?_)
  · subst h0
    refine sl_i2l hG 8 rfl dL_highestNoteOf_7 ?_
    refine sl_out hG x rfl 9 rfl dL_highestNoteOf_8 ?_
    refine sm_goto hG 15 dL_highestNoteOf_9 (by decide) ?_
    refine sm_iconst (x := (0 : Int32)) hG 16 rfl dL_highestNoteOf_15 rfl ?_
    exact sl_hret hG hT (by decide) dL_highestNoteOf_16 rfl
  · rcases k_c1 hk hc h0 with e
    · subst e
      refine ⟨[], ⟨0, 9, 12, 21⟩, [], rfl, (by intro _ h; cases h), rfl, by decide, by decide +kernel, by decide +kernel, fun q => ?_⟩
      refine sm_astore_n hG 13 rfl dL_highestNoteOf_12 rfl (jlt hN rfl) [(3, .ref q), (0, .ref (P.2.2.1 (0, 0, 0))), (1, .int x1), (2, .ref P.2.2.2.2.1)] rfl ?_
      refine sm_iconst (x := (1 : Int32)) hG 14 rfl dL_highestNoteOf_13 rfl ?_
      exact sl_hret hG hT (by decide) dL_highestNoteOf_14 rfl
abbrev rmL_breakDayOf : Room := { frames := rmX6_breakDayOf.frames + 1, cells := rmX6_breakDayOf.cells, slots := rmX6_breakDayOf.slots, locals := 8 + (2 + 11) + rmX6_breakDayOf.locals }
set_option maxRecDepth 100000 in
set_option maxHeartbeats 4000000 in
theorem c_L_breakDayOf {P : pS} (hP : Ap P) {x1 : Int32} {l : Launch} (hfl : l.stackTraces = false) {v v' : mC} {w : mM} {o : Nat → Int32} {x : Int32} {k : Nat} (hF : f_X6_breakDayOf x1 v = some (x, k, v')) (hk : k ≤ 3) (hc : c1 k = 0 ↔ k = 0) : Cw l yL_breakDayOf wsL_breakDayOf rmL_breakDayOf (lS P) [.ref (P.2.2.1 (0, 0, 0)), .int x1, .ref P.2.2.2.2.1] (m3 v w o) (some (.int (nI (c1 k)))) (m3 v' w (oK k (x) o)) := by
  refine cw_of (cc := cL_breakDayOf) (maxL := 4) (hh := [(0, 9, 12, 21)]) (r := ()) (ex := some ()) (fun (_ : Unit) => (some (Value.int (nI (c1 k))), m3 v' w (oK k (x) o))) (lS_ok hP) rfl (by decide) rfl (Nat.le_of_ble_eq_true rfl) (fun Γ hG hT hN hl => ?_)
  subst hl
  have hX : XS P _ _ := hG.2.2.2.2.2.2.2.2.2
  show Sm Γ (lS P) (0, 0) 0 [(0, .ref (P.2.2.1 (0, 0, 0))), (1, .int x1), (2, .ref P.2.2.2.2.1)] [] (m3 v w o) _
  refine sm_aload_n hG 1 rfl dL_breakDayOf_0 rfl 2 rfl ?_
  refine sm_iconst (x := (0 : Int32)) hG 2 rfl dL_breakDayOf_1 rfl ?_
  refine sm_aload_n hG 3 rfl dL_breakDayOf_2 rfl 0 rfl ?_
  refine sm_iload_n hG 4 rfl dL_breakDayOf_3 rfl 1 rfl ?_
  refine sl_hcall (hh := [(0, 9, 12, 21)]) (k0 := k) (x := .int x) (v' := m3 v' w o) hG hT.2.2.2 (.inl (0, 0, 0)) [.int x1] 7 rfl (ok0 (lC_ok hP)) ceS_0 (ci := 6) rfl (lift_X hP (c_X6_breakDayOf (lC_ok hP) hfl hF)) gL_breakDayOf_X6_breakDayOf rfl (by decide) (by decide) (n := 1) rfl (Nat.le_of_ble_eq_true rfl) (rmX6_breakDayOf.cells, rmX6_breakDayOf.slots) ⟨Nat.zero_add _, Nat.zero_add _⟩ (by decide) rfl dL_breakDayOf_4 hX.2.2 hX.1.2.1.2.2 (fun h0 => ?_) (fun h0 => ?_)
  · subst h0
    refine sl_i2l hG 8 rfl dL_breakDayOf_7 ?_
    refine sl_out hG x rfl 9 rfl dL_breakDayOf_8 ?_
    refine sm_goto hG 15 dL_breakDayOf_9 (by decide) ?_
    refine sm_iconst (x := (0 : Int32)) hG 16 rfl dL_breakDayOf_15 rfl ?_
    exact sl_hret hG hT (by decide) dL_breakDayOf_16 rfl
  · rcases k_c1 hk hc h0 with e
    · subst e
      refine ⟨[], ⟨0, 9, 12, 21⟩, [], rfl, (by intro _ h; cases h), rfl, by decide, by decide +kernel, by decide +kernel, fun q => ?_⟩
      refine sm_astore_n hG 13 rfl dL_breakDayOf_12 rfl (jlt hN rfl) [(3, .ref q), (0, .ref (P.2.2.1 (0, 0, 0))), (1, .int x1), (2, .ref P.2.2.2.2.1)] rfl ?_
      refine sm_iconst (x := (1 : Int32)) hG 14 rfl dL_breakDayOf_13 rfl ?_
      exact sl_hret hG hT (by decide) dL_breakDayOf_14 rfl
abbrev rmL_choirOf : Room := { frames := rmX6_choirOf.frames + 1, cells := rmX6_choirOf.cells, slots := rmX6_choirOf.slots, locals := 8 + (2 + 11) + rmX6_choirOf.locals }
set_option maxRecDepth 100000 in
set_option maxHeartbeats 4000000 in
theorem c_L_choirOf {P : pS} (hP : Ap P) {x1 : Int32} {l : Launch} (hfl : l.stackTraces = false) {v v' : mC} {w : mM} {o : Nat → Int32} {x : Int32} {k : Nat} (hF : f_X6_choirOf x1 v = some (x, k, v')) (hk : k ≤ 3) (hc : c1 k = 0 ↔ k = 0) : Cw l yL_choirOf wsL_choirOf rmL_choirOf (lS P) [.ref (P.2.2.1 (0, 0, 0)), .int x1, .ref P.2.2.2.2.1] (m3 v w o) (some (.int (nI (c1 k)))) (m3 v' w (oK k (x) o)) := by
  refine cw_of (cc := cL_choirOf) (maxL := 4) (hh := [(0, 9, 12, 21)]) (r := ()) (ex := some ()) (fun (_ : Unit) => (some (Value.int (nI (c1 k))), m3 v' w (oK k (x) o))) (lS_ok hP) rfl (by decide) rfl (Nat.le_of_ble_eq_true rfl) (fun Γ hG hT hN hl => ?_)
  subst hl
  have hX : XS P _ _ := hG.2.2.2.2.2.2.2.2.2
  show Sm Γ (lS P) (0, 0) 0 [(0, .ref (P.2.2.1 (0, 0, 0))), (1, .int x1), (2, .ref P.2.2.2.2.1)] [] (m3 v w o) _
  refine sm_aload_n hG 1 rfl dL_choirOf_0 rfl 2 rfl ?_
  refine sm_iconst (x := (0 : Int32)) hG 2 rfl dL_choirOf_1 rfl ?_
  refine sm_aload_n hG 3 rfl dL_choirOf_2 rfl 0 rfl ?_
  refine sm_iload_n hG 4 rfl dL_choirOf_3 rfl 1 rfl ?_
  refine sl_hcall (hh := [(0, 9, 12, 21)]) (k0 := k) (x := .int x) (v' := m3 v' w o) hG hT.2.2.2 (.inl (0, 0, 0)) [.int x1] 7 rfl (ok0 (lC_ok hP)) ceS_0 (ci := 6) rfl (lift_X hP (c_X6_choirOf (lC_ok hP) hfl hF)) gL_choirOf_X6_choirOf rfl (by decide) (by decide) (n := 1) rfl (Nat.le_of_ble_eq_true rfl) (rmX6_choirOf.cells, rmX6_choirOf.slots) ⟨Nat.zero_add _, Nat.zero_add _⟩ (by decide) rfl dL_choirOf_4 hX.2.2 hX.1.2.1.2.2 (fun h0 => ?_) (fun h0 => ?_)
  · subst h0
    refine sl_i2l hG 8 rfl dL_choirOf_7 ?_
    refine sl_out hG x rfl 9 rfl dL_choirOf_8 ?_
    refine sm_goto hG 15 dL_choirOf_9 (by decide) ?_
    refine sm_iconst (x := (0 : Int32)) hG 16 rfl dL_choirOf_15 rfl ?_
    exact sl_hret hG hT (by decide) dL_choirOf_16 rfl
  · rcases k_c1 hk hc h0 with e
    · subst e
      refine ⟨[], ⟨0, 9, 12, 21⟩, [], rfl, (by intro _ h; cases h), rfl, by decide, by decide +kernel, by decide +kernel, fun q => ?_⟩
      refine sm_astore_n hG 13 rfl dL_choirOf_12 rfl (jlt hN rfl) [(3, .ref q), (0, .ref (P.2.2.1 (0, 0, 0))), (1, .int x1), (2, .ref P.2.2.2.2.1)] rfl ?_
      refine sm_iconst (x := (1 : Int32)) hG 14 rfl dL_choirOf_13 rfl ?_
      exact sl_hret hG hT (by decide) dL_choirOf_14 rfl
abbrev rmL_awayUntil : Room := { frames := rmX6_awayUntil.frames + 1, cells := rmX6_awayUntil.cells, slots := rmX6_awayUntil.slots, locals := 8 + (2 + 11) + rmX6_awayUntil.locals }
set_option maxRecDepth 100000 in
set_option maxHeartbeats 4000000 in
theorem c_L_awayUntil {P : pS} (hP : Ap P) {x1 : Int32} {l : Launch} (hfl : l.stackTraces = false) {v v' : mC} {w : mM} {o : Nat → Int32} {x : Int32} {k : Nat} (hF : f_X6_awayUntil x1 v = some (x, k, v')) (hk : k ≤ 3) (hc : c1 k = 0 ↔ k = 0) : Cw l yL_awayUntil wsL_awayUntil rmL_awayUntil (lS P) [.ref (P.2.2.1 (0, 0, 0)), .int x1, .ref P.2.2.2.2.1] (m3 v w o) (some (.int (nI (c1 k)))) (m3 v' w (oK k (x) o)) := by
  refine cw_of (cc := cL_awayUntil) (maxL := 4) (hh := [(0, 9, 12, 21)]) (r := ()) (ex := some ()) (fun (_ : Unit) => (some (Value.int (nI (c1 k))), m3 v' w (oK k (x) o))) (lS_ok hP) rfl (by decide) rfl (Nat.le_of_ble_eq_true rfl) (fun Γ hG hT hN hl => ?_)
  subst hl
  have hX : XS P _ _ := hG.2.2.2.2.2.2.2.2.2
  show Sm Γ (lS P) (0, 0) 0 [(0, .ref (P.2.2.1 (0, 0, 0))), (1, .int x1), (2, .ref P.2.2.2.2.1)] [] (m3 v w o) _
  refine sm_aload_n hG 1 rfl dL_awayUntil_0 rfl 2 rfl ?_
  refine sm_iconst (x := (0 : Int32)) hG 2 rfl dL_awayUntil_1 rfl ?_
  refine sm_aload_n hG 3 rfl dL_awayUntil_2 rfl 0 rfl ?_
  refine sm_iload_n hG 4 rfl dL_awayUntil_3 rfl 1 rfl ?_
  refine sl_hcall (hh := [(0, 9, 12, 21)]) (k0 := k) (x := .int x) (v' := m3 v' w o) hG hT.2.2.2 (.inl (0, 0, 0)) [.int x1] 7 rfl (ok0 (lC_ok hP)) ceS_0 (ci := 6) rfl (lift_X hP (c_X6_awayUntil (lC_ok hP) hfl hF)) gL_awayUntil_X6_awayUntil rfl (by decide) (by decide) (n := 1) rfl (Nat.le_of_ble_eq_true rfl) (rmX6_awayUntil.cells, rmX6_awayUntil.slots) ⟨Nat.zero_add _, Nat.zero_add _⟩ (by decide) rfl dL_awayUntil_4 hX.2.2 hX.1.2.1.2.2 (fun h0 => ?_) (fun h0 => ?_)
  · subst h0
    refine sl_i2l hG 8 rfl dL_awayUntil_7 ?_
    refine sl_out hG x rfl 9 rfl dL_awayUntil_8 ?_
    refine sm_goto hG 15 dL_awayUntil_9 (by decide) ?_
    refine sm_iconst (x := (0 : Int32)) hG 16 rfl dL_awayUntil_15 rfl ?_
    exact sl_hret hG hT (by decide) dL_awayUntil_16 rfl
  · rcases k_c1 hk hc h0 with e
    · subst e
      refine ⟨[], ⟨0, 9, 12, 21⟩, [], rfl, (by intro _ h; cases h), rfl, by decide, by decide +kernel, by decide +kernel, fun q => ?_⟩
      refine sm_astore_n hG 13 rfl dL_awayUntil_12 rfl (jlt hN rfl) [(3, .ref q), (0, .ref (P.2.2.1 (0, 0, 0))), (1, .int x1), (2, .ref P.2.2.2.2.1)] rfl ?_
      refine sm_iconst (x := (1 : Int32)) hG 14 rfl dL_awayUntil_13 rfl ?_
      exact sl_hret hG hT (by decide) dL_awayUntil_14 rfl
abbrev rmL_isExcused : Room := { frames := rmX6_isExcused.frames + 1, cells := rmX6_isExcused.cells, slots := rmX6_isExcused.slots, locals := 8 + (3 + 11) + rmX6_isExcused.locals }
set_option maxRecDepth 100000 in
set_option maxHeartbeats 4000000 in
theorem c_L_isExcused {P : pS} (hP : Ap P) {x1 x2 : Int32} {l : Launch} (hfl : l.stackTraces = false) {v v' : mC} {w : mM} {o : Nat → Int32} {x : Int32} {k : Nat} (hF : f_X6_isExcused x1 x2 v = some (x, k, v')) (hk : k ≤ 3) (hc : c12 k = 0 ↔ k = 0) : Cw l yL_isExcused wsL_isExcused rmL_isExcused (lS P) [.ref (P.2.2.1 (0, 0, 0)), .int x1, .int x2, .ref P.2.2.2.2.1] (m3 v w o) (some (.int (nI (c12 k)))) (m3 v' w (oK k (bz x) o)) := by
  refine cw_of (cc := cL_isExcused) (maxL := 5) (hh := [(0, 17, 20, 21), (0, 17, 24, 13)]) (r := ()) (ex := some ()) (fun (_ : Unit) => (some (Value.int (nI (c12 k))), m3 v' w (oK k (bz x) o))) (lS_ok hP) rfl (by decide) rfl (Nat.le_of_ble_eq_true rfl) (fun Γ hG hT hN hl => ?_)
  subst hl
  have hX : XS P _ _ := hG.2.2.2.2.2.2.2.2.2
  show Sm Γ (lS P) (0, 0) 0 [(0, .ref (P.2.2.1 (0, 0, 0))), (1, .int x1), (2, .int x2), (3, .ref P.2.2.2.2.1)] [] (m3 v w o) _
  refine sm_aload_n hG 1 rfl dL_isExcused_0 rfl 3 rfl ?_
  refine sm_iconst (x := (0 : Int32)) hG 2 rfl dL_isExcused_1 rfl ?_
  refine sm_aload_n hG 3 rfl dL_isExcused_2 rfl 0 rfl ?_
  refine sm_iload_n hG 4 rfl dL_isExcused_3 rfl 1 rfl ?_
  refine sm_iload_n hG 5 rfl dL_isExcused_4 rfl 2 rfl ?_
  refine sl_hcall (hh := [(0, 17, 20, 21), (0, 17, 24, 13)]) (k0 := k) (x := .int x) (v' := m3 v' w o) hG hT.2.2.2 (.inl (0, 0, 0)) [.int x1, .int x2] 8 rfl (ok0 (lC_ok hP)) ceS_0 (ci := 6) rfl (lift_X hP (c_X6_isExcused (lC_ok hP) hfl hF)) gL_isExcused_X6_isExcused rfl (by decide) (by decide) (n := 2) rfl (Nat.le_of_ble_eq_true rfl) (rmX6_isExcused.cells, rmX6_isExcused.slots) ⟨Nat.zero_add _, Nat.zero_add _⟩ (by decide) rfl dL_isExcused_5 hX.2.2 hX.1.2.1.2.2 (fun h0 => ?_) (fun h0 => ?_)
  · subst h0
    refine sl_eq hG 15 11 rfl dL_isExcused_8 (by decide) (fun hz => ?_) (fun hz => ?_)
    · skip
      refine sl_lconst hG 0 16 rfl dL_isExcused_15 rfl ?_
      refine sl_out hG (bz x) (by unfold bz; rw [if_pos hz]; rfl) 17 rfl dL_isExcused_16 ?_
      refine sm_goto hG 28 dL_isExcused_17 (by decide) ?_
      refine sm_iconst (x := (0 : Int32)) hG 29 rfl dL_isExcused_28 rfl ?_
      exact sl_hret hG hT (by decide) dL_isExcused_29 rfl
    · skip
      refine sl_lconst hG 1 12 rfl dL_isExcused_11 rfl ?_
      refine sm_goto hG 16 dL_isExcused_12 (by decide) ?_
      refine sl_out hG (bz x) (by unfold bz; rw [if_neg hz]; rfl) 17 rfl dL_isExcused_16 ?_
      refine sm_goto hG 28 dL_isExcused_17 (by decide) ?_
      refine sm_iconst (x := (0 : Int32)) hG 29 rfl dL_isExcused_28 rfl ?_
      exact sl_hret hG hT (by decide) dL_isExcused_29 rfl
  · rcases k_c12 hk hc h0 with e | e
    · subst e
      refine ⟨[], ⟨0, 17, 20, 21⟩, [⟨0, 17, 24, 13⟩], rfl, (by intro _ h; cases h), rfl, by decide, by decide +kernel, by decide +kernel, fun q => ?_⟩
      refine sm_astore hG 22 rfl dL_isExcused_20 (jlt hN rfl) [(4, .ref q), (0, .ref (P.2.2.1 (0, 0, 0))), (1, .int x1), (2, .int x2), (3, .ref P.2.2.2.2.1)] rfl ?_
      refine sm_iconst (x := (1 : Int32)) hG 23 rfl dL_isExcused_22 rfl ?_
      exact sl_hret hG hT (by decide) dL_isExcused_23 rfl
    · subst e
      refine ⟨[⟨0, 17, 20, 21⟩], ⟨0, 17, 24, 13⟩, [], rfl, List.forall_mem_cons.mpr ⟨Or.inr ⟨by decide, exN 1, by decide +kernel, by decide +kernel⟩, (by intro _ h; cases h)⟩, rfl, by decide, by decide +kernel, by decide +kernel, fun q => ?_⟩
      refine sm_astore hG 26 rfl dL_isExcused_24 (jlt hN rfl) [(4, .ref q), (0, .ref (P.2.2.1 (0, 0, 0))), (1, .int x1), (2, .int x2), (3, .ref P.2.2.2.2.1)] rfl ?_
      refine sm_iconst (x := (2 : Int32)) hG 27 rfl dL_isExcused_26 rfl ?_
      exact sl_hret hG hT (by decide) dL_isExcused_27 rfl
abbrev rmL_feastsOf : Room := { frames := rmX6_feastsOf.frames + 1, cells := rmX6_feastsOf.cells, slots := rmX6_feastsOf.slots, locals := 8 + (2 + 11) + rmX6_feastsOf.locals }
set_option maxRecDepth 100000 in
set_option maxHeartbeats 4000000 in
theorem c_L_feastsOf {P : pS} (hP : Ap P) {x1 : Int32} {l : Launch} (hfl : l.stackTraces = false) {v v' : mC} {w : mM} {o : Nat → Int32} {x : Int32} {k : Nat} (hF : f_X6_feastsOf x1 v = some (x, k, v')) (hk : k ≤ 3) (hc : c1 k = 0 ↔ k = 0) : Cw l yL_feastsOf wsL_feastsOf rmL_feastsOf (lS P) [.ref (P.2.2.1 (0, 0, 0)), .int x1, .ref P.2.2.2.2.1] (m3 v w o) (some (.int (nI (c1 k)))) (m3 v' w (oK k (x) o)) := by
  refine cw_of (cc := cL_feastsOf) (maxL := 4) (hh := [(0, 9, 12, 21)]) (r := ()) (ex := some ()) (fun (_ : Unit) => (some (Value.int (nI (c1 k))), m3 v' w (oK k (x) o))) (lS_ok hP) rfl (by decide) rfl (Nat.le_of_ble_eq_true rfl) (fun Γ hG hT hN hl => ?_)
  subst hl
  have hX : XS P _ _ := hG.2.2.2.2.2.2.2.2.2
  show Sm Γ (lS P) (0, 0) 0 [(0, .ref (P.2.2.1 (0, 0, 0))), (1, .int x1), (2, .ref P.2.2.2.2.1)] [] (m3 v w o) _
  refine sm_aload_n hG 1 rfl dL_feastsOf_0 rfl 2 rfl ?_
  refine sm_iconst (x := (0 : Int32)) hG 2 rfl dL_feastsOf_1 rfl ?_
  refine sm_aload_n hG 3 rfl dL_feastsOf_2 rfl 0 rfl ?_
  refine sm_iload_n hG 4 rfl dL_feastsOf_3 rfl 1 rfl ?_
  refine sl_hcall (hh := [(0, 9, 12, 21)]) (k0 := k) (x := .int x) (v' := m3 v' w o) hG hT.2.2.2 (.inl (0, 0, 0)) [.int x1] 7 rfl (ok0 (lC_ok hP)) ceS_0 (ci := 6) rfl (lift_X hP (c_X6_feastsOf (lC_ok hP) hfl hF)) gL_feastsOf_X6_feastsOf rfl (by decide) (by decide) (n := 1) rfl (Nat.le_of_ble_eq_true rfl) (rmX6_feastsOf.cells, rmX6_feastsOf.slots) ⟨Nat.zero_add _, Nat.zero_add _⟩ (by decide) rfl dL_feastsOf_4 hX.2.2 hX.1.2.1.2.2 (fun h0 => ?_) (fun h0 => ?_)
  · subst h0
    refine sl_i2l hG 8 rfl dL_feastsOf_7 ?_
    refine sl_out hG x rfl 9 rfl dL_feastsOf_8 ?_
    refine sm_goto hG 15 dL_feastsOf_9 (by decide) ?_
    refine sm_iconst (x := (0 : Int32)) hG 16 rfl dL_feastsOf_15 rfl ?_
    exact sl_hret hG hT (by decide) dL_feastsOf_16 rfl
  · rcases k_c1 hk hc h0 with e
    · subst e
      refine ⟨[], ⟨0, 9, 12, 21⟩, [], rfl, (by intro _ h; cases h), rfl, by decide, by decide +kernel, by decide +kernel, fun q => ?_⟩
      refine sm_astore_n hG 13 rfl dL_feastsOf_12 rfl (jlt hN rfl) [(3, .ref q), (0, .ref (P.2.2.1 (0, 0, 0))), (1, .int x1), (2, .ref P.2.2.2.2.1)] rfl ?_
      refine sm_iconst (x := (1 : Int32)) hG 14 rfl dL_feastsOf_13 rfl ?_
      exact sl_hret hG hT (by decide) dL_feastsOf_14 rfl
abbrev rmL_descantsOf : Room := { frames := rmX6_descantsOf.frames + 1, cells := rmX6_descantsOf.cells, slots := rmX6_descantsOf.slots, locals := 8 + (2 + 11) + rmX6_descantsOf.locals }
set_option maxRecDepth 100000 in
set_option maxHeartbeats 4000000 in
theorem c_L_descantsOf {P : pS} (hP : Ap P) {x1 : Int32} {l : Launch} (hfl : l.stackTraces = false) {v v' : mC} {w : mM} {o : Nat → Int32} {x : Int32} {k : Nat} (hF : f_X6_descantsOf x1 v = some (x, k, v')) (hk : k ≤ 3) (hc : c1 k = 0 ↔ k = 0) : Cw l yL_descantsOf wsL_descantsOf rmL_descantsOf (lS P) [.ref (P.2.2.1 (0, 0, 0)), .int x1, .ref P.2.2.2.2.1] (m3 v w o) (some (.int (nI (c1 k)))) (m3 v' w (oK k (x) o)) := by
  refine cw_of (cc := cL_descantsOf) (maxL := 4) (hh := [(0, 9, 12, 21)]) (r := ()) (ex := some ()) (fun (_ : Unit) => (some (Value.int (nI (c1 k))), m3 v' w (oK k (x) o))) (lS_ok hP) rfl (by decide) rfl (Nat.le_of_ble_eq_true rfl) (fun Γ hG hT hN hl => ?_)
  subst hl
  have hX : XS P _ _ := hG.2.2.2.2.2.2.2.2.2
  show Sm Γ (lS P) (0, 0) 0 [(0, .ref (P.2.2.1 (0, 0, 0))), (1, .int x1), (2, .ref P.2.2.2.2.1)] [] (m3 v w o) _
  refine sm_aload_n hG 1 rfl dL_descantsOf_0 rfl 2 rfl ?_
  refine sm_iconst (x := (0 : Int32)) hG 2 rfl dL_descantsOf_1 rfl ?_
  refine sm_aload_n hG 3 rfl dL_descantsOf_2 rfl 0 rfl ?_
  refine sm_iload_n hG 4 rfl dL_descantsOf_3 rfl 1 rfl ?_
  refine sl_hcall (hh := [(0, 9, 12, 21)]) (k0 := k) (x := .int x) (v' := m3 v' w o) hG hT.2.2.2 (.inl (0, 0, 0)) [.int x1] 7 rfl (ok0 (lC_ok hP)) ceS_0 (ci := 6) rfl (lift_X hP (c_X6_descantsOf (lC_ok hP) hfl hF)) gL_descantsOf_X6_descantsOf rfl (by decide) (by decide) (n := 1) rfl (Nat.le_of_ble_eq_true rfl) (rmX6_descantsOf.cells, rmX6_descantsOf.slots) ⟨Nat.zero_add _, Nat.zero_add _⟩ (by decide) rfl dL_descantsOf_4 hX.2.2 hX.1.2.1.2.2 (fun h0 => ?_) (fun h0 => ?_)
  · subst h0
    refine sl_i2l hG 8 rfl dL_descantsOf_7 ?_
    refine sl_out hG x rfl 9 rfl dL_descantsOf_8 ?_
    refine sm_goto hG 15 dL_descantsOf_9 (by decide) ?_
    refine sm_iconst (x := (0 : Int32)) hG 16 rfl dL_descantsOf_15 rfl ?_
    exact sl_hret hG hT (by decide) dL_descantsOf_16 rfl
  · rcases k_c1 hk hc h0 with e
    · subst e
      refine ⟨[], ⟨0, 9, 12, 21⟩, [], rfl, (by intro _ h; cases h), rfl, by decide, by decide +kernel, by decide +kernel, fun q => ?_⟩
      refine sm_astore_n hG 13 rfl dL_descantsOf_12 rfl (jlt hN rfl) [(3, .ref q), (0, .ref (P.2.2.1 (0, 0, 0))), (1, .int x1), (2, .ref P.2.2.2.2.1)] rfl ?_
      refine sm_iconst (x := (1 : Int32)) hG 14 rfl dL_descantsOf_13 rfl ?_
      exact sl_hret hG hT (by decide) dL_descantsOf_14 rfl
abbrev rmL_dayOf : Room := { frames := rmX6_dayOf.frames + 1, cells := rmX6_dayOf.cells, slots := rmX6_dayOf.slots, locals := 8 + (2 + 11) + rmX6_dayOf.locals }
set_option maxRecDepth 100000 in
set_option maxHeartbeats 4000000 in
theorem c_L_dayOf {P : pS} (hP : Ap P) {x1 : Int32} {l : Launch} (hfl : l.stackTraces = false) {v v' : mC} {w : mM} {o : Nat → Int32} {x : Int32} {k : Nat} (hF : f_X6_dayOf x1 v = some (x, k, v')) (hk : k ≤ 3) (hc : c1 k = 0 ↔ k = 0) : Cw l yL_dayOf wsL_dayOf rmL_dayOf (lS P) [.ref (P.2.2.1 (0, 0, 0)), .int x1, .ref P.2.2.2.2.1] (m3 v w o) (some (.int (nI (c1 k)))) (m3 v' w (oK k (x) o)) := by
  refine cw_of (cc := cL_dayOf) (maxL := 4) (hh := [(0, 9, 12, 21)]) (r := ()) (ex := some ()) (fun (_ : Unit) => (some (Value.int (nI (c1 k))), m3 v' w (oK k (x) o))) (lS_ok hP) rfl (by decide) rfl (Nat.le_of_ble_eq_true rfl) (fun Γ hG hT hN hl => ?_)
  subst hl
  have hX : XS P _ _ := hG.2.2.2.2.2.2.2.2.2
  show Sm Γ (lS P) (0, 0) 0 [(0, .ref (P.2.2.1 (0, 0, 0))), (1, .int x1), (2, .ref P.2.2.2.2.1)] [] (m3 v w o) _
  refine sm_aload_n hG 1 rfl dL_dayOf_0 rfl 2 rfl ?_
  refine sm_iconst (x := (0 : Int32)) hG 2 rfl dL_dayOf_1 rfl ?_
  refine sm_aload_n hG 3 rfl dL_dayOf_2 rfl 0 rfl ?_
  refine sm_iload_n hG 4 rfl dL_dayOf_3 rfl 1 rfl ?_
  refine sl_hcall (hh := [(0, 9, 12, 21)]) (k0 := k) (x := .int x) (v' := m3 v' w o) hG hT.2.2.2 (.inl (0, 0, 0)) [.int x1] 7 rfl (ok0 (lC_ok hP)) ceS_0 (ci := 6) rfl (lift_X hP (c_X6_dayOf (lC_ok hP) hfl hF)) gL_dayOf_X6_dayOf rfl (by decide) (by decide) (n := 1) rfl (Nat.le_of_ble_eq_true rfl) (rmX6_dayOf.cells, rmX6_dayOf.slots) ⟨Nat.zero_add _, Nat.zero_add _⟩ (by decide) rfl dL_dayOf_4 hX.2.2 hX.1.2.1.2.2 (fun h0 => ?_) (fun h0 => ?_)
  · subst h0
    refine sl_i2l hG 8 rfl dL_dayOf_7 ?_
    refine sl_out hG x rfl 9 rfl dL_dayOf_8 ?_
    refine sm_goto hG 15 dL_dayOf_9 (by decide) ?_
    refine sm_iconst (x := (0 : Int32)) hG 16 rfl dL_dayOf_15 rfl ?_
    exact sl_hret hG hT (by decide) dL_dayOf_16 rfl
  · rcases k_c1 hk hc h0 with e
    · subst e
      refine ⟨[], ⟨0, 9, 12, 21⟩, [], rfl, (by intro _ h; cases h), rfl, by decide, by decide +kernel, by decide +kernel, fun q => ?_⟩
      refine sm_astore_n hG 13 rfl dL_dayOf_12 rfl (jlt hN rfl) [(3, .ref q), (0, .ref (P.2.2.1 (0, 0, 0))), (1, .int x1), (2, .ref P.2.2.2.2.1)] rfl ?_
      refine sm_iconst (x := (1 : Int32)) hG 14 rfl dL_dayOf_13 rfl ?_
      exact sl_hret hG hT (by decide) dL_dayOf_14 rfl
abbrev rmL_isHeld : Room := { frames := rmX6_isHeld.frames + 1, cells := rmX6_isHeld.cells, slots := rmX6_isHeld.slots, locals := 8 + (2 + 11) + rmX6_isHeld.locals }
set_option maxRecDepth 100000 in
set_option maxHeartbeats 4000000 in
theorem c_L_isHeld {P : pS} (hP : Ap P) {x1 : Int32} {l : Launch} (hfl : l.stackTraces = false) {v v' : mC} {w : mM} {o : Nat → Int32} {x : Int32} {k : Nat} (hF : f_X6_isHeld x1 v = some (x, k, v')) (hk : k ≤ 3) (hc : c1 k = 0 ↔ k = 0) : Cw l yL_isHeld wsL_isHeld rmL_isHeld (lS P) [.ref (P.2.2.1 (0, 0, 0)), .int x1, .ref P.2.2.2.2.1] (m3 v w o) (some (.int (nI (c1 k)))) (m3 v' w (oK k (bz x) o)) := by
  refine cw_of (cc := cL_isHeld) (maxL := 4) (hh := [(0, 16, 19, 21)]) (r := ()) (ex := some ()) (fun (_ : Unit) => (some (Value.int (nI (c1 k))), m3 v' w (oK k (bz x) o))) (lS_ok hP) rfl (by decide) rfl (Nat.le_of_ble_eq_true rfl) (fun Γ hG hT hN hl => ?_)
  subst hl
  have hX : XS P _ _ := hG.2.2.2.2.2.2.2.2.2
  show Sm Γ (lS P) (0, 0) 0 [(0, .ref (P.2.2.1 (0, 0, 0))), (1, .int x1), (2, .ref P.2.2.2.2.1)] [] (m3 v w o) _
  refine sm_aload_n hG 1 rfl dL_isHeld_0 rfl 2 rfl ?_
  refine sm_iconst (x := (0 : Int32)) hG 2 rfl dL_isHeld_1 rfl ?_
  refine sm_aload_n hG 3 rfl dL_isHeld_2 rfl 0 rfl ?_
  refine sm_iload_n hG 4 rfl dL_isHeld_3 rfl 1 rfl ?_
  refine sl_hcall (hh := [(0, 16, 19, 21)]) (k0 := k) (x := .int x) (v' := m3 v' w o) hG hT.2.2.2 (.inl (0, 0, 0)) [.int x1] 7 rfl (ok0 (lC_ok hP)) ceS_0 (ci := 6) rfl (lift_X hP (c_X6_isHeld (lC_ok hP) hfl hF)) gL_isHeld_X6_isHeld rfl (by decide) (by decide) (n := 1) rfl (Nat.le_of_ble_eq_true rfl) (rmX6_isHeld.cells, rmX6_isHeld.slots) ⟨Nat.zero_add _, Nat.zero_add _⟩ (by decide) rfl dL_isHeld_4 hX.2.2 hX.1.2.1.2.2 (fun h0 => ?_) (fun h0 => ?_)
  · subst h0
    refine sl_eq hG 14 10 rfl dL_isHeld_7 (by decide) (fun hz => ?_) (fun hz => ?_)
    · skip
      refine sl_lconst hG 0 15 rfl dL_isHeld_14 rfl ?_
      refine sl_out hG (bz x) (by unfold bz; rw [if_pos hz]; rfl) 16 rfl dL_isHeld_15 ?_
      refine sm_goto hG 22 dL_isHeld_16 (by decide) ?_
      refine sm_iconst (x := (0 : Int32)) hG 23 rfl dL_isHeld_22 rfl ?_
      exact sl_hret hG hT (by decide) dL_isHeld_23 rfl
    · skip
      refine sl_lconst hG 1 11 rfl dL_isHeld_10 rfl ?_
      refine sm_goto hG 15 dL_isHeld_11 (by decide) ?_
      refine sl_out hG (bz x) (by unfold bz; rw [if_neg hz]; rfl) 16 rfl dL_isHeld_15 ?_
      refine sm_goto hG 22 dL_isHeld_16 (by decide) ?_
      refine sm_iconst (x := (0 : Int32)) hG 23 rfl dL_isHeld_22 rfl ?_
      exact sl_hret hG hT (by decide) dL_isHeld_23 rfl
  · rcases k_c1 hk hc h0 with e
    · subst e
      refine ⟨[], ⟨0, 16, 19, 21⟩, [], rfl, (by intro _ h; cases h), rfl, by decide, by decide +kernel, by decide +kernel, fun q => ?_⟩
      refine sm_astore_n hG 20 rfl dL_isHeld_19 rfl (jlt hN rfl) [(3, .ref q), (0, .ref (P.2.2.1 (0, 0, 0))), (1, .int x1), (2, .ref P.2.2.2.2.1)] rfl ?_
      refine sm_iconst (x := (1 : Int32)) hG 21 rfl dL_isHeld_20 rfl ?_
      exact sl_hret hG hT (by decide) dL_isHeld_21 rfl
abbrev rmL_placesIn : Room := { frames := rmX6_placesIn.frames + 1, cells := rmX6_placesIn.cells, slots := rmX6_placesIn.slots, locals := 8 + (3 + 11) + rmX6_placesIn.locals }
set_option maxRecDepth 100000 in
set_option maxHeartbeats 4000000 in
theorem c_L_placesIn {P : pS} (hP : Ap P) {x1 x2 : Int32} {l : Launch} (hfl : l.stackTraces = false) {v v' : mC} {w : mM} {o : Nat → Int32} {x : Int32} {k : Nat} (hF : f_X6_placesIn x1 x2 v = some (x, k, v')) (hk : k ≤ 3) (hc : c1 k = 0 ↔ k = 0) : Cw l yL_placesIn wsL_placesIn rmL_placesIn (lS P) [.ref (P.2.2.1 (0, 0, 0)), .int x1, .int x2, .ref P.2.2.2.2.1] (m3 v w o) (some (.int (nI (c1 k)))) (m3 v' w (oK k (x) o)) := by
  refine cw_of (cc := cL_placesIn) (maxL := 5) (hh := [(0, 10, 13, 21)]) (r := ()) (ex := some ()) (fun (_ : Unit) => (some (Value.int (nI (c1 k))), m3 v' w (oK k (x) o))) (lS_ok hP) rfl (by decide) rfl (Nat.le_of_ble_eq_true rfl) (fun Γ hG hT hN hl => ?_)
  subst hl
  have hX : XS P _ _ := hG.2.2.2.2.2.2.2.2.2
  show Sm Γ (lS P) (0, 0) 0 [(0, .ref (P.2.2.1 (0, 0, 0))), (1, .int x1), (2, .int x2), (3, .ref P.2.2.2.2.1)] [] (m3 v w o) _
  refine sm_aload_n hG 1 rfl dL_placesIn_0 rfl 3 rfl ?_
  refine sm_iconst (x := (0 : Int32)) hG 2 rfl dL_placesIn_1 rfl ?_
  refine sm_aload_n hG 3 rfl dL_placesIn_2 rfl 0 rfl ?_
  refine sm_iload_n hG 4 rfl dL_placesIn_3 rfl 1 rfl ?_
  refine sm_iload_n hG 5 rfl dL_placesIn_4 rfl 2 rfl ?_
  refine sl_hcall (hh := [(0, 10, 13, 21)]) (k0 := k) (x := .int x) (v' := m3 v' w o) hG hT.2.2.2 (.inl (0, 0, 0)) [.int x1, .int x2] 8 rfl (ok0 (lC_ok hP)) ceS_0 (ci := 6) rfl (lift_X hP (c_X6_placesIn (lC_ok hP) hfl hF)) gL_placesIn_X6_placesIn rfl (by decide) (by decide) (n := 2) rfl (Nat.le_of_ble_eq_true rfl) (rmX6_placesIn.cells, rmX6_placesIn.slots) ⟨Nat.zero_add _, Nat.zero_add _⟩ (by decide) rfl dL_placesIn_5 hX.2.2 hX.1.2.1.2.2 (fun h0 => ?_) (fun h0 => ?_)
  · subst h0
    refine sl_i2l hG 9 rfl dL_placesIn_8 ?_
    refine sl_out hG x rfl 10 rfl dL_placesIn_9 ?_
    refine sm_goto hG 17 dL_placesIn_10 (by decide) ?_
    refine sm_iconst (x := (0 : Int32)) hG 18 rfl dL_placesIn_17 rfl ?_
    exact sl_hret hG hT (by decide) dL_placesIn_18 rfl
  · rcases k_c1 hk hc h0 with e
    · subst e
      refine ⟨[], ⟨0, 10, 13, 21⟩, [], rfl, (by intro _ h; cases h), rfl, by decide, by decide +kernel, by decide +kernel, fun q => ?_⟩
      refine sm_astore hG 15 rfl dL_placesIn_13 (jlt hN rfl) [(4, .ref q), (0, .ref (P.2.2.1 (0, 0, 0))), (1, .int x1), (2, .int x2), (3, .ref P.2.2.2.2.1)] rfl ?_
      refine sm_iconst (x := (1 : Int32)) hG 16 rfl dL_placesIn_15 rfl ?_
      exact sl_hret hG hT (by decide) dL_placesIn_16 rfl
abbrev rmL_whyNot : Room := { frames := rmX6_whyNot.frames + 1, cells := rmX6_whyNot.cells, slots := rmX6_whyNot.slots, locals := 8 + (5 + 11) + rmX6_whyNot.locals }
set_option maxRecDepth 100000 in
set_option maxHeartbeats 4000000 in
theorem c_L_whyNot {P : pS} (hP : Ap P) {x1 x2 x3 : Int32} {l : Launch} (hfl : l.stackTraces = false) {v v' : mC} {w : mM} {o : Nat → Int32} {x : Int32} {k : Nat} (hF : f_X6_whyNot x1 x2 x3 v = some (x, k, v')) (hk : k ≤ 3) (hc : c13 k = 0 ↔ k = 0) : Cw l yL_whyNot wsL_whyNot rmL_whyNot (lS P) [.ref (P.2.2.1 (0, 0, 0)), .int x1, .int x2, .int x3, .ref P.2.2.2.2.1] (m3 v w o) (some (.int (nI (c13 k)))) (m3 v' w (oK k (x) o)) := by
  refine cw_of (cc := cL_whyNot) (maxL := 6) (hh := [(0, 12, 15, 21), (0, 12, 19, 15)]) (r := ()) (ex := some ()) (fun (_ : Unit) => (some (Value.int (nI (c13 k))), m3 v' w (oK k (x) o))) (lS_ok hP) rfl (by decide) rfl (Nat.le_of_ble_eq_true rfl) (fun Γ hG hT hN hl => ?_)
  subst hl
  have hX : XS P _ _ := hG.2.2.2.2.2.2.2.2.2
  show Sm Γ (lS P) (0, 0) 0 [(0, .ref (P.2.2.1 (0, 0, 0))), (1, .int x1), (2, .int x2), (3, .int x3), (4, .ref P.2.2.2.2.1)] [] (m3 v w o) _
  refine sm_aload hG 2 rfl dL_whyNot_0 4 rfl ?_
  refine sm_iconst (x := (0 : Int32)) hG 3 rfl dL_whyNot_2 rfl ?_
  refine sm_aload_n hG 4 rfl dL_whyNot_3 rfl 0 rfl ?_
  refine sm_iload_n hG 5 rfl dL_whyNot_4 rfl 1 rfl ?_
  refine sm_iload_n hG 6 rfl dL_whyNot_5 rfl 2 rfl ?_
  refine sm_iload_n hG 7 rfl dL_whyNot_6 rfl 3 rfl ?_
  refine sl_hcall (hh := [(0, 12, 15, 21), (0, 12, 19, 15)]) (k0 := k) (x := .int x) (v' := m3 v' w o) hG hT.2.2.2 (.inl (0, 0, 0)) [.int x1, .int x2, .int x3] 10 rfl (ok0 (lC_ok hP)) ceS_0 (ci := 6) rfl (lift_X hP (c_X6_whyNot (lC_ok hP) hfl hF)) gL_whyNot_X6_whyNot rfl (by decide) (by decide) (n := 3) rfl (Nat.le_of_ble_eq_true rfl) (rmX6_whyNot.cells, rmX6_whyNot.slots) ⟨Nat.zero_add _, Nat.zero_add _⟩ (by decide) rfl dL_whyNot_7 hX.2.2 hX.1.2.1.2.2 (fun h0 => ?_) (fun h0 => ?_)
  · subst h0
    refine sl_i2l hG 11 rfl dL_whyNot_10 ?_
    refine sl_out hG x rfl 12 rfl dL_whyNot_11 ?_
    refine sm_goto hG 23 dL_whyNot_12 (by decide) ?_
    refine sm_iconst (x := (0 : Int32)) hG 24 rfl dL_whyNot_23 rfl ?_
    exact sl_hret hG hT (by decide) dL_whyNot_24 rfl
  · rcases k_c13 hk hc h0 with e | e
    · subst e
      refine ⟨[], ⟨0, 12, 15, 21⟩, [⟨0, 12, 19, 15⟩], rfl, (by intro _ h; cases h), rfl, by decide, by decide +kernel, by decide +kernel, fun q => ?_⟩
      refine sm_astore hG 17 rfl dL_whyNot_15 (jlt hN rfl) [(5, .ref q), (0, .ref (P.2.2.1 (0, 0, 0))), (1, .int x1), (2, .int x2), (3, .int x3), (4, .ref P.2.2.2.2.1)] rfl ?_
      refine sm_iconst (x := (1 : Int32)) hG 18 rfl dL_whyNot_17 rfl ?_
      exact sl_hret hG hT (by decide) dL_whyNot_18 rfl
    · subst e
      refine ⟨[⟨0, 12, 15, 21⟩], ⟨0, 12, 19, 15⟩, [], rfl, List.forall_mem_cons.mpr ⟨Or.inr ⟨by decide, exN 1, by decide +kernel, by decide +kernel⟩, (by intro _ h; cases h)⟩, rfl, by decide, by decide +kernel, by decide +kernel, fun q => ?_⟩
      refine sm_astore hG 21 rfl dL_whyNot_19 (jlt hN rfl) [(5, .ref q), (0, .ref (P.2.2.1 (0, 0, 0))), (1, .int x1), (2, .int x2), (3, .int x3), (4, .ref P.2.2.2.2.1)] rfl ?_
      refine sm_iconst (x := (2 : Int32)) hG 22 rfl dL_whyNot_21 rfl ?_
      exact sl_hret hG hT (by decide) dL_whyNot_22 rfl
abbrev rmL_lineOf : Room := { frames := rmX6_lineOf.frames + 1, cells := rmX6_lineOf.cells, slots := rmX6_lineOf.slots, locals := 8 + (3 + 11) + rmX6_lineOf.locals }
set_option maxRecDepth 100000 in
set_option maxHeartbeats 4000000 in
theorem c_L_lineOf {P : pS} (hP : Ap P) {x1 x2 : Int32} {l : Launch} (hfl : l.stackTraces = false) {v v' : mC} {w : mM} {o : Nat → Int32} {x : Int32} {k : Nat} (hF : f_X6_lineOf x1 x2 v = some (x, k, v')) (hk : k ≤ 3) (hc : c1 k = 0 ↔ k = 0) : Cw l yL_lineOf wsL_lineOf rmL_lineOf (lS P) [.ref (P.2.2.1 (0, 0, 0)), .int x1, .int x2, .ref P.2.2.2.2.1] (m3 v w o) (some (.int (nI (c1 k)))) (m3 v' w (oK k (x) o)) := by
  refine cw_of (cc := cL_lineOf) (maxL := 5) (hh := [(0, 10, 13, 21)]) (r := ()) (ex := some ()) (fun (_ : Unit) => (some (Value.int (nI (c1 k))), m3 v' w (oK k (x) o))) (lS_ok hP) rfl (by decide) rfl (Nat.le_of_ble_eq_true rfl) (fun Γ hG hT hN hl => ?_)
  subst hl
  have hX : XS P _ _ := hG.2.2.2.2.2.2.2.2.2
  show Sm Γ (lS P) (0, 0) 0 [(0, .ref (P.2.2.1 (0, 0, 0))), (1, .int x1), (2, .int x2), (3, .ref P.2.2.2.2.1)] [] (m3 v w o) _
  refine sm_aload_n hG 1 rfl dL_lineOf_0 rfl 3 rfl ?_
  refine sm_iconst (x := (0 : Int32)) hG 2 rfl dL_lineOf_1 rfl ?_
  refine sm_aload_n hG 3 rfl dL_lineOf_2 rfl 0 rfl ?_
  refine sm_iload_n hG 4 rfl dL_lineOf_3 rfl 1 rfl ?_
  refine sm_iload_n hG 5 rfl dL_lineOf_4 rfl 2 rfl ?_
  refine sl_hcall (hh := [(0, 10, 13, 21)]) (k0 := k) (x := .int x) (v' := m3 v' w o) hG hT.2.2.2 (.inl (0, 0, 0)) [.int x1, .int x2] 8 rfl (ok0 (lC_ok hP)) ceS_0 (ci := 6) rfl (lift_X hP (c_X6_lineOf (lC_ok hP) hfl hF)) gL_lineOf_X6_lineOf rfl (by decide) (by decide) (n := 2) rfl (Nat.le_of_ble_eq_true rfl) (rmX6_lineOf.cells, rmX6_lineOf.slots) ⟨Nat.zero_add _, Nat.zero_add _⟩ (by decide) rfl dL_lineOf_5 hX.2.2 hX.1.2.1.2.2 (fun h0 => ?_) (fun h0 => ?_)
  · subst h0
    refine sl_i2l hG 9 rfl dL_lineOf_8 ?_
    refine sl_out hG x rfl 10 rfl dL_lineOf_9 ?_
    refine sm_goto hG 17 dL_lineOf_10 (by decide) ?_
    refine sm_iconst (x := (0 : Int32)) hG 18 rfl dL_lineOf_17 rfl ?_
    exact sl_hret hG hT (by decide) dL_lineOf_18 rfl
  · rcases k_c1 hk hc h0 with e
    · subst e
      refine ⟨[], ⟨0, 10, 13, 21⟩, [], rfl, (by intro _ h; cases h), rfl, by decide, by decide +kernel, by decide +kernel, fun q => ?_⟩
      refine sm_astore hG 15 rfl dL_lineOf_13 (jlt hN rfl) [(4, .ref q), (0, .ref (P.2.2.1 (0, 0, 0))), (1, .int x1), (2, .int x2), (3, .ref P.2.2.2.2.1)] rfl ?_
      refine sm_iconst (x := (1 : Int32)) hG 16 rfl dL_lineOf_15 rfl ?_
      exact sl_hret hG hT (by decide) dL_lineOf_16 rfl
abbrev rmL_singersIn : Room := { frames := rmX6_singersIn.frames + 1, cells := rmX6_singersIn.cells, slots := rmX6_singersIn.slots, locals := 8 + (3 + 11) + rmX6_singersIn.locals }
set_option maxRecDepth 100000 in
set_option maxHeartbeats 4000000 in
theorem c_L_singersIn {P : pS} (hP : Ap P) {x1 x2 : Int32} {l : Launch} (hfl : l.stackTraces = false) {v v' : mC} {w : mM} {o : Nat → Int32} {x : Int32} {k : Nat} (hF : f_X6_singersIn x1 x2 v = some (x, k, v')) (hk : k ≤ 3) (hc : c1 k = 0 ↔ k = 0) : Cw l yL_singersIn wsL_singersIn rmL_singersIn (lS P) [.ref (P.2.2.1 (0, 0, 0)), .int x1, .int x2, .ref P.2.2.2.2.1] (m3 v w o) (some (.int (nI (c1 k)))) (m3 v' w (oK k (x) o)) := by
  refine cw_of (cc := cL_singersIn) (maxL := 5) (hh := [(0, 10, 13, 21)]) (r := ()) (ex := some ()) (fun (_ : Unit) => (some (Value.int (nI (c1 k))), m3 v' w (oK k (x) o))) (lS_ok hP) rfl (by decide) rfl (Nat.le_of_ble_eq_true rfl) (fun Γ hG hT hN hl => ?_)
  subst hl
  have hX : XS P _ _ := hG.2.2.2.2.2.2.2.2.2
  show Sm Γ (lS P) (0, 0) 0 [(0, .ref (P.2.2.1 (0, 0, 0))), (1, .int x1), (2, .int x2), (3, .ref P.2.2.2.2.1)] [] (m3 v w o) _
  refine sm_aload_n hG 1 rfl dL_singersIn_0 rfl 3 rfl ?_
  refine sm_iconst (x := (0 : Int32)) hG 2 rfl dL_singersIn_1 rfl ?_
  refine sm_aload_n hG 3 rfl dL_singersIn_2 rfl 0 rfl ?_
  refine sm_iload_n hG 4 rfl dL_singersIn_3 rfl 1 rfl ?_
  refine sm_iload_n hG 5 rfl dL_singersIn_4 rfl 2 rfl ?_
  refine sl_hcall (hh := [(0, 10, 13, 21)]) (k0 := k) (x := .int x) (v' := m3 v' w o) hG hT.2.2.2 (.inl (0, 0, 0)) [.int x1, .int x2] 8 rfl (ok0 (lC_ok hP)) ceS_0 (ci := 6) rfl (lift_X hP (c_X6_singersIn (lC_ok hP) hfl hF)) gL_singersIn_X6_singersIn rfl (by decide) (by decide) (n := 2) rfl (Nat.le_of_ble_eq_true rfl) (rmX6_singersIn.cells, rmX6_singersIn.slots) ⟨Nat.zero_add _, Nat.zero_add _⟩ (by decide) rfl dL_singersIn_5 hX.2.2 hX.1.2.1.2.2 (fun h0 => ?_) (fun h0 => ?_)
  · subst h0
    refine sl_i2l hG 9 rfl dL_singersIn_8 ?_
    refine sl_out hG x rfl 10 rfl dL_singersIn_9 ?_
    refine sm_goto hG 17 dL_singersIn_10 (by decide) ?_
    refine sm_iconst (x := (0 : Int32)) hG 18 rfl dL_singersIn_17 rfl ?_
    exact sl_hret hG hT (by decide) dL_singersIn_18 rfl
  · rcases k_c1 hk hc h0 with e
    · subst e
      refine ⟨[], ⟨0, 10, 13, 21⟩, [], rfl, (by intro _ h; cases h), rfl, by decide, by decide +kernel, by decide +kernel, fun q => ?_⟩
      refine sm_astore hG 15 rfl dL_singersIn_13 (jlt hN rfl) [(4, .ref q), (0, .ref (P.2.2.1 (0, 0, 0))), (1, .int x1), (2, .int x2), (3, .ref P.2.2.2.2.1)] rfl ?_
      refine sm_iconst (x := (1 : Int32)) hG 16 rfl dL_singersIn_15 rfl ?_
      exact sl_hret hG hT (by decide) dL_singersIn_16 rfl
abbrev rmL_shortfall : Room := { frames := rmX6_shortfall.frames + 1, cells := rmX6_shortfall.cells, slots := rmX6_shortfall.slots, locals := 8 + (2 + 11) + rmX6_shortfall.locals }
set_option maxRecDepth 100000 in
set_option maxHeartbeats 4000000 in
theorem c_L_shortfall {P : pS} (hP : Ap P) {x1 : Int32} {l : Launch} (hfl : l.stackTraces = false) {v v' : mC} {w : mM} {o : Nat → Int32} {x : Int32} {k : Nat} (hF : f_X6_shortfall x1 v = some (x, k, v')) (hk : k ≤ 3) (hc : c1 k = 0 ↔ k = 0) : Cw l yL_shortfall wsL_shortfall rmL_shortfall (lS P) [.ref (P.2.2.1 (0, 0, 0)), .int x1, .ref P.2.2.2.2.1] (m3 v w o) (some (.int (nI (c1 k)))) (m3 v' w (oK k (x) o)) := by
  refine cw_of (cc := cL_shortfall) (maxL := 4) (hh := [(0, 9, 12, 21)]) (r := ()) (ex := some ()) (fun (_ : Unit) => (some (Value.int (nI (c1 k))), m3 v' w (oK k (x) o))) (lS_ok hP) rfl (by decide) rfl (Nat.le_of_ble_eq_true rfl) (fun Γ hG hT hN hl => ?_)
  subst hl
  have hX : XS P _ _ := hG.2.2.2.2.2.2.2.2.2
  show Sm Γ (lS P) (0, 0) 0 [(0, .ref (P.2.2.1 (0, 0, 0))), (1, .int x1), (2, .ref P.2.2.2.2.1)] [] (m3 v w o) _
  refine sm_aload_n hG 1 rfl dL_shortfall_0 rfl 2 rfl ?_
  refine sm_iconst (x := (0 : Int32)) hG 2 rfl dL_shortfall_1 rfl ?_
  refine sm_aload_n hG 3 rfl dL_shortfall_2 rfl 0 rfl ?_
  refine sm_iload_n hG 4 rfl dL_shortfall_3 rfl 1 rfl ?_
  refine sl_hcall (hh := [(0, 9, 12, 21)]) (k0 := k) (x := .int x) (v' := m3 v' w o) hG hT.2.2.2 (.inl (0, 0, 0)) [.int x1] 7 rfl (ok0 (lC_ok hP)) ceS_0 (ci := 6) rfl (lift_X hP (c_X6_shortfall (lC_ok hP) hfl hF)) gL_shortfall_X6_shortfall rfl (by decide) (by decide) (n := 1) rfl (Nat.le_of_ble_eq_true rfl) (rmX6_shortfall.cells, rmX6_shortfall.slots) ⟨Nat.zero_add _, Nat.zero_add _⟩ (by decide) rfl dL_shortfall_4 hX.2.2 hX.1.2.1.2.2 (fun h0 => ?_) (fun h0 => ?_)
  · subst h0
    refine sl_i2l hG 8 rfl dL_shortfall_7 ?_
    refine sl_out hG x rfl 9 rfl dL_shortfall_8 ?_
    refine sm_goto hG 15 dL_shortfall_9 (by decide) ?_
    refine sm_iconst (x := (0 : Int32)) hG 16 rfl dL_shortfall_15 rfl ?_
    exact sl_hret hG hT (by decide) dL_shortfall_16 rfl
  · rcases k_c1 hk hc h0 with e
    · subst e
      refine ⟨[], ⟨0, 9, 12, 21⟩, [], rfl, (by intro _ h; cases h), rfl, by decide, by decide +kernel, by decide +kernel, fun q => ?_⟩
      refine sm_astore_n hG 13 rfl dL_shortfall_12 rfl (jlt hN rfl) [(3, .ref q), (0, .ref (P.2.2.1 (0, 0, 0))), (1, .int x1), (2, .ref P.2.2.2.2.1)] rfl ?_
      refine sm_iconst (x := (1 : Int32)) hG 14 rfl dL_shortfall_13 rfl ?_
      exact sl_hret hG hT (by decide) dL_shortfall_14 rfl
abbrev rmL_shortfallBySets : Room := { frames := rmX6_shortfallBySets.frames + 1, cells := rmX6_shortfallBySets.cells, slots := rmX6_shortfallBySets.slots, locals := 8 + (2 + 11) + rmX6_shortfallBySets.locals }
set_option maxRecDepth 100000 in
set_option maxHeartbeats 4000000 in
theorem c_L_shortfallBySets {P : pS} (hP : Ap P) {x1 : Int32} {l : Launch} (hfl : l.stackTraces = false) {v v' : mC} {w : mM} {o : Nat → Int32} {x : Int32} {k : Nat} (hF : f_X6_shortfallBySets x1 v = some (x, k, v')) (hk : k ≤ 3) (hc : c13 k = 0 ↔ k = 0) : Cw l yL_shortfallBySets wsL_shortfallBySets rmL_shortfallBySets (lS P) [.ref (P.2.2.1 (0, 0, 0)), .int x1, .ref P.2.2.2.2.1] (m3 v w o) (some (.int (nI (c13 k)))) (m3 v' w (oK k (x) o)) := by
  refine cw_of (cc := cL_shortfallBySets) (maxL := 4) (hh := [(0, 9, 12, 21), (0, 9, 15, 15)]) (r := ()) (ex := some ()) (fun (_ : Unit) => (some (Value.int (nI (c13 k))), m3 v' w (oK k (x) o))) (lS_ok hP) rfl (by decide) rfl (Nat.le_of_ble_eq_true rfl) (fun Γ hG hT hN hl => ?_)
  subst hl
  have hX : XS P _ _ := hG.2.2.2.2.2.2.2.2.2
  show Sm Γ (lS P) (0, 0) 0 [(0, .ref (P.2.2.1 (0, 0, 0))), (1, .int x1), (2, .ref P.2.2.2.2.1)] [] (m3 v w o) _
  refine sm_aload_n hG 1 rfl dL_shortfallBySets_0 rfl 2 rfl ?_
  refine sm_iconst (x := (0 : Int32)) hG 2 rfl dL_shortfallBySets_1 rfl ?_
  refine sm_aload_n hG 3 rfl dL_shortfallBySets_2 rfl 0 rfl ?_
  refine sm_iload_n hG 4 rfl dL_shortfallBySets_3 rfl 1 rfl ?_
  refine sl_hcall (hh := [(0, 9, 12, 21), (0, 9, 15, 15)]) (k0 := k) (x := .int x) (v' := m3 v' w o) hG hT.2.2.2 (.inl (0, 0, 0)) [.int x1] 7 rfl (ok0 (lC_ok hP)) ceS_0 (ci := 6) rfl (lift_X hP (c_X6_shortfallBySets (lC_ok hP) hfl hF)) gL_shortfallBySets_X6_shortfallBySets rfl (by decide) (by decide) (n := 1) rfl (Nat.le_of_ble_eq_true rfl) (rmX6_shortfallBySets.cells, rmX6_shortfallBySets.slots) ⟨Nat.zero_add _, Nat.zero_add _⟩ (by decide) rfl dL_shortfallBySets_4 hX.2.2 hX.1.2.1.2.2 (fun h0 => ?_) (fun h0 => ?_)
  · subst h0
    refine sl_i2l hG 8 rfl dL_shortfallBySets_7 ?_
    refine sl_out hG x rfl 9 rfl dL_shortfallBySets_8 ?_
    refine sm_goto hG 18 dL_shortfallBySets_9 (by decide) ?_
    refine sm_iconst (x := (0 : Int32)) hG 19 rfl dL_shortfallBySets_18 rfl ?_
    exact sl_hret hG hT (by decide) dL_shortfallBySets_19 rfl
  · rcases k_c13 hk hc h0 with e | e
    · subst e
      refine ⟨[], ⟨0, 9, 12, 21⟩, [⟨0, 9, 15, 15⟩], rfl, (by intro _ h; cases h), rfl, by decide, by decide +kernel, by decide +kernel, fun q => ?_⟩
      refine sm_astore_n hG 13 rfl dL_shortfallBySets_12 rfl (jlt hN rfl) [(3, .ref q), (0, .ref (P.2.2.1 (0, 0, 0))), (1, .int x1), (2, .ref P.2.2.2.2.1)] rfl ?_
      refine sm_iconst (x := (1 : Int32)) hG 14 rfl dL_shortfallBySets_13 rfl ?_
      exact sl_hret hG hT (by decide) dL_shortfallBySets_14 rfl
    · subst e
      refine ⟨[⟨0, 9, 12, 21⟩], ⟨0, 9, 15, 15⟩, [], rfl, List.forall_mem_cons.mpr ⟨Or.inr ⟨by decide, exN 1, by decide +kernel, by decide +kernel⟩, (by intro _ h; cases h)⟩, rfl, by decide, by decide +kernel, by decide +kernel, fun q => ?_⟩
      refine sm_astore_n hG 16 rfl dL_shortfallBySets_15 rfl (jlt hN rfl) [(3, .ref q), (0, .ref (P.2.2.1 (0, 0, 0))), (1, .int x1), (2, .ref P.2.2.2.2.1)] rfl ?_
      refine sm_iconst (x := (2 : Int32)) hG 17 rfl dL_shortfallBySets_16 rfl ?_
      exact sl_hret hG hT (by decide) dL_shortfallBySets_17 rfl
abbrev rmL_neededLine : Room := { frames := rmX6_neededLine.frames + 1, cells := rmX6_neededLine.cells, slots := rmX6_neededLine.slots, locals := 8 + (4 + 11) + rmX6_neededLine.locals }
set_option maxRecDepth 100000 in
set_option maxHeartbeats 4000000 in
theorem c_L_neededLine {P : pS} (hP : Ap P) {x1 : Int32} {l : Launch} (hfl : l.stackTraces = false) {v v' : mC} {w : mM} {o : Nat → Int32} {x : Int32} {k : Nat} (hF : f_X6_neededLine x1 v = some (x, k, v')) (hk : k ≤ 3) (hc : c13 k = 0 ↔ k = 0) : Cw l yL_neededLine wsL_neededLine rmL_neededLine (lS P) [.ref (P.2.2.1 (0, 0, 0)), .int x1, .ref P.2.2.2.2.1] (m3 v w o) (some (.int (nI (c13 k)))) (m3 v' w (oK k (x) o)) := by
  refine cw_of (cc := cL_neededLine) (maxL := 4) (hh := [(0, 9, 12, 21), (0, 9, 15, 15)]) (r := ()) (ex := some ()) (fun (_ : Unit) => (some (Value.int (nI (c13 k))), m3 v' w (oK k (x) o))) (lS_ok hP) rfl (by decide) rfl (Nat.le_of_ble_eq_true rfl) (fun Γ hG hT hN hl => ?_)
  subst hl
  have hX : XS P _ _ := hG.2.2.2.2.2.2.2.2.2
  show Sm Γ (lS P) (0, 0) 0 [(0, .ref (P.2.2.1 (0, 0, 0))), (1, .int x1), (2, .ref P.2.2.2.2.1)] [] (m3 v w o) _
  refine sm_aload_n hG 1 rfl dL_neededLine_0 rfl 2 rfl ?_
  refine sm_iconst (x := (0 : Int32)) hG 2 rfl dL_neededLine_1 rfl ?_
  refine sm_aload_n hG 3 rfl dL_neededLine_2 rfl 0 rfl ?_
  refine sm_iload_n hG 4 rfl dL_neededLine_3 rfl 1 rfl ?_
  refine sl_hcall (hh := [(0, 9, 12, 21), (0, 9, 15, 15)]) (k0 := k) (x := .int x) (v' := m3 v' w o) hG hT.2.2.2 (.inl (0, 0, 0)) [.int x1] 7 rfl (ok0 (lC_ok hP)) ceS_0 (ci := 6) rfl (lift_X hP (c_X6_neededLine (lC_ok hP) hfl hF)) gL_neededLine_X6_neededLine rfl (by decide) (by decide) (n := 1) rfl (Nat.le_of_ble_eq_true rfl) (rmX6_neededLine.cells, rmX6_neededLine.slots) ⟨Nat.zero_add _, Nat.zero_add _⟩ (by decide) rfl dL_neededLine_4 hX.2.2 hX.1.2.1.2.2 (fun h0 => ?_) (fun h0 => ?_)
  · subst h0
    refine sl_i2l hG 8 rfl dL_neededLine_7 ?_
    refine sl_out hG x rfl 9 rfl dL_neededLine_8 ?_
    refine sm_goto hG 18 dL_neededLine_9 (by decide) ?_
    refine sm_iconst (x := (0 : Int32)) hG 19 rfl dL_neededLine_18 rfl ?_
    exact sl_hret hG hT (by decide) dL_neededLine_19 rfl
  · rcases k_c13 hk hc h0 with e | e
    · subst e
      refine ⟨[], ⟨0, 9, 12, 21⟩, [⟨0, 9, 15, 15⟩], rfl, (by intro _ h; cases h), rfl, by decide, by decide +kernel, by decide +kernel, fun q => ?_⟩
      refine sm_astore_n hG 13 rfl dL_neededLine_12 rfl (jlt hN rfl) [(3, .ref q), (0, .ref (P.2.2.1 (0, 0, 0))), (1, .int x1), (2, .ref P.2.2.2.2.1)] rfl ?_
      refine sm_iconst (x := (1 : Int32)) hG 14 rfl dL_neededLine_13 rfl ?_
      exact sl_hret hG hT (by decide) dL_neededLine_14 rfl
    · subst e
      refine ⟨[⟨0, 9, 12, 21⟩], ⟨0, 9, 15, 15⟩, [], rfl, List.forall_mem_cons.mpr ⟨Or.inr ⟨by decide, exN 1, by decide +kernel, by decide +kernel⟩, (by intro _ h; cases h)⟩, rfl, by decide, by decide +kernel, by decide +kernel, fun q => ?_⟩
      refine sm_astore_n hG 16 rfl dL_neededLine_15 rfl (jlt hN rfl) [(3, .ref q), (0, .ref (P.2.2.1 (0, 0, 0))), (1, .int x1), (2, .ref P.2.2.2.2.1)] rfl ?_
      refine sm_iconst (x := (2 : Int32)) hG 17 rfl dL_neededLine_16 rfl ?_
      exact sl_hret hG hT (by decide) dL_neededLine_17 rfl
abbrev rmL_descantIn : Room := { frames := rmX6_descantIn.frames + 1, cells := rmX6_descantIn.cells, slots := rmX6_descantIn.slots, locals := 8 + (2 + 11) + rmX6_descantIn.locals }
set_option maxRecDepth 100000 in
set_option maxHeartbeats 4000000 in
theorem c_L_descantIn {P : pS} (hP : Ap P) {x1 : Int32} {l : Launch} (hfl : l.stackTraces = false) {v v' : mC} {w : mM} {o : Nat → Int32} {x : Int32} {k : Nat} (hF : f_X6_descantIn x1 v = some (x, k, v')) (hk : k ≤ 3) (hc : c1 k = 0 ↔ k = 0) : Cw l yL_descantIn wsL_descantIn rmL_descantIn (lS P) [.ref (P.2.2.1 (0, 0, 0)), .int x1, .ref P.2.2.2.2.1] (m3 v w o) (some (.int (nI (c1 k)))) (m3 v' w (oK k (x) o)) := by
  refine cw_of (cc := cL_descantIn) (maxL := 4) (hh := [(0, 9, 12, 21)]) (r := ()) (ex := some ()) (fun (_ : Unit) => (some (Value.int (nI (c1 k))), m3 v' w (oK k (x) o))) (lS_ok hP) rfl (by decide) rfl (Nat.le_of_ble_eq_true rfl) (fun Γ hG hT hN hl => ?_)
  subst hl
  have hX : XS P _ _ := hG.2.2.2.2.2.2.2.2.2
  show Sm Γ (lS P) (0, 0) 0 [(0, .ref (P.2.2.1 (0, 0, 0))), (1, .int x1), (2, .ref P.2.2.2.2.1)] [] (m3 v w o) _
  refine sm_aload_n hG 1 rfl dL_descantIn_0 rfl 2 rfl ?_
  refine sm_iconst (x := (0 : Int32)) hG 2 rfl dL_descantIn_1 rfl ?_
  refine sm_aload_n hG 3 rfl dL_descantIn_2 rfl 0 rfl ?_
  refine sm_iload_n hG 4 rfl dL_descantIn_3 rfl 1 rfl ?_
  refine sl_hcall (hh := [(0, 9, 12, 21)]) (k0 := k) (x := .int x) (v' := m3 v' w o) hG hT.2.2.2 (.inl (0, 0, 0)) [.int x1] 7 rfl (ok0 (lC_ok hP)) ceS_0 (ci := 6) rfl (lift_X hP (c_X6_descantIn (lC_ok hP) hfl hF)) gL_descantIn_X6_descantIn rfl (by decide) (by decide) (n := 1) rfl (Nat.le_of_ble_eq_true rfl) (rmX6_descantIn.cells, rmX6_descantIn.slots) ⟨Nat.zero_add _, Nat.zero_add _⟩ (by decide) rfl dL_descantIn_4 hX.2.2 hX.1.2.1.2.2 (fun h0 => ?_) (fun h0 => ?_)
  · subst h0
    refine sl_i2l hG 8 rfl dL_descantIn_7 ?_
    refine sl_out hG x rfl 9 rfl dL_descantIn_8 ?_
    refine sm_goto hG 15 dL_descantIn_9 (by decide) ?_
    refine sm_iconst (x := (0 : Int32)) hG 16 rfl dL_descantIn_15 rfl ?_
    exact sl_hret hG hT (by decide) dL_descantIn_16 rfl
  · rcases k_c1 hk hc h0 with e
    · subst e
      refine ⟨[], ⟨0, 9, 12, 21⟩, [], rfl, (by intro _ h; cases h), rfl, by decide, by decide +kernel, by decide +kernel, fun q => ?_⟩
      refine sm_astore_n hG 13 rfl dL_descantIn_12 rfl (jlt hN rfl) [(3, .ref q), (0, .ref (P.2.2.1 (0, 0, 0))), (1, .int x1), (2, .ref P.2.2.2.2.1)] rfl ?_
      refine sm_iconst (x := (1 : Int32)) hG 14 rfl dL_descantIn_13 rfl ?_
      exact sl_hret hG hT (by decide) dL_descantIn_14 rfl
abbrev rmL_pewOf : Room := { frames := rmX6_pewOf.frames + 1, cells := rmX6_pewOf.cells, slots := rmX6_pewOf.slots, locals := 8 + (4 + 11) + rmX6_pewOf.locals }
set_option maxRecDepth 100000 in
set_option maxHeartbeats 4000000 in
theorem c_L_pewOf {P : pS} (hP : Ap P) {x1 x2 : Int32} {l : Launch} (hfl : l.stackTraces = false) {v v' : mC} {w : mM} {o : Nat → Int32} {x : Int32} {k : Nat} (hF : f_X6_pewOf x1 x2 v = some (x, k, v')) (hk : k ≤ 3) (hc : c1 k = 0 ↔ k = 0) : Cw l yL_pewOf wsL_pewOf rmL_pewOf (lS P) [.ref (P.2.2.1 (0, 0, 0)), .int x1, .int x2, .ref P.2.2.2.2.1] (m3 v w o) (some (.int (nI (c1 k)))) (m3 v' w (oK k (x) o)) := by
  refine cw_of (cc := cL_pewOf) (maxL := 5) (hh := [(0, 10, 13, 21)]) (r := ()) (ex := some ()) (fun (_ : Unit) => (some (Value.int (nI (c1 k))), m3 v' w (oK k (x) o))) (lS_ok hP) rfl (by decide) rfl (Nat.le_of_ble_eq_true rfl) (fun Γ hG hT hN hl => ?_)
  subst hl
  have hX : XS P _ _ := hG.2.2.2.2.2.2.2.2.2
  show Sm Γ (lS P) (0, 0) 0 [(0, .ref (P.2.2.1 (0, 0, 0))), (1, .int x1), (2, .int x2), (3, .ref P.2.2.2.2.1)] [] (m3 v w o) _
  refine sm_aload_n hG 1 rfl dL_pewOf_0 rfl 3 rfl ?_
  refine sm_iconst (x := (0 : Int32)) hG 2 rfl dL_pewOf_1 rfl ?_
  refine sm_aload_n hG 3 rfl dL_pewOf_2 rfl 0 rfl ?_
  refine sm_iload_n hG 4 rfl dL_pewOf_3 rfl 1 rfl ?_
  refine sm_iload_n hG 5 rfl dL_pewOf_4 rfl 2 rfl ?_
  refine sl_hcall (hh := [(0, 10, 13, 21)]) (k0 := k) (x := .int x) (v' := m3 v' w o) hG hT.2.2.2 (.inl (0, 0, 0)) [.int x1, .int x2] 8 rfl (ok0 (lC_ok hP)) ceS_0 (ci := 6) rfl (lift_X hP (c_X6_pewOf (lC_ok hP) hfl hF)) gL_pewOf_X6_pewOf rfl (by decide) (by decide) (n := 2) rfl (Nat.le_of_ble_eq_true rfl) (rmX6_pewOf.cells, rmX6_pewOf.slots) ⟨Nat.zero_add _, Nat.zero_add _⟩ (by decide) rfl dL_pewOf_5 hX.2.2 hX.1.2.1.2.2 (fun h0 => ?_) (fun h0 => ?_)
  · subst h0
    refine sl_i2l hG 9 rfl dL_pewOf_8 ?_
    refine sl_out hG x rfl 10 rfl dL_pewOf_9 ?_
    refine sm_goto hG 17 dL_pewOf_10 (by decide) ?_
    refine sm_iconst (x := (0 : Int32)) hG 18 rfl dL_pewOf_17 rfl ?_
    exact sl_hret hG hT (by decide) dL_pewOf_18 rfl
  · rcases k_c1 hk hc h0 with e
    · subst e
      refine ⟨[], ⟨0, 10, 13, 21⟩, [], rfl, (by intro _ h; cases h), rfl, by decide, by decide +kernel, by decide +kernel, fun q => ?_⟩
      refine sm_astore hG 15 rfl dL_pewOf_13 (jlt hN rfl) [(4, .ref q), (0, .ref (P.2.2.1 (0, 0, 0))), (1, .int x1), (2, .int x2), (3, .ref P.2.2.2.2.1)] rfl ?_
      refine sm_iconst (x := (1 : Int32)) hG 16 rfl dL_pewOf_15 rfl ?_
      exact sl_hret hG hT (by decide) dL_pewOf_16 rfl
abbrev rmL_seatOf : Room := { frames := rmX6_seatOf.frames + 1, cells := rmX6_seatOf.cells, slots := rmX6_seatOf.slots, locals := 8 + (4 + 11) + rmX6_seatOf.locals }
set_option maxRecDepth 100000 in
set_option maxHeartbeats 4000000 in
theorem c_L_seatOf {P : pS} (hP : Ap P) {x1 x2 : Int32} {l : Launch} (hfl : l.stackTraces = false) {v v' : mC} {w : mM} {o : Nat → Int32} {x : Int32} {k : Nat} (hF : f_X6_seatOf x1 x2 v = some (x, k, v')) (hk : k ≤ 3) (hc : c1 k = 0 ↔ k = 0) : Cw l yL_seatOf wsL_seatOf rmL_seatOf (lS P) [.ref (P.2.2.1 (0, 0, 0)), .int x1, .int x2, .ref P.2.2.2.2.1] (m3 v w o) (some (.int (nI (c1 k)))) (m3 v' w (oK k (x) o)) := by
  refine cw_of (cc := cL_seatOf) (maxL := 5) (hh := [(0, 10, 13, 21)]) (r := ()) (ex := some ()) (fun (_ : Unit) => (some (Value.int (nI (c1 k))), m3 v' w (oK k (x) o))) (lS_ok hP) rfl (by decide) rfl (Nat.le_of_ble_eq_true rfl) (fun Γ hG hT hN hl => ?_)
  subst hl
  have hX : XS P _ _ := hG.2.2.2.2.2.2.2.2.2
  show Sm Γ (lS P) (0, 0) 0 [(0, .ref (P.2.2.1 (0, 0, 0))), (1, .int x1), (2, .int x2), (3, .ref P.2.2.2.2.1)] [] (m3 v w o) _
  refine sm_aload_n hG 1 rfl dL_seatOf_0 rfl 3 rfl ?_
  refine sm_iconst (x := (0 : Int32)) hG 2 rfl dL_seatOf_1 rfl ?_
  refine sm_aload_n hG 3 rfl dL_seatOf_2 rfl 0 rfl ?_
  refine sm_iload_n hG 4 rfl dL_seatOf_3 rfl 1 rfl ?_
  refine sm_iload_n hG 5 rfl dL_seatOf_4 rfl 2 rfl ?_
  refine sl_hcall (hh := [(0, 10, 13, 21)]) (k0 := k) (x := .int x) (v' := m3 v' w o) hG hT.2.2.2 (.inl (0, 0, 0)) [.int x1, .int x2] 8 rfl (ok0 (lC_ok hP)) ceS_0 (ci := 6) rfl (lift_X hP (c_X6_seatOf (lC_ok hP) hfl hF)) gL_seatOf_X6_seatOf rfl (by decide) (by decide) (n := 2) rfl (Nat.le_of_ble_eq_true rfl) (rmX6_seatOf.cells, rmX6_seatOf.slots) ⟨Nat.zero_add _, Nat.zero_add _⟩ (by decide) rfl dL_seatOf_5 hX.2.2 hX.1.2.1.2.2 (fun h0 => ?_) (fun h0 => ?_)
  · subst h0
    refine sl_i2l hG 9 rfl dL_seatOf_8 ?_
    refine sl_out hG x rfl 10 rfl dL_seatOf_9 ?_
    refine sm_goto hG 17 dL_seatOf_10 (by decide) ?_
    refine sm_iconst (x := (0 : Int32)) hG 18 rfl dL_seatOf_17 rfl ?_
    exact sl_hret hG hT (by decide) dL_seatOf_18 rfl
  · rcases k_c1 hk hc h0 with e
    · subst e
      refine ⟨[], ⟨0, 10, 13, 21⟩, [], rfl, (by intro _ h; cases h), rfl, by decide, by decide +kernel, by decide +kernel, fun q => ?_⟩
      refine sm_astore hG 15 rfl dL_seatOf_13 (jlt hN rfl) [(4, .ref q), (0, .ref (P.2.2.1 (0, 0, 0))), (1, .int x1), (2, .int x2), (3, .ref P.2.2.2.2.1)] rfl ?_
      refine sm_iconst (x := (1 : Int32)) hG 16 rfl dL_seatOf_15 rfl ?_
      exact sl_hret hG hT (by decide) dL_seatOf_16 rfl
abbrev rmL_favoursOf : Room := { frames := rmX6_favoursOf.frames + 1, cells := rmX6_favoursOf.cells, slots := rmX6_favoursOf.slots, locals := 8 + (2 + 11) + rmX6_favoursOf.locals }
set_option maxRecDepth 100000 in
set_option maxHeartbeats 4000000 in
theorem c_L_favoursOf {P : pS} (hP : Ap P) {x1 : Int32} {l : Launch} (hfl : l.stackTraces = false) {v v' : mC} {w : mM} {o : Nat → Int32} {x : Int32} {k : Nat} (hF : f_X6_favoursOf x1 v = some (x, k, v')) (hk : k ≤ 3) (hc : c1 k = 0 ↔ k = 0) : Cw l yL_favoursOf wsL_favoursOf rmL_favoursOf (lS P) [.ref (P.2.2.1 (0, 0, 0)), .int x1, .ref P.2.2.2.2.1] (m3 v w o) (some (.int (nI (c1 k)))) (m3 v' w (oK k (x) o)) := by
  refine cw_of (cc := cL_favoursOf) (maxL := 4) (hh := [(0, 9, 12, 21)]) (r := ()) (ex := some ()) (fun (_ : Unit) => (some (Value.int (nI (c1 k))), m3 v' w (oK k (x) o))) (lS_ok hP) rfl (by decide) rfl (Nat.le_of_ble_eq_true rfl) (fun Γ hG hT hN hl => ?_)
  subst hl
  have hX : XS P _ _ := hG.2.2.2.2.2.2.2.2.2
  show Sm Γ (lS P) (0, 0) 0 [(0, .ref (P.2.2.1 (0, 0, 0))), (1, .int x1), (2, .ref P.2.2.2.2.1)] [] (m3 v w o) _
  refine sm_aload_n hG 1 rfl dL_favoursOf_0 rfl 2 rfl ?_
  refine sm_iconst (x := (0 : Int32)) hG 2 rfl dL_favoursOf_1 rfl ?_
  refine sm_aload_n hG 3 rfl dL_favoursOf_2 rfl 0 rfl ?_
  refine sm_iload_n hG 4 rfl dL_favoursOf_3 rfl 1 rfl ?_
  refine sl_hcall (hh := [(0, 9, 12, 21)]) (k0 := k) (x := .int x) (v' := m3 v' w o) hG hT.2.2.2 (.inl (0, 0, 0)) [.int x1] 7 rfl (ok0 (lC_ok hP)) ceS_0 (ci := 6) rfl (lift_X hP (c_X6_favoursOf (lC_ok hP) hfl hF)) gL_favoursOf_X6_favoursOf rfl (by decide) (by decide) (n := 1) rfl (Nat.le_of_ble_eq_true rfl) (rmX6_favoursOf.cells, rmX6_favoursOf.slots) ⟨Nat.zero_add _, Nat.zero_add _⟩ (by decide) rfl dL_favoursOf_4 hX.2.2 hX.1.2.1.2.2 (fun h0 => ?_) (fun h0 => ?_)
  · subst h0
    refine sl_i2l hG 8 rfl dL_favoursOf_7 ?_
    refine sl_out hG x rfl 9 rfl dL_favoursOf_8 ?_
    refine sm_goto hG 15 dL_favoursOf_9 (by decide) ?_
    refine sm_iconst (x := (0 : Int32)) hG 16 rfl dL_favoursOf_15 rfl ?_
    exact sl_hret hG hT (by decide) dL_favoursOf_16 rfl
  · rcases k_c1 hk hc h0 with e
    · subst e
      refine ⟨[], ⟨0, 9, 12, 21⟩, [], rfl, (by intro _ h; cases h), rfl, by decide, by decide +kernel, by decide +kernel, fun q => ?_⟩
      refine sm_astore_n hG 13 rfl dL_favoursOf_12 rfl (jlt hN rfl) [(3, .ref q), (0, .ref (P.2.2.1 (0, 0, 0))), (1, .int x1), (2, .ref P.2.2.2.2.1)] rfl ?_
      refine sm_iconst (x := (1 : Int32)) hG 14 rfl dL_favoursOf_13 rfl ?_
      exact sl_hret hG hT (by decide) dL_favoursOf_14 rfl
