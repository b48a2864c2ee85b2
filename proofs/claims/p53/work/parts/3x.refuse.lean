/-! THE METHOD THAT THROWS -/
section RT
theorem faceW_ot : ∀ w ∈ faceW, w.onTables = true := by decide +kernel
theorem faceW_kf : ∀ w ∈ faceW, w.keepsFace = true := by decide +kernel
variable {κ ρ : Type} {Γ : jG ρ} {Λ : jL κ} {cs : Nat × Nat} {pc : Nat} {ls : List (Nat × Value)} {st : List Value} {v : κ → Nat → Int32} {cc : ByteArray} {own : String} {Ts : List Cond} {rm : Room}
theorem sm_throw (hG : jOk Γ Λ cc own Ts rm) {ret : Option FieldType} {fin : ρ → Option Value × Nat × (κ → Nat → Int32)} (hT : jTx Γ Λ rm ret fin) (hfl : Γ.1.2.1.stackTraces = false) {r0 : ρ} {k0 : Nat} (hf : (fin r0).2 = (k0, v)) (hk0 : k0 ≠ 0) {cls text : String} {names : List String} {ik is ic sa : Nat} (hcl : exN k0 = cls) (hcls : Bundle.fit cls = true) (hnames : ∀ n ∈ names, Bundle.fit n = true)
    (hk : Cond.classLink own ik cls ∈ Ts) (hini : Cond.initialized cls ∈ Ts) (hstr : vk_R own is text sa Γ.1.2.2.2.2.1) (hat : ∀ w ∈ vx_atS own ic cls names, w ∈ Ts ∨ w ∈ faceW) (hfc : ∀ w ∈ faceW, va_Nw w Γ.1.2.2.2.2.1) (hgood : ∀ w ∈ Cond.classLink own ik cls :: Cond.initialized cls :: vx_atS own ic cls names, vx_ot w = true)
    (hU : vx_Zq Bundle.tN "UNASSIGNED_STACK" Bundle.steD Λ.2.2.2.2.2.1 Γ.1.2.2.2.2.1 Γ.1.2.2.2.2.1.heap) (hN : vx_Zq Bundle.tN "SUPPRESSED_SENTINEL" Bundle.listD Λ.2.2.2.2.2.1 Γ.1.2.2.2.2.1 Γ.1.2.2.2.2.1.heap)
    (d0 : decode cc pc = .ok (.new ik, 3)) (d3 : decode cc (pc + 3) = .ok (.dup, 1)) (d4 : decode cc (pc + 4) = .ok (.ldc_w is, 3)) (d7 : decode cc (pc + 7) = .ok (.invokespecial ic, 3)) (d10 : decode cc (pc + 10) = .ok (.athrow, 1))
    (hRframes : names.length + 3 < rm.frames) (hRlocals : (st.map fun v => v.category).sum + (13 * (names.length + 1) + 43) ≤ rm.locals) (hRcells : cs.1 + 1 ≤ rm.cells) (hRslots : cs.2 + 6 ≤ rm.slots) : Sm Γ Λ cs pc ls st v (some r0) := by
  intro r hr a H locs ha hR hS
  cases hr
  have h8 : Γ.1.2.2.2.1 = rm := hG.2.2.2.2.2.2.2.1
  rw [hT.1]
  refine vx_throwSW (A := Λ.2.2.2.2.2.1) hG.1 hG.2.1 hfl hG.2.2.2.1 hcls hnames (hG.2.2.2.2.1 _ hk) (hG.2.2.2.2.1 _ hini) hstr (fun w h => (hat w h).elim (hG.2.2.2.2.1 _) (fun q => va_Nw.use (faceW_ot w q) (hfc w q))) hgood hU hN hS (ha.1.trans hG.2.2.1.symm) d0 d3 d4 d7 d10 (fun x hx => (hT.2.2.2 x hx).elim) (by rw [h8]; exact hRframes) (by rw [h8]; exact hRlocals) (by rw [h8]; exact hRcells) (by rw [h8]; exact hRslots) hT.2.2.1 (fun t hvm hsz hq => ?_) hS.2.2 hRcells hRslots
  rw [hf]
  refine ⟨hk0, hcl.symm, fun k hok => ?_, Nat.le_trans hS.1 hsz, fun q h1 h2 => ?_⟩
  · have hat := hR k hok
    exact hat.kept (hq _ hat.lt)
  · rw [hq q (Nat.lt_of_lt_of_le h1 hS.1)]
    exact hS.2.1 q h1 h2
end RT
theorem rf_at {ic : Nat} {cls : String} (h1 : ∀ w ∈ (vx_atS RX6 ic cls ["java/lang/RuntimeException", "java/lang/Exception"]).filter goodWord, w ∈ wsX6_refuseIf) (h2 : ∀ w ∈ (vx_atS RX6 ic cls ["java/lang/RuntimeException", "java/lang/Exception"]).filter (fun w => !goodWord w), w ∈ faceW) : ∀ w ∈ vx_atS RX6 ic cls ["java/lang/RuntimeException", "java/lang/Exception"], w ∈ wsX6_refuseIf ∨ w ∈ faceW := fun w h => by
  by_cases q : goodWord w = true
  · exact Or.inl (h1 w (List.mem_filter.mpr ⟨h, q⟩))
  · exact Or.inr (h2 w (List.mem_filter.mpr ⟨h, by simp [q]⟩))
theorem rf_g1 : ∀ w ∈ (vx_atS RX6 285 "java/lang/IndexOutOfBoundsException" ["java/lang/RuntimeException", "java/lang/Exception"]).filter goodWord, w ∈ wsX6_refuseIf := fun w h => by
  unfold wsX6_refuseIf
  simp only [List.mem_cons, List.mem_append]
  exact Or.inr (Or.inl (Or.inl (Or.inr h)))
theorem rf_f1 : ∀ w ∈ (vx_atS RX6 285 "java/lang/IndexOutOfBoundsException" ["java/lang/RuntimeException", "java/lang/Exception"]).filter (fun w => !goodWord w), w ∈ faceW := fun w h => by
  unfold faceW
  rw [List.filter_append, List.filter_append]
  simp only [List.mem_append]
  exact Or.inl (Or.inl h)
theorem rf_g2 : ∀ w ∈ (vx_atS RX6 292 "java/lang/IllegalArgumentException" ["java/lang/RuntimeException", "java/lang/Exception"]).filter goodWord, w ∈ wsX6_refuseIf := fun w h => by
  unfold wsX6_refuseIf
  simp only [List.mem_cons, List.mem_append]
  exact Or.inr (Or.inl (Or.inr h))
theorem rf_f2 : ∀ w ∈ (vx_atS RX6 292 "java/lang/IllegalArgumentException" ["java/lang/RuntimeException", "java/lang/Exception"]).filter (fun w => !goodWord w), w ∈ faceW := fun w h => by
  unfold faceW
  rw [List.filter_append, List.filter_append]
  simp only [List.mem_append]
  exact Or.inl (Or.inr h)
theorem rf_g3 : ∀ w ∈ (vx_atS RX6 297 "java/lang/IllegalStateException" ["java/lang/RuntimeException", "java/lang/Exception"]).filter goodWord, w ∈ wsX6_refuseIf := fun w h => by
  unfold wsX6_refuseIf
  simp only [List.mem_cons, List.mem_append]
  exact Or.inr (Or.inr h)
theorem rf_f3 : ∀ w ∈ (vx_atS RX6 297 "java/lang/IllegalStateException" ["java/lang/RuntimeException", "java/lang/Exception"]).filter (fun w => !goodWord w), w ∈ faceW := fun w h => by
  unfold faceW
  rw [List.filter_append, List.filter_append]
  simp only [List.mem_append]
  exact Or.inr h
abbrev rmX6_refuseIf : Room := { frames := 9, cells := 1, slots := 6, locals := 200 }
set_option maxRecDepth 100000 in
set_option maxHeartbeats 4000000 in
theorem c_X6_refuseIf {Λ : jL kC} (hC : LC Λ) {x0 : Int32} {l : Launch} (hfl : l.stackTraces = false) {v : mC} {r : Int32 × Nat × mC} (hr_ : f_X6_refuseIf x0 v = some r) : Cx l yX6_refuseIf wsX6_refuseIf rmX6_refuseIf Λ [.int x0] v none r.2.1 r.2.2 := by
  refine cx_of (cc := cX6_refuseIf) (maxL := 1) (ret := none) (fun (q : Int32 × Nat × mC) => ((none : Option Value), q.2)) hC.1 hr_ (by decide) rfl (Nat.le_of_ble_eq_true rfl) (fun Γ hG hT hN hl => ?_)
  subst hl
  obtain ⟨⟨hU, hSu, hFc⟩, ⟨⟨a1, hR1⟩, ⟨a2, hR2⟩, ⟨a3, hR3⟩⟩, -⟩ := (hC.2.2.2 _ _ hG.2.2.2.2.2.2.2.2.2).2
  show Sm Γ Λ (0, 0) 0 [(0, .int x0)] [] v _
  unfold f_X6_refuseIf
  refine sm_iload_n hG 1 rfl dX6_refuseIf_0 rfl 0 rfl ?_
  refine sm_iconst (x := (1 : Int32)) hG 2 rfl dX6_refuseIf_1 rfl ?_
  refine sm_icmp_ne hG 16 5 rfl dX6_refuseIf_2 (by decide) ?_ ?_
  rotate_left
  · exact sm_throw hG hT hfl (names := ["java/lang/RuntimeException", "java/lang/Exception"]) rfl (by decide) rfl (by decide +kernel) (by decide +kernel) (by decide +kernel) (by decide +kernel) hR1 (rf_at rf_g1 rf_f1) hFc (by decide +kernel) hU hSu dX6_refuseIf_5 dX6_refuseIf_8 dX6_refuseIf_9 dX6_refuseIf_12 dX6_refuseIf_15 (by decide) (by decide) (by decide) (by decide)
  refine sm_iload_n hG 17 rfl dX6_refuseIf_16 rfl 0 rfl ?_
  refine sm_iconst (x := (2 : Int32)) hG 18 rfl dX6_refuseIf_17 rfl ?_
  refine sm_icmp_ne hG 32 21 rfl dX6_refuseIf_18 (by decide) ?_ ?_
  rotate_left
  · exact sm_throw hG hT hfl (names := ["java/lang/RuntimeException", "java/lang/Exception"]) rfl (by decide) rfl (by decide +kernel) (by decide +kernel) (by decide +kernel) (by decide +kernel) hR2 (rf_at rf_g2 rf_f2) hFc (by decide +kernel) hU hSu dX6_refuseIf_21 dX6_refuseIf_24 dX6_refuseIf_25 dX6_refuseIf_28 dX6_refuseIf_31 (by decide) (by decide) (by decide) (by decide)
  refine sm_iload_n hG 33 rfl dX6_refuseIf_32 rfl 0 rfl ?_
  refine sm_iconst (x := (3 : Int32)) hG 34 rfl dX6_refuseIf_33 rfl ?_
  refine sm_icmp_ne hG 48 37 rfl dX6_refuseIf_34 (by decide) ?_ ?_
  rotate_left
  · exact sm_throw hG hT hfl (names := ["java/lang/RuntimeException", "java/lang/Exception"]) rfl (by decide) rfl (by decide +kernel) (by decide +kernel) (by decide +kernel) (by decide +kernel) hR3 (rf_at rf_g3 rf_f3) hFc (by decide +kernel) hU hSu dX6_refuseIf_37 dX6_refuseIf_40 dX6_refuseIf_41 dX6_refuseIf_44 dX6_refuseIf_47 (by decide) (by decide) (by decide) (by decide)
  exact sm_tvret hG hT (by decide) dX6_refuseIf_48 rfl
