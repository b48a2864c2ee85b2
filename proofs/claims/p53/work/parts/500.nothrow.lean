/-! WALKS OF A CALL THAT DOES NOT THROW (no cells are made), longs, and calls of the law's own methods -/
/-- what a method answers where it does not throw -/
def nn {M : Type} (F : Option (Int32 × Nat × M)) : Option (Int32 × M) := F.bind fun q => if q.2.1 = 0 then some (q.1, q.2.2) else none
theorem nn_s {M : Type} {F : Option (Int32 × Nat × M)} {r : Int32 × M} (h : nn F = some r) : ∃ q, F = some q ∧ q.2.1 = 0 ∧ r = (q.1, q.2.2) := by
  obtain ⟨q, h1, h2⟩ := Option.bind_eq_some_iff.mp h
  by_cases h0 : q.2.1 = 0
  · rw [if_pos h0] at h2
    exact ⟨q, h1, h0, (Option.some.inj h2).symm⟩
  · rw [if_neg h0] at h2
    cases h2
theorem nn_0 {M : Type} {x : Int32} {w : M} : nn (some (x, 0, w)) = some (x, w) := rfl
/-- which of two longs is the greater -/
def lcm (x y : Int64) : Int32 := if x = y then 0 else if x < y then -1 else 1
theorem lcm_z {x y : Int64} : lcm x y = 0 ↔ x = y := by
  unfold lcm
  by_cases h : x = y
  · simp [h]
  · rw [if_neg h]
    by_cases h2 : x < y
    · rw [if_pos h2]; exact ⟨fun q => absurd q (by decide), fun q => absurd q h⟩
    · rw [if_neg h2]; exact ⟨fun q => absurd q (by decide), fun q => absurd q h⟩
section JN
variable {κ : Type} {Γ : jG (Int32 × Nat × (κ → Nat → Int32))} {Λ : jL κ} {cs : Nat × Nat} {pc : Nat} {ls : List (Nat × Value)} {st : List Value} {v : κ → Nat → Int32} {cc : ByteArray} {own : String} {Ts : List Cond} {rm : Room}
/-- how the method may return; of one that throws nothing is asked -/
def jT0 (Γ : jG (Int32 × Nat × (κ → Nat → Int32))) (Λ : jL κ) (rm : Room) (ret : Option FieldType) (fin : Int32 × Nat × (κ → Nat → Int32) → Option Value × Nat × (κ → Nat → Int32)) : Prop :=
  (∀ r, Γ.2.2 r = fun T => r.2.1 ≠ 0 ∨ MQ Γ.1.2.2.2.2.2.2.2.1 (fun _ st o t => o = .returned (fin r).1 ∧ Rp Λ (fin r).2.2 t.heap ∧ va_F Λ.2.2.2.2.2.1 st t) Γ.1.2.2.2.2.2.2.1 Γ.1.2.2.2.2.1 rm.cells rm.slots Λ.2.2.2.2.2.1 T) ∧ Γ.1.2.2.2.2.2.2.2.2.1.sig.returnType = ret ∧ Γ.1.2.2.2.2.2.2.2.2.1.locks = false
theorem sm_nthrow {fin : Int32 × Nat × (κ → Nat → Int32) → Option Value × Nat × (κ → Nat → Int32)} {ret : Option FieldType} (hT : jT0 Γ Λ rm ret fin) {q : Int32 × Nat × (κ → Nat → Int32)} (h : q.2.1 ≠ 0) : Sm Γ Λ cs pc ls st v (some q) := by
  intro r hr a H locs ha hR hS T hT2 X
  cases hr
  exact ⟨_, Steps.refl _, by rw [hT.1]; exact Or.inl h⟩
theorem ct0_of {l : Launch} {y : MethodName} {ws ws' : List Cond} {args : List Value} {maxL : Nat} {ret : Option FieldType} {r : Int32 × Nat × (κ → Nat → Int32)} {ex : Option (Int32 × Nat × (κ → Nat → Int32))} (fin : Int32 × Nat × (κ → Nat → Int32) → Option Value × Nat × (κ → Nat → Int32)) (hfin : ∀ r, (fin r).2 = r.2) (hΛ : jLok Λ) (hr : ex = some r) (h0 : r.2.1 = 0) (hy : plainName y.cls = true) (hw : ws = Cond.code y cc maxL ret :: ws') (hlen : (lg_sl args).length ≤ maxL)
    (body : ∀ Γ : jG (Int32 × Nat × (κ → Nat → Int32)), jOk Γ Λ cc y.cls ws rm → jT0 Γ Λ rm ret fin → Γ.2.1 = maxL → Γ.1.2.1 = l → Sm Γ Λ (0, 0) 0 (lv_args 0 args) [] v ex) : Ct l y ws rm Λ args v (fin r).1 r.2.2 := by
  refine Met.ofW (cc := cc) (maxL := maxL) (ret := ret) hy hw ?_
  intro p e s m args' below meth c s₁ B hml hv
  obtain ⟨rfl, hSt⟩ := hv
  have hl := lv_entry args hlen
  have k := body ((p, l, e, (headSpec ws rm).room, s, m, args.toArray, below, meth, c), maxL, fun r => fun T => r.2.1 ≠ 0 ∨ MQ below (fun _ st o t => o = .returned (fin r).1 ∧ Rp Λ (fin r).2.2 t.heap ∧ va_F Λ.2.2.2.2.2.1 st t) args.toArray s rm.cells rm.slots Λ.2.2.2.2.2.1 T)
    ⟨B.exec, B.bytes, hml, findClass_of_methodNamed B.named, atoms_spec (ws := ws) B.pre, hSt.2.2.1, hΛ, rfl, hSt.1, hSt.2.2.2⟩ ⟨fun _ => rfl, B.returns, B.notSynchronized⟩ rfl rfl r hr _ s.heap [] hl hSt.2.1 va_S.rf
  rw [lg_entry_eq]
  intro T hT X
  obtain ⟨t, a1, b1⟩ := k T hT X
  refine ⟨t, a1, ?_⟩
  rcases b1 with b1 | b1
  · exact absurd h0 b1
  · rw [hfin] at b1
    exact b1
theorem sm_niret (hG : jOk Γ Λ cc own Ts rm) {fin : Int32 × Nat × (κ → Nat → Int32) → Option Value × Nat × (κ → Nat → Int32)} (hT : jT0 Γ Λ rm (some .int) fin) {x : Int32} {r0 : Int32 × Nat × (κ → Nat → Int32)} (hc : cs.1 ≤ rm.cells ∧ cs.2 ≤ rm.slots) (d : decode cc pc = .ok (.ireturn, 1)) (hf : fin r0 = (some (.int x), 0, v)) : Sm Γ Λ cs pc ls [.int x] v (some r0) := by
  intro r hr a H locs ha hR hS T hT2 X
  cases hr
  obtain ⟨t, a1, b1⟩ := W.widen hc.1 hc.2 (W.iret (Qc := fun _ st o t => o = .returned (fin r0).1 ∧ Rp Λ (fin r0).2.2 t.heap ∧ va_F Λ.2.2.2.2.2.1 st t) (free := Λ.2.2.2.2.2.1) hG.1 hG.2.1 hT.2.1 (fun t ht hW => ⟨by rw [hf], by rw [hf]; rw [ht]; exact hR, hS.F ht⟩) hS.2.2 d hT.2.2) T hT2 X
  exact ⟨t, a1, by rw [hT.1]; exact Or.inr b1⟩
theorem sm_nbret (hG : jOk Γ Λ cc own Ts rm) {fin : Int32 × Nat × (κ → Nat → Int32) → Option Value × Nat × (κ → Nat → Int32)} (hT : jT0 Γ Λ rm (some .boolean) fin) {x : Int32} {r0 : Int32 × Nat × (κ → Nat → Int32)} (hc : cs.1 ≤ rm.cells ∧ cs.2 ≤ rm.slots) (d : decode cc pc = .ok (.ireturn, 1)) (hf : fin r0 = (some (.int x), 0, v)) : Sm Γ Λ cs pc ls [.int x] v (ck (zb x) (some r0)) := by
  intro r hr a H locs ha hR hS T hT2 X
  obtain ⟨hb, hr⟩ := ck_s hr
  cases hr
  obtain ⟨t, a1, b1⟩ := W.widen hc.1 hc.2 (W.zret (Qc := fun _ st o t => o = .returned (fin r0).1 ∧ Rp Λ (fin r0).2.2 t.heap ∧ va_F Λ.2.2.2.2.2.1 st t) (free := Λ.2.2.2.2.2.1) hG.1 hG.2.1 hT.2.1 (zb_n hb) (fun t ht hW => ⟨by rw [hf], by rw [hf]; rw [ht]; exact hR, hS.F ht⟩) hS.2.2 d hT.2.2) T hT2 X
  exact ⟨t, a1, by rw [hT.1]; exact Or.inr b1⟩
theorem sm_nvret (hG : jOk Γ Λ cc own Ts rm) {fin : Int32 × Nat × (κ → Nat → Int32) → Option Value × Nat × (κ → Nat → Int32)} (hT : jT0 Γ Λ rm none fin) {r0 : Int32 × Nat × (κ → Nat → Int32)} (hc : cs.1 ≤ rm.cells ∧ cs.2 ≤ rm.slots) (d : decode cc pc = .ok (.return_, 1)) (hf : fin r0 = (none, 0, v)) : Sm Γ Λ cs pc ls [] v (some r0) := by
  intro r hr a H locs ha hR hS T hT2 X
  cases hr
  obtain ⟨t, a1, b1⟩ := W.widen hc.1 hc.2 (W.vret (Qc := fun _ st o t => o = .returned (fin r0).1 ∧ Rp Λ (fin r0).2.2 t.heap ∧ va_F Λ.2.2.2.2.2.1 st t) (free := Λ.2.2.2.2.2.1) hG.1 hG.2.1 hT.2.1 (fun t ht hW => ⟨by rw [hf], by rw [hf]; rw [ht]; exact hR, hS.F ht⟩) hS.2.2 d hT.2.2) T hT2 X
  exact ⟨t, a1, by rw [hT.1]; exact Or.inr b1⟩
theorem sm_ncallV (hG : jOk Γ Λ cc own Ts rm) {fin finc : Int32 × Nat × (κ → Nat → Int32) → Option Value × Nat × (κ → Nat → Int32)} {ret0 : Option FieldType} (hTx : jT0 Γ Λ rm ret0 fin) (hfc : ∀ r, (finc r).2 = r.2) {y : MethodName} {ws ws' : List Cond} {bytes : ByteArray} {maxL n index ci : Nat} {ret : Option FieldType} {rmc : Room} {q : vw_C} {fs : List Value} {F : Option (Int32 × Nat × (κ → Nat → Int32))} {e2 : Int32 → (κ → Nat → Int32) → Option (Int32 × Nat × (κ → Nat → Int32))} (key : κ) (As : List Value) {stk : List Value} (pc2 : Nat) (hp : pc + 3 = pc2) (hok : Λ.2.2.1 key) (he : Λ.2.2.2.2.1 key (v key) = .inr (ci, fs)) (hc : vwCl[ci]? = some q)
    (hM : ∀ r, F = some r → r.2.1 = 0 → Ct Γ.1.2.1 y ws rmc Λ (.ref (Λ.2.2.2.1 key) :: As) v (finc r).1 r.2.2) (hT : GoodIn Ts (wsV own index q.1 y ws)) (hw : ws = Cond.code y bytes maxL ret :: ws') (hd : y.cls = q.1 ∧ y.cls ≠ "java/lang/invoke/MethodHandle" ∧ y.cls ≠ "java/lang/invoke/VarHandle" ∧ (parseMethodDescriptor y.desc).map (fun d => d.parameters.length) = some n) (hRm : rmc.frames + 1 ≤ rm.frames ∧ 8 + (maxL + 11) + rmc.locals ≤ rm.locals) (hn : As.length = n) (hst : (st.map fun v => v.category).sum ≤ 8) (hz : rmc.cells = 0 ∧ rmc.slots = 0) (hcs : cs.1 ≤ rm.cells ∧ cs.2 ≤ rm.slots) (hstk : As.reverse ++ .ref (Λ.2.2.2.1 key) :: st = stk) (d : decode cc pc = .ok (.invokevirtual index, 3))
    (k : ∀ (r : Int32) (w : κ → Nat → Int32), Sm Γ Λ cs pc2 ls ((finc (r, 0, w)).1.toList ++ st) w (e2 r w)) : Sm Γ Λ cs pc ls stk v (tb F e2) := by
  intro r hr
  obtain ⟨x, hx, h2⟩ := tb_s hr
  rcases h2 with ⟨h1, h2⟩ | ⟨h1, h2⟩
  · have e3 : x = (x.1, 0, x.2.2) := by rw [← h1]
    refine sm_callV hG (fun (_ : Unit) => ((finc x).1, x.2.2)) (F := some ()) (e2 := fun _ => e2 x.1 x.2.2) key As pc2 hp hok he hc (fun _ _ => hM x hx h1) hT hw hd hRm hn hst hz hcs hstk d (fun _ => ?_) r h2
    have kk := k x.1 x.2.2
    rw [← e3] at kk
    exact kk
  · intro a H locs ha hR hS T hT2 X
    subst h2
    exact ⟨_, Steps.refl _, by rw [hTx.1]; exact Or.inl h1⟩
theorem sm_ncallS (hG : jOk Γ Λ cc own Ts rm) {fin finc : Int32 × Nat × (κ → Nat → Int32) → Option Value × Nat × (κ → Nat → Int32)} {ret0 : Option FieldType} (hTx : jT0 Γ Λ rm ret0 fin) (hfc : ∀ r, (finc r).2 = r.2) {y : MethodName} {ws ws' : List Cond} {bytes : ByteArray} {maxL n index : Nat} {ret : Option FieldType} {rmc : Room} {F : Option (Int32 × Nat × (κ → Nat → Int32))} {e2 : Int32 → (κ → Nat → Int32) → Option (Int32 × Nat × (κ → Nat → Int32))} (As : List Value) {stk : List Value} (pc2 : Nat) (hp : pc + 3 = pc2)
    (hM : ∀ r, F = some r → r.2.1 = 0 → Ct Γ.1.2.1 y ws rmc Λ As v (finc r).1 r.2.2) (hT : GoodIn Ts (va_wsS own index y ws)) (hw : ws = Cond.code y bytes maxL ret :: ws') (hd : y.cls ≠ "java/lang/invoke/MethodHandle" ∧ y.cls ≠ "java/lang/invoke/VarHandle" ∧ (parseMethodDescriptor y.desc).map (fun d => d.parameters.length) = some n) (hRm : rmc.frames + 1 ≤ rm.frames ∧ 8 + (maxL + 11) + rmc.locals ≤ rm.locals) (hn : As.length = n) (hst : (st.map fun v => v.category).sum ≤ 8) (hz : rmc.cells = 0 ∧ rmc.slots = 0) (hcs : cs.1 ≤ rm.cells ∧ cs.2 ≤ rm.slots) (hstk : As.reverse ++ st = stk) (d : decode cc pc = .ok (.invokestatic index, 3))
    (k : ∀ (r : Int32) (w : κ → Nat → Int32), Sm Γ Λ cs pc2 ls ((finc (r, 0, w)).1.toList ++ st) w (e2 r w)) : Sm Γ Λ cs pc ls stk v (tb F e2) := by
  intro r hr
  obtain ⟨x, hx, h2⟩ := tb_s hr
  rcases h2 with ⟨h1, h2⟩ | ⟨h1, h2⟩
  · have e3 : x = (x.1, 0, x.2.2) := by rw [← h1]
    refine sm_callS hG (fun (_ : Unit) => ((finc x).1, x.2.2)) (F := some ()) (e2 := fun _ => e2 x.1 x.2.2) As pc2 hp (fun _ _ => hM x hx h1) hT hw hd hRm hn hst hz hcs hstk d (fun _ => ?_) r h2
    have kk := k x.1 x.2.2
    rw [← e3] at kk
    exact kk
  · intro a H locs ha hR hS T hT2 X
    subst h2
    exact ⟨_, Steps.refl _, by rw [hTx.1]; exact Or.inl h1⟩
end JN
abbrev rnX6_refuseIf : Room := { frames := 0, cells := 0, slots := 0, locals := 0 }
set_option maxRecDepth 100000 in
theorem c0_X6_refuseIf {Λ : jL kC} (hC : LC Λ) {x0 : Int32} {l : Launch} {v : mC} {r : Int32 × Nat × mC} (hr_ : f_X6_refuseIf x0 v = some r) (h0_ : r.2.1 = 0) : Ct l yX6_refuseIf wsX6_refuseIf rnX6_refuseIf Λ [.int x0] v none r.2.2 := by
  refine ct0_of (cc := cX6_refuseIf) (maxL := 1) (ret := none) (fun (q : Int32 × Nat × mC) => ((none : Option Value), q.2)) (fun _ => rfl) hC.1 hr_ h0_ (by decide) rfl (Nat.le_of_ble_eq_true rfl) (fun Γ hG hT hN hl => ?_)
  subst hl
  show Sm Γ Λ (0, 0) 0 [(0, .int x0)] [] v _
  unfold f_X6_refuseIf
  refine sm_iload_n hG 1 rfl dX6_refuseIf_0 rfl 0 rfl ?_
  refine sm_iconst (x := (1 : Int32)) hG 2 rfl dX6_refuseIf_1 rfl ?_
  refine sm_icmp_ne hG 16 5 rfl dX6_refuseIf_2 (by decide) ?_ ?_
  · refine sm_iload_n hG 17 rfl dX6_refuseIf_16 rfl 0 rfl ?_
    refine sm_iconst (x := (2 : Int32)) hG 18 rfl dX6_refuseIf_17 rfl ?_
    refine sm_icmp_ne hG 32 21 rfl dX6_refuseIf_18 (by decide) ?_ ?_
    · refine sm_iload_n hG 33 rfl dX6_refuseIf_32 rfl 0 rfl ?_
      refine sm_iconst (x := (3 : Int32)) hG 34 rfl dX6_refuseIf_33 rfl ?_
      refine sm_icmp_ne hG 48 37 rfl dX6_refuseIf_34 (by decide) ?_ ?_
      · exact sm_nvret hG hT (by decide) dX6_refuseIf_48 rfl
      · exact sm_nthrow hT (by show (3 : Nat) ≠ 0; decide)
    · exact sm_nthrow hT (by show (2 : Nat) ≠ 0; decide)
  · exact sm_nthrow hT (by show (1 : Nat) ≠ 0; decide)
