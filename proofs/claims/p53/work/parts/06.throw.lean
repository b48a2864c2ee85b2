/-! METHODS THAT MAY THROW: k = 0 they return, k = 1, 2, 3 they throw; the world is told in both cases -/
def exN : Nat → String
  | 1 => "java/lang/IndexOutOfBoundsException"
  | 2 => "java/lang/IllegalArgumentException"
  | _ => "java/lang/IllegalStateException"
section JX
variable {κ ρ : Type} {Γ : jG ρ} {Λ : jL κ} {cs : Nat × Nat} {pc : Nat} {ls : List (Nat × Value)} {st : List Value} {v : κ → Nat → Int32} {ex : Option ρ} {cc : ByteArray} {own : String} {Ts : List Cond} {rm : Room}
def CxQ (Λ : jL κ) (ov : Option Value) (k : Nat) (v' : κ → Nat → Int32) : Array Value → State → Outcome → State → Prop := fun _ st o t => k = 0 ∧ o = .returned ov ∧ Rp Λ v' t.heap ∧ va_F Λ.2.2.2.2.2.1 st t
def CxX (Λ : jL κ) (k : Nat) (v' : κ → Nat → Int32) : String → State → State → Prop := fun E st t => k ≠ 0 ∧ E = exN k ∧ Rp Λ v' t.heap ∧ va_F Λ.2.2.2.2.2.1 st t
def Cx (l : Launch) (y : MethodName) (ws : List Cond) (rm : Room) (Λ : jL κ) (args : List Value) (v : κ → Nat → Int32) (ov : Option Value) (k : Nat) (v' : κ → Nat → Int32) : Prop :=
  vx_Met l y ws rm (va_Pc args (St Λ v)) (CxQ Λ ov k v') (CxX Λ k v') rm.cells rm.slots Λ.2.2.2.2.2.1
def jTx (Γ : jG ρ) (Λ : jL κ) (rm : Room) (ret : Option FieldType) (fin : ρ → Option Value × Nat × (κ → Nat → Int32)) : Prop :=
  (∀ r, Γ.2.2 r = vx_MQ Γ.1.2.2.2.2.2.2.2.1 (CxQ Λ (fin r).1 (fin r).2.1 (fin r).2.2) (CxX Λ (fin r).2.1 (fin r).2.2) Γ.1.2.2.2.2.2.2.1 Γ.1.2.2.2.2.1 rm.cells rm.slots Λ.2.2.2.2.2.1) ∧ Γ.1.2.2.2.2.2.2.2.2.1.sig.returnType = ret ∧ Γ.1.2.2.2.2.2.2.2.2.1.locks = false ∧ ∀ x ∈ Γ.1.2.2.2.2.2.2.2.2.2.exceptionTable.toList, False
theorem cx_of {l : Launch} {y : MethodName} {ws ws' : List Cond} {args : List Value} {maxL : Nat} {ret : Option FieldType} {r : ρ} (fin : ρ → Option Value × Nat × (κ → Nat → Int32)) (hΛ : jLok Λ) (hr : ex = some r) (hy : plainName y.cls = true) (hw : ws = Cond.code y cc maxL ret :: ws') (hlen : (lg_sl args).length ≤ maxL)
    (body : ∀ Γ : jG ρ, jOk Γ Λ cc y.cls ws rm → jTx Γ Λ rm ret fin → Γ.2.1 = maxL → Γ.1.2.1 = l → Sm Γ Λ (0, 0) 0 (lv_args 0 args) [] v ex) : Cx l y ws rm Λ args v (fin r).1 (fin r).2.1 (fin r).2.2 := by
  refine vx_ofW (cc := cc) (maxL := maxL) (ret := ret) hy hw ?_
  intro p e s m args' below meth c s₁ B hml ht hv
  obtain ⟨rfl, hSt⟩ := hv
  have hl := lv_entry args hlen
  have k := body ((p, l, e, (headSpec ws rm).room, s, m, args.toArray, below, meth, c), maxL, fun r => vx_MQ below (CxQ Λ (fin r).1 (fin r).2.1 (fin r).2.2) (CxX Λ (fin r).2.1 (fin r).2.2) args.toArray s rm.cells rm.slots Λ.2.2.2.2.2.1)
    ⟨B.exec, B.bytes, hml, findClass_of_methodNamed B.named, atoms_spec (ws := ws) B.pre, hSt.2.2.1, hΛ, rfl, hSt.1, hSt.2.2.2⟩ ⟨fun _ => rfl, B.returns, B.notSynchronized, ht⟩ rfl rfl r hr _ s.heap [] hl hSt.2.1 va_S.rf
  rw [lg_entry_eq]
  exact k
theorem sm_tiret (hG : jOk Γ Λ cc own Ts rm) {fin : ρ → Option Value × Nat × (κ → Nat → Int32)} (hT : jTx Γ Λ rm (some .int) fin) {x : Int32} {r0 : ρ} (hc : cs.1 ≤ rm.cells ∧ cs.2 ≤ rm.slots) (d : decode cc pc = .ok (.ireturn, 1)) (hf : fin r0 = (some (.int x), 0, v)) : Sm Γ Λ cs pc ls [.int x] v (some r0) := by
  intro r hr a H locs ha hR hS
  cases hr
  rw [hT.1]
  refine vx_ret (W.widen hc.1 hc.2 (W.iret hG.1 hG.2.1 hT.2.1 (fun t ht hW => ⟨by rw [hf], by rw [hf], ?_, hS.F ht⟩) hS.2.2 d hT.2.2.1))
  rw [hf]
  rw [ht]; exact hR
theorem sm_tbret (hG : jOk Γ Λ cc own Ts rm) {fin : ρ → Option Value × Nat × (κ → Nat → Int32)} (hT : jTx Γ Λ rm (some .boolean) fin) {x : Int32} {r0 : ρ} (hc : cs.1 ≤ rm.cells ∧ cs.2 ≤ rm.slots) (d : decode cc pc = .ok (.ireturn, 1)) (hf : fin r0 = (some (.int x), 0, v)) : Sm Γ Λ cs pc ls [.int x] v (ck (zb x) (some r0)) := by
  intro r hr a H locs ha hR hS
  obtain ⟨hb, hr⟩ := ck_s hr
  cases hr
  rw [hT.1]
  refine vx_ret (W.widen hc.1 hc.2 (W.zret hG.1 hG.2.1 hT.2.1 (zb_n hb) (fun t ht hW => ⟨by rw [hf], by rw [hf], ?_, hS.F ht⟩) hS.2.2 d hT.2.2.1))
  rw [hf]
  rw [ht]; exact hR
theorem sm_tvret (hG : jOk Γ Λ cc own Ts rm) {fin : ρ → Option Value × Nat × (κ → Nat → Int32)} (hT : jTx Γ Λ rm none fin) {r0 : ρ} (hc : cs.1 ≤ rm.cells ∧ cs.2 ≤ rm.slots) (d : decode cc pc = .ok (.return_, 1)) (hf : fin r0 = (none, 0, v)) : Sm Γ Λ cs pc ls [] v (some r0) := by
  intro r hr a H locs ha hR hS
  cases hr
  rw [hT.1]
  refine vx_ret (W.widen hc.1 hc.2 (W.vret hG.1 hG.2.1 hT.2.1 (fun t ht hW => ⟨by rw [hf], by rw [hf], ?_, hS.F ht⟩) hS.2.2 d hT.2.2.1))
  rw [hf]
  rw [ht]; exact hR
/-- go on if it returned, else the same throw -/
def tb {M : Type} (F : Option (Int32 × Nat × M)) (e2 : Int32 → M → Option (Int32 × Nat × M)) : Option (Int32 × Nat × M) := F.bind fun q => if q.2.1 = 0 then e2 q.1 q.2.2 else some (0, q.2.1, q.2.2)
/-- behind a call that returned or threw -/
theorem sm_xafter (hG : jOk Γ Λ cc own Ts rm) {fin : ρ → Option Value × Nat × (κ → Nat → Int32)} {ret : Option FieldType} (hT : jTx Γ Λ rm ret fin) {ov : Option Value} {k0 : Nat} {v2 : κ → Nat → Int32} {H : Heap} {locs : List Loc} {a : Array Slot} {st0 : List Value} (hS : va_S Λ.2.2.2.2.2.1 Γ.1.2.2.2.2.1.heap H locs) (ha : lv_has a Γ.2.1 ls) {mc ms : Nat} {r r0 : ρ}
    (hrun : vx_Run Γ.1.1 Γ.1.2.1 Γ.1.2.2.1 Γ.1.2.2.2.1 Γ.1.2.2.2.2.1 Γ.1.2.2.2.2.2.1 Γ.1.2.2.2.2.2.2.1 Γ.1.2.2.2.2.2.2.2.1 Γ.1.2.2.2.2.2.2.2.2.1 Γ.1.2.2.2.2.2.2.2.2.2 H locs cs.1 cs.2 mc ms (F0 Γ.1.2.2.2.2.2.1 pc a st0) st (fun st o t => k0 = 0 ∧ o = .returned ov ∧ Rp Λ v2 t.heap ∧ va_F Λ.2.2.2.2.2.1 st t) (CxX Λ k0 v2) Λ.2.2.2.2.2.1)
    (hcs : cs.1 + mc ≤ rm.cells ∧ cs.2 + ms ≤ rm.slots)
    (k : k0 = 0 → ∀ a2 H2 locs2, lv_has a2 Γ.2.1 ls → Rp Λ v2 H2 → va_S Λ.2.2.2.2.2.1 Γ.1.2.2.2.2.1.heap H2 locs2 → W Γ.1.1 Γ.1.2.1 Γ.1.2.2.1 Γ.1.2.2.2.1 Γ.1.2.2.2.2.1 Γ.1.2.2.2.2.2.1 Γ.1.2.2.2.2.2.2.1 Γ.1.2.2.2.2.2.2.2.1 Γ.1.2.2.2.2.2.2.2.2.1 Γ.1.2.2.2.2.2.2.2.2.2 H2 locs2 (cs.1 + mc) (cs.2 + ms) (Γ.2.2 r) (F0 Γ.1.2.2.2.2.2.1 (pc + 3) a2 (ov.toList ++ st)))
    (kx : k0 ≠ 0 → (fin r).2.1 = k0 ∧ (fin r).2.2 = v2) :
    W Γ.1.1 Γ.1.2.1 Γ.1.2.2.1 Γ.1.2.2.2.1 Γ.1.2.2.2.2.1 Γ.1.2.2.2.2.2.1 Γ.1.2.2.2.2.2.2.1 Γ.1.2.2.2.2.2.2.2.1 Γ.1.2.2.2.2.2.2.2.2.1 Γ.1.2.2.2.2.2.2.2.2.2 H locs cs.1 cs.2 (Γ.2.2 r) (F0 Γ.1.2.2.2.2.2.1 pc a st0) := by
  intro T hT2 X
  rcases hrun T hT2 X with ⟨v, st₀, t, T', L, h0, X', hL, e1, e2, ⟨hk0, hv, hst, hF⟩, stp⟩ | ⟨q, st₀, t, T', L, E, ce, h0, X', hL, e1, e2, ⟨hk0, hE, hst, hF⟩, hce, hcv, hcl, stp⟩
  · cases hv
    obtain ⟨k1, k2, k3⟩ := vx_keep h0 e1 hS (fun _ _ h => h) (fun _ h => h) hL hF
    obtain ⟨t2, a1, b1⟩ := k hk0 a T'.heap (locs ++ L) ha (by rw [e1]; exact hst) k3 T' rfl X'
    exact ⟨t2, stp t2 a1, b1⟩
  · obtain ⟨k1, k2, k3⟩ := vx_keep h0 e1 hS (fun _ _ h => h) (fun _ h => h) hL hF
    obtain ⟨f1, f2⟩ := kx hk0
    have hR2 : Rp Λ v2 T'.heap := by rw [e1]; exact hst
    have out : vx_W Γ.1.1 Γ.1.2.1 Γ.1.2.2.1 Γ.1.2.2.2.1 Γ.1.2.2.2.2.1 Γ.1.2.2.2.2.2.1 Γ.1.2.2.2.2.2.2.1 Γ.1.2.2.2.2.2.2.2.1 Γ.1.2.2.2.2.2.2.2.2.1 Γ.1.2.2.2.2.2.2.2.2.2 T'.heap (locs ++ L) (cs.1 + mc) (cs.2 + ms) (Γ.2.2 r) (F0 Γ.1.2.2.2.2.2.1 pc a st) q := by
      rw [hT.1]
      exact vx_out (E := E) (ce := ce) (fun x hx => (hT.2.2.2 x hx).elim) hT.2.2.1 (by rw [e1]; exact hce) hcv hcl (fun t9 h9 hA9 => ⟨by rw [f1]; exact hk0, by rw [f1]; exact hE, by rw [f2, h9]; exact hR2, k3.F h9⟩) k3.2.2 hcs.1 hcs.2
    obtain ⟨t2, a1, b1⟩ := out T' rfl X'
    exact ⟨t2, stp.trans a1, b1⟩
end JX
section JY
variable {κ : Type} {Γ : jG (Int32 × Nat × (κ → Nat → Int32))} {Λ : jL κ} {cs : Nat × Nat} {pc : Nat} {ls : List (Nat × Value)} {st : List Value} {v : κ → Nat → Int32} {cc : ByteArray} {own : String} {Ts : List Cond} {rm : Room}
theorem tb_s {M : Type} {F : Option (Int32 × Nat × M)} {e2 : Int32 → M → Option (Int32 × Nat × M)} {r : Int32 × Nat × M} (h : tb F e2 = some r) : ∃ q, F = some q ∧ ((q.2.1 = 0 ∧ e2 q.1 q.2.2 = some r) ∨ (q.2.1 ≠ 0 ∧ r = (0, q.2.1, q.2.2))) := by
  obtain ⟨q, h1, h2⟩ := Option.bind_eq_some_iff.mp h
  refine ⟨q, h1, ?_⟩
  by_cases h0 : q.2.1 = 0
  · exact Or.inl ⟨h0, by rw [if_pos h0] at h2; exact h2⟩
  · exact Or.inr ⟨h0, by rw [if_neg h0] at h2; exact (Option.some.inj h2).symm⟩
theorem sm_xcallV (hG : jOk Γ Λ cc own Ts rm) {fin finc : Int32 × Nat × (κ → Nat → Int32) → Option Value × Nat × (κ → Nat → Int32)} {ret0 : Option FieldType} (hTx : jTx Γ Λ rm ret0 fin) (hfin : ∀ r, (fin r).2 = r.2) (hfc : ∀ r, (finc r).2 = r.2) {y : MethodName} {ws ws' : List Cond} {bytes : ByteArray} {maxL n index ci : Nat} {ret : Option FieldType} {rmc : Room} {q : vw_C} {fs : List Value} {F : Option (Int32 × Nat × (κ → Nat → Int32))} {e2 : Int32 → (κ → Nat → Int32) → Option (Int32 × Nat × (κ → Nat → Int32))} (key : κ) (As : List Value) {stk : List Value} (pc2 : Nat) (hp : pc + 3 = pc2) (hok : Λ.2.2.1 key) (he : Λ.2.2.2.2.1 key (v key) = .inr (ci, fs)) (hc : vwCl[ci]? = some q)
    (hM : ∀ r, F = some r → Cx Γ.1.2.1 y ws rmc Λ (.ref (Λ.2.2.2.1 key) :: As) v (finc r).1 (finc r).2.1 (finc r).2.2) (hT : GoodIn Ts (wsV own index q.1 y ws)) (hw : ws = Cond.code y bytes maxL ret :: ws') (hd : y.cls = q.1 ∧ y.cls ≠ "java/lang/invoke/MethodHandle" ∧ y.cls ≠ "java/lang/invoke/VarHandle" ∧ (parseMethodDescriptor y.desc).map (fun d => d.parameters.length) = some n) (hRm : rmc.frames + 1 ≤ rm.frames ∧ 8 + (maxL + 11) + rmc.locals ≤ rm.locals) (hn : As.length = n) (hst : (st.map fun v => v.category).sum ≤ 8) (cs2 : Nat × Nat) (hz : cs.1 + rmc.cells = cs2.1 ∧ cs.2 + rmc.slots = cs2.2) (hcs : cs2.1 ≤ rm.cells ∧ cs2.2 ≤ rm.slots) (hstk : As.reverse ++ .ref (Λ.2.2.2.1 key) :: st = stk) (d : decode cc pc = .ok (.invokevirtual index, 3))
    (k : ∀ (r : Int32) (w : κ → Nat → Int32), Sm Γ Λ cs2 pc2 ls ((finc (r, 0, w)).1.toList ++ st) w (e2 r w)) : Sm Γ Λ cs pc ls stk v (tb F e2) := by
  subst hp hstk
  intro r hr a H locs ha hR hS
  obtain ⟨x, hx, hr2⟩ := tb_s hr
  have hR8 : Γ.1.2.2.2.1 = rm := hG.2.2.2.2.2.2.2.1
  have hM1 := hM x hx
  unfold Cx at hM1
  have hrun := vx_runV (e := Γ.1.2.2.1) (below := Γ.1.2.2.2.2.2.2.2.1) (meth := Γ.1.2.2.2.2.2.2.2.2.1) (R := Γ.1.2.2.2.1) (cells := cs.1) (slots := cs.2) (locs := locs) (H := H) (g := F0 Γ.1.2.2.2.2.2.1 pc a (As.reverse ++ .ref (Λ.2.2.2.1 key) :: st)) (As := As) (rest := st) ⟨hG.1, hG.2.1, hG.2.2.1, hG.2.2.2.1, hG.2.2.2.2.1⟩ hM1 (cwV n hG.2.2.2.2.1 hT hw rfl rfl hd (by rw [hR8]; exact hRm)) ⟨jfb hG.2.2.2.2.2.2.1, va_recv hG.2.2.2.2.2.1 (rp_one hR hok he) (q0 := 0) hc rfl, fun U hU hW => ⟨rfl, jSt_at hG hR hS hW hU⟩⟩ rfl hn ha.1 rfl (lv_room hst) d (by rw [hz.1, hz.2, hR8]; exact hcs)
  refine sm_xafter (r0 := r) hG hTx hS ha hrun (by rw [hz.1, hz.2]; exact hcs) (fun h0 a2 H2 locs2 g1 g2 g3 => ?_) (fun h0 => ?_)
  · rcases hr2 with ⟨h1, h2⟩ | ⟨h1, h2⟩
    · rw [hz.1, hz.2]
      have e3 : x = (x.1, 0, x.2.2) := by rw [← h1]
      have kk := k x.1 x.2.2 r h2 a2 H2 locs2 g1 (by rw [hfc x] at g2; exact g2) g3
      rw [← e3] at kk
      exact kk
    · rw [hfc x] at h0
      exact absurd h0 h1
  · rw [hfc x] at h0 ⊢
    rcases hr2 with ⟨h1, h2⟩ | ⟨h1, h2⟩
    · exact absurd h1 h0
    · subst h2
      rw [hfin]
      exact ⟨rfl, rfl⟩
theorem sm_xcallS (hG : jOk Γ Λ cc own Ts rm) {fin finc : Int32 × Nat × (κ → Nat → Int32) → Option Value × Nat × (κ → Nat → Int32)} {ret0 : Option FieldType} (hTx : jTx Γ Λ rm ret0 fin) (hfin : ∀ r, (fin r).2 = r.2) (hfc : ∀ r, (finc r).2 = r.2) {y : MethodName} {ws ws' : List Cond} {bytes : ByteArray} {maxL n index : Nat} {ret : Option FieldType} {rmc : Room} {F : Option (Int32 × Nat × (κ → Nat → Int32))} {e2 : Int32 → (κ → Nat → Int32) → Option (Int32 × Nat × (κ → Nat → Int32))} (As : List Value) {stk : List Value} (pc2 : Nat) (hp : pc + 3 = pc2)
    (hM : ∀ r, F = some r → Cx Γ.1.2.1 y ws rmc Λ As v (finc r).1 (finc r).2.1 (finc r).2.2) (hT : GoodIn Ts (va_wsS own index y ws)) (hw : ws = Cond.code y bytes maxL ret :: ws') (hd : y.cls ≠ "java/lang/invoke/MethodHandle" ∧ y.cls ≠ "java/lang/invoke/VarHandle" ∧ (parseMethodDescriptor y.desc).map (fun d => d.parameters.length) = some n) (hRm : rmc.frames + 1 ≤ rm.frames ∧ 8 + (maxL + 11) + rmc.locals ≤ rm.locals) (hn : As.length = n) (hst : (st.map fun v => v.category).sum ≤ 8) (cs2 : Nat × Nat) (hz : cs.1 + rmc.cells = cs2.1 ∧ cs.2 + rmc.slots = cs2.2) (hcs : cs2.1 ≤ rm.cells ∧ cs2.2 ≤ rm.slots) (hstk : As.reverse ++ st = stk) (d : decode cc pc = .ok (.invokestatic index, 3))
    (k : ∀ (r : Int32) (w : κ → Nat → Int32), Sm Γ Λ cs2 pc2 ls ((finc (r, 0, w)).1.toList ++ st) w (e2 r w)) : Sm Γ Λ cs pc ls stk v (tb F e2) := by
  subst hp hstk
  intro r hr a H locs ha hR hS
  obtain ⟨x, hx, hr2⟩ := tb_s hr
  have hR8 : Γ.1.2.2.2.1 = rm := hG.2.2.2.2.2.2.2.1
  have hM1 := hM x hx
  unfold Cx at hM1
  have hrun := vx_runS (e := Γ.1.2.2.1) (below := Γ.1.2.2.2.2.2.2.2.1) (meth := Γ.1.2.2.2.2.2.2.2.2.1) (R := Γ.1.2.2.2.1) (cells := cs.1) (slots := cs.2) (locs := locs) (H := H) (g := F0 Γ.1.2.2.2.2.2.1 pc a (As.reverse ++ st)) (As := As) (rest := st) ⟨hG.1, hG.2.1, hG.2.2.1, hG.2.2.2.1, hG.2.2.2.2.1⟩ hM1 (va_cwS n hG.2.2.2.2.1 hT hw rfl rfl hd (by rw [hR8]; exact hRm)) ⟨jfb hG.2.2.2.2.2.2.1, fun U hU hW => ⟨rfl, jSt_at hG hR hS hW hU⟩⟩ rfl hn ha.1 rfl (lv_room hst) d (by rw [hz.1, hz.2, hR8]; exact hcs)
  refine sm_xafter (r0 := r) hG hTx hS ha hrun (by rw [hz.1, hz.2]; exact hcs) (fun h0 a2 H2 locs2 g1 g2 g3 => ?_) (fun h0 => ?_)
  · rcases hr2 with ⟨h1, h2⟩ | ⟨h1, h2⟩
    · rw [hz.1, hz.2]
      have e3 : x = (x.1, 0, x.2.2) := by rw [← h1]
      have kk := k x.1 x.2.2 r h2 a2 H2 locs2 g1 (by rw [hfc x] at g2; exact g2) g3
      rw [← e3] at kk
      exact kk
    · rw [hfc x] at h0
      exact absurd h0 h1
  · rw [hfc x] at h0 ⊢
    rcases hr2 with ⟨h1, h2⟩ | ⟨h1, h2⟩
    · exact absurd h1 h0
    · subst h2
      rw [hfin]
      exact ⟨rfl, rfl⟩
end JY
