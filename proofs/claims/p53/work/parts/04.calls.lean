/-! CONTRACTS AND CALLS: from a walk of the body to a contract, from a contract to the row of its call -/
section JC
variable {κ ρ : Type} {Γ : jG ρ} {Λ : jL κ} {cs : Nat × Nat} {pc : Nat} {ls : List (Nat × Value)} {st : List Value} {v : κ → Nat → Int32} {ex : Option ρ} {cc : ByteArray} {own : String} {Ts : List Cond} {rm : Room}
/-- how the method may return -/
def jRt (Γ : jG ρ) (Λ : jL κ) (rm : Room) (ret : Option FieldType) (fin : ρ → Option Value × (κ → Nat → Int32)) : Prop :=
  (∀ r, Γ.2.2 r = MQ Γ.1.2.2.2.2.2.2.2.1 (fun _ st o t => o = .returned (fin r).1 ∧ Rp Λ (fin r).2 t.heap ∧ va_F Λ.2.2.2.2.2.1 st t) Γ.1.2.2.2.2.2.2.1 Γ.1.2.2.2.2.1 rm.cells rm.slots Λ.2.2.2.2.2.1) ∧ Γ.1.2.2.2.2.2.2.2.2.1.sig.returnType = ret ∧ Γ.1.2.2.2.2.2.2.2.2.1.locks = false
theorem jX_at (hG : jOk Γ Λ cc own Ts rm) {H : Heap} {locs : List Loc} (hS : va_S Λ.2.2.2.2.2.1 Γ.1.2.2.2.2.1.heap H locs) {U : State} (hU : Γ.1.2.2.2.2.1.WarmedH U.vm) : Λ.2.2.2.2.2.2.2 U H :=
  hG.2.2.2.2.2.2.1.2.2.2.2 _ _ _ _ hU hG.2.2.2.2.2.2.2.2.2 hS.1 (fun q h1 h2 => hS.2.1 q h1 h2)
theorem jSt_at (hG : jOk Γ Λ cc own Ts rm) {H : Heap} {locs : List Loc} (hR : Rp Λ v H) (hS : va_S Λ.2.2.2.2.2.1 Γ.1.2.2.2.2.1.heap H locs) {U : State} (hU : Γ.1.2.2.2.2.1.WarmedH U.vm) (hH : U.heap = H) : St Λ v U := by
  subst hH
  exact ⟨Nat.le_trans hG.2.2.2.2.2.2.2.2.1 hS.1, hR, va_K.moved hU.alike hG.2.2.2.2.2.1, jX_at hG hS hU⟩
theorem ct_of {l : Launch} {y : MethodName} {ws ws' : List Cond} {args : List Value} {maxL : Nat} {ret : Option FieldType} {r : ρ} (fin : ρ → Option Value × (κ → Nat → Int32)) (hΛ : jLok Λ) (hr : ex = some r) (hy : plainName y.cls = true) (hw : ws = Cond.code y cc maxL ret :: ws') (hlen : (lg_sl args).length ≤ maxL)
    (body : ∀ Γ : jG ρ, jOk Γ Λ cc y.cls ws rm → jRt Γ Λ rm ret fin → Γ.2.1 = maxL → Γ.1.2.1 = l → Sm Γ Λ (0, 0) 0 (lv_args 0 args) [] v ex) : Ct l y ws rm Λ args v (fin r).1 (fin r).2 := by
  refine Met.ofW (cc := cc) (maxL := maxL) (ret := ret) hy hw ?_
  intro p e s m args' below meth c s₁ B hml hv
  obtain ⟨rfl, hSt⟩ := hv
  have hl := lv_entry args hlen
  have k := body ((p, l, e, (headSpec ws rm).room, s, m, args.toArray, below, meth, c), maxL, fun r => MQ below (fun _ st o t => o = .returned (fin r).1 ∧ Rp Λ (fin r).2 t.heap ∧ va_F Λ.2.2.2.2.2.1 st t) args.toArray s rm.cells rm.slots Λ.2.2.2.2.2.1)
    ⟨B.exec, B.bytes, hml, findClass_of_methodNamed B.named, atoms_spec (ws := ws) B.pre, hSt.2.2.1, hΛ, rfl, hSt.1, hSt.2.2.2⟩ ⟨fun _ => rfl, B.returns, B.notSynchronized⟩ rfl rfl r hr _ s.heap [] hl hSt.2.1 va_S.rf
  rw [lg_entry_eq]
  exact k
theorem sm_iret (hG : jOk Γ Λ cc own Ts rm) {fin : ρ → Option Value × (κ → Nat → Int32)} (hT : jRt Γ Λ rm (some .int) fin) {x : Int32} {r0 : ρ} (hc : cs.1 ≤ rm.cells ∧ cs.2 ≤ rm.slots) (d : decode cc pc = .ok (.ireturn, 1)) (hf : fin r0 = (some (.int x), v)) : Sm Γ Λ cs pc ls [.int x] v (some r0) := by
  intro r hr a H locs ha hR hS
  cases hr
  rw [hT.1]
  refine W.widen hc.1 hc.2 (W.iret hG.1 hG.2.1 hT.2.1 (fun t ht hW => ⟨by rw [hf], ?_, hS.F ht⟩) hS.2.2 d hT.2.2)
  rw [hf]
  rw [ht]; exact hR
theorem sm_zret (hG : jOk Γ Λ cc own Ts rm) {fin : ρ → Option Value × (κ → Nat → Int32)} {ty : FieldType} (hT : jRt Γ Λ rm (some ty) fin) {x : Int32} {r0 : ρ} (hc : cs.1 ≤ rm.cells ∧ cs.2 ≤ rm.slots) (d : decode cc pc = .ok (.ireturn, 1)) (hn : narrow ty (.int x) = .int x) (hf : fin r0 = (some (.int x), v)) : Sm Γ Λ cs pc ls [.int x] v (some r0) := by
  intro r hr a H locs ha hR hS
  cases hr
  rw [hT.1]
  refine W.widen hc.1 hc.2 (W.zret hG.1 hG.2.1 hT.2.1 hn (fun t ht hW => ⟨by rw [hf], ?_, hS.F ht⟩) hS.2.2 d hT.2.2)
  rw [hf]
  rw [ht]; exact hR
/-- a number that is 0 or 1 -/
def zb (x : Int32) : Bool := decide (x = 0 ∨ x = 1)
theorem zb_n {x : Int32} (h : zb x = true) : narrow .boolean (.int x) = .int x := by
  rcases (show x = 0 ∨ x = 1 by simpa [zb] using h) with rfl | rfl <;> rfl
theorem sm_bret (hG : jOk Γ Λ cc own Ts rm) {fin : ρ → Option Value × (κ → Nat → Int32)} (hT : jRt Γ Λ rm (some .boolean) fin) {x : Int32} {r0 : ρ} (hc : cs.1 ≤ rm.cells ∧ cs.2 ≤ rm.slots) (d : decode cc pc = .ok (.ireturn, 1)) (hf : fin r0 = (some (.int x), v)) : Sm Γ Λ cs pc ls [.int x] v (ck (zb x) (some r0)) := by
  intro r hr
  obtain ⟨hb, hr⟩ := ck_s hr
  exact sm_zret hG hT hc d (zb_n hb) hf r hr
theorem sm_vret (hG : jOk Γ Λ cc own Ts rm) {fin : ρ → Option Value × (κ → Nat → Int32)} (hT : jRt Γ Λ rm none fin) {r0 : ρ} (hc : cs.1 ≤ rm.cells ∧ cs.2 ≤ rm.slots) (d : decode cc pc = .ok (.return_, 1)) (hf : fin r0 = (none, v)) : Sm Γ Λ cs pc ls [] v (some r0) := by
  intro r hr a H locs ha hR hS
  cases hr
  rw [hT.1]
  refine W.widen hc.1 hc.2 (W.vret hG.1 hG.2.1 hT.2.1 (fun t ht hW => ⟨by rw [hf], ?_, hS.F ht⟩) hS.2.2 d hT.2.2)
  rw [hf]
  rw [ht]; exact hR
theorem sm_nmv {w0 : κ → Nat → Int32} {f : (κ → Nat → Int32) → Option ρ} (k : ∀ w, Sm Γ Λ cs pc ls st w (f w)) : Sm Γ Λ cs pc ls st w0 (lt w0 f) := k w0
theorem sm_nmi {x : Int32} {f : Int32 → Option ρ} (k : ∀ y, Sm Γ Λ cs pc ls (.int y :: st) v (f y)) : Sm Γ Λ cs pc ls (.int x :: st) v (lt x f) := k x
theorem zip_at {α β : Type} : ∀ {a : List α} {b : List β} {i : Nat} {x : α} {y : β}, a[i]? = some x → b[i]? = some y → (x, y) ∈ a.zip b
  | [], _, i, x, y, h, _ => by simp at h
  | _ :: _, [], i, x, y, _, h => by simp at h
  | a :: l, b :: k, 0, x, y, h1, h2 => by
    simp at h1 h2
    subst h1; subst h2
    exact List.mem_cons_self
  | a :: l, b :: k, i + 1, x, y, h1, h2 => by
    simp at h1 h2
    exact List.mem_cons_of_mem _ (zip_at h1 h2)
theorem sm_tsw (hG : jOk Γ Λ cc own Ts rm) {dflt lo hi : Int} {offs : Array Int} {len tgt : Nat} {x : Int32} {es : List (Option ρ)} {e0 : Option ρ} (d : decode cc pc = .ok (.tableswitch dflt lo hi offs, len)) (hn : offs.size = es.length ∧ hi = lo + es.length - 1) (all : ∀ q ∈ offs.toList.zip es, ∃ t : Nat, (pc : Int) + q.1 = (t : Int) ∧ Sm Γ Λ cs t ls st v q.2) (ht : (pc : Int) + dflt = (tgt : Int)) (k0 : Sm Γ Λ cs tgt ls st v e0) : Sm Γ Λ cs pc ls (.int x :: st) v (swt x lo es e0) := by
  intro r hr a H locs ha hR hS
  unfold swt at hr
  by_cases h1 : x.toInt < lo
  · rw [if_pos h1] at hr
    exact lv_tableOut hG.1 hG.2.1 d (Or.inl h1) ht (k0 r hr a H locs ha hR hS)
  · rw [if_neg h1] at hr
    by_cases h2 : hi < x.toInt
    · rw [List.getD_eq_getElem?_getD, List.getElem?_eq_none (by omega), Option.getD_none] at hr
      exact lv_tableOut hG.1 hG.2.1 d (Or.inr h2) ht (k0 r hr a H locs ha hR hS)
    · have hlt : (x.toInt - lo).toNat < es.length := by omega
      have h3 : es[(x.toInt - lo).toNat]? = some (es[(x.toInt - lo).toNat]'hlt) := List.getElem?_eq_getElem hlt
      have hlt2 : (x.toInt - lo).toNat < offs.toList.length := by rw [Array.length_toList]; omega
      have h4 : offs.toList[(x.toInt - lo).toNat]? = some (offs.toList[(x.toInt - lo).toNat]'hlt2) := List.getElem?_eq_getElem hlt2
      obtain ⟨t, e1, kk⟩ := all _ (zip_at h4 h3)
      have e2 : es.getD (x.toInt - lo).toNat e0 = es[(x.toInt - lo).toNat]'hlt := by rw [List.getD_eq_getElem?_getD, h3]; rfl
      rw [e2] at hr
      exact lv_tableIn hG.1 hG.2.1 d h1 h2 (by rw [← Array.getElem?_toList]; exact h4) e1 (kk r hr a H locs ha hR hS)
theorem jfb (hΛ : jLok Λ) {args : List Value} : FrameBlind (va_Pc args (St Λ v)) := fun a U g mk q => ⟨q.1, q.2.1, q.2.2.1, va_K.moved (u := U) (U := U.calling g mk a) (Vm.Alike.refl U.vm) q.2.2.2.1, hΛ.2.2.2.2 U (U.calling g mk a) U.heap U.heap (State.WarmedH.refl U) q.2.2.2.2 (Nat.le_refl _) (fun _ _ _ => rfl)⟩
/-- behind a call that has returned -/
theorem sm_after (hG : jOk Γ Λ cc own Ts rm) {ov : Option Value} {v2 : κ → Nat → Int32} {H : Heap} {locs : List Loc} {a : Array Slot} {st0 : List Value} {free : Addr → Prop} (hfr : ∀ q, free q → Λ.2.2.2.2.2.1 q) (hS : va_S Λ.2.2.2.2.2.1 Γ.1.2.2.2.2.1.heap H locs) (ha : lv_has a Γ.2.1 ls) {mc ms : Nat}
    (hrun : va_Run Γ.1.1 Γ.1.2.1 Γ.1.2.2.1 Γ.1.2.2.2.1 Γ.1.2.2.2.2.1 Γ.1.2.2.2.2.2.1 Γ.1.2.2.2.2.2.2.1 Γ.1.2.2.2.2.2.2.2.1 Γ.1.2.2.2.2.2.2.2.2.1 Γ.1.2.2.2.2.2.2.2.2.2 H locs cs.1 cs.2 mc ms (F0 Γ.1.2.2.2.2.2.1 pc a st0) st (fun st o t => o = .returned ov ∧ Rp Λ v2 t.heap ∧ va_F Λ.2.2.2.2.2.1 st t) free)
    {r : ρ} (hr : ex = some r) (k : Sm Γ Λ (cs.1 + mc, cs.2 + ms) (pc + 3) ls (ov.toList ++ st) v2 ex) :
    W Γ.1.1 Γ.1.2.1 Γ.1.2.2.1 Γ.1.2.2.2.1 Γ.1.2.2.2.2.1 Γ.1.2.2.2.2.2.1 Γ.1.2.2.2.2.2.2.1 Γ.1.2.2.2.2.2.2.2.1 Γ.1.2.2.2.2.2.2.2.2.1 Γ.1.2.2.2.2.2.2.2.2.2 H locs cs.1 cs.2 (Γ.2.2 r) (F0 Γ.1.2.2.2.2.2.1 pc a st0) := by
  intro T hT X
  obtain ⟨v, st₀, t, T', L, h0, X', hL, e1, e2, ⟨hv, hst, hz, hk⟩, stp⟩ := hrun T hT X
  cases hv
  rw [h0] at hz hk
  obtain ⟨t2, a1, b1⟩ := k r hr a T'.heap (locs ++ L) ha (by rw [e1]; exact hst) ⟨Nat.le_trans hS.1 (by rw [e1]; exact hz), fun q h1 h2 => by rw [e1, hk q (Nat.lt_of_lt_of_le h1 hS.1) h2]; exact hS.2.1 q h1 h2, fun q hq => by
      rcases List.mem_append.mp hq with h | h
      · exact hS.2.2 q h
      · exact hfr _ (hL q h)⟩ T' rfl X'
  exact ⟨t2, stp t2 a1, b1⟩
theorem sm_callV (hG : jOk Γ Λ cc own Ts rm) {y : MethodName} {ws ws' : List Cond} {bytes : ByteArray} {maxL n index ci : Nat} {ret : Option FieldType} {rmc : Room} {q : vw_C} {fs : List Value} {α : Type} (fin : α → Option Value × (κ → Nat → Int32)) {F : Option α} {e2 : α → Option ρ} (key : κ) (As : List Value) {stk : List Value} (pc2 : Nat) (hp : pc + 3 = pc2) (hok : Λ.2.2.1 key) (he : Λ.2.2.2.2.1 key (v key) = .inr (ci, fs)) (hc : vwCl[ci]? = some q)
    (hM : ∀ r, F = some r → Ct Γ.1.2.1 y ws rmc Λ (.ref (Λ.2.2.2.1 key) :: As) v (fin r).1 (fin r).2) (hT : GoodIn Ts (wsV own index q.1 y ws)) (hw : ws = Cond.code y bytes maxL ret :: ws') (hd : y.cls = q.1 ∧ y.cls ≠ "java/lang/invoke/MethodHandle" ∧ y.cls ≠ "java/lang/invoke/VarHandle" ∧ (parseMethodDescriptor y.desc).map (fun d => d.parameters.length) = some n) (hRm : rmc.frames + 1 ≤ rm.frames ∧ 8 + (maxL + 11) + rmc.locals ≤ rm.locals) (hn : As.length = n) (hst : (st.map fun v => v.category).sum ≤ 8) (hz : rmc.cells = 0 ∧ rmc.slots = 0) (hcs : cs.1 ≤ rm.cells ∧ cs.2 ≤ rm.slots) (hstk : As.reverse ++ .ref (Λ.2.2.2.1 key) :: st = stk) (d : decode cc pc = .ok (.invokevirtual index, 3))
    (k : ∀ r, Sm Γ Λ cs pc2 ls ((fin r).1.toList ++ st) (fin r).2 (e2 r)) : Sm Γ Λ cs pc ls stk v (F.bind e2) := by
  subst hp hstk
  intro r hr a H locs ha hR hS
  obtain ⟨x, hx, hr2⟩ := Option.bind_eq_some_iff.mp hr
  have hR8 : Γ.1.2.2.2.1 = rm := hG.2.2.2.2.2.2.2.1
  have hM1 := hM x hx
  unfold Ct at hM1
  have hrun := va_runV (e := Γ.1.2.2.1) (below := Γ.1.2.2.2.2.2.2.2.1) (meth := Γ.1.2.2.2.2.2.2.2.2.1) (R := Γ.1.2.2.2.1) (cells := cs.1) (slots := cs.2) (locs := locs) (H := H) (g := F0 Γ.1.2.2.2.2.2.1 pc a (As.reverse ++ .ref (Λ.2.2.2.1 key) :: st)) (As := As) (rest := st) ⟨hG.1, hG.2.1, hG.2.2.1, hG.2.2.2.1, hG.2.2.2.2.1⟩ hM1 (cwV n hG.2.2.2.2.1 hT hw rfl rfl hd (by rw [hR8]; exact hRm)) ⟨jfb hG.2.2.2.2.2.2.1, va_recv hG.2.2.2.2.2.1 (rp_one hR hok he) (q0 := 0) hc rfl, fun U hU hW => ⟨rfl, jSt_at hG hR hS hW hU⟩⟩ rfl hn ha.1 rfl (lv_room hst) d (by rw [hz.1, hz.2, hR8]; exact hcs)
  refine sm_after hG (fun _ h => h) hS ha hrun (show (fun _ => e2 x) () = some r from hr2) ?_
  rw [hz.1, hz.2]
  exact k x
theorem sm_callS (hG : jOk Γ Λ cc own Ts rm) {y : MethodName} {ws ws' : List Cond} {bytes : ByteArray} {maxL n index : Nat} {ret : Option FieldType} {rmc : Room} {α : Type} (fin : α → Option Value × (κ → Nat → Int32)) {F : Option α} {e2 : α → Option ρ} (As : List Value) {stk : List Value} (pc2 : Nat) (hp : pc + 3 = pc2)
    (hM : ∀ r, F = some r → Ct Γ.1.2.1 y ws rmc Λ As v (fin r).1 (fin r).2) (hT : GoodIn Ts (va_wsS own index y ws)) (hw : ws = Cond.code y bytes maxL ret :: ws') (hd : y.cls ≠ "java/lang/invoke/MethodHandle" ∧ y.cls ≠ "java/lang/invoke/VarHandle" ∧ (parseMethodDescriptor y.desc).map (fun d => d.parameters.length) = some n) (hRm : rmc.frames + 1 ≤ rm.frames ∧ 8 + (maxL + 11) + rmc.locals ≤ rm.locals) (hn : As.length = n) (hst : (st.map fun v => v.category).sum ≤ 8) (hz : rmc.cells = 0 ∧ rmc.slots = 0) (hcs : cs.1 ≤ rm.cells ∧ cs.2 ≤ rm.slots) (hstk : As.reverse ++ st = stk) (d : decode cc pc = .ok (.invokestatic index, 3))
    (k : ∀ r, Sm Γ Λ cs pc2 ls ((fin r).1.toList ++ st) (fin r).2 (e2 r)) : Sm Γ Λ cs pc ls stk v (F.bind e2) := by
  subst hp hstk
  intro r hr a H locs ha hR hS
  obtain ⟨x, hx, hr2⟩ := Option.bind_eq_some_iff.mp hr
  have hR8 : Γ.1.2.2.2.1 = rm := hG.2.2.2.2.2.2.2.1
  have hM1 := hM x hx
  unfold Ct at hM1
  have hrun := va_runS (e := Γ.1.2.2.1) (below := Γ.1.2.2.2.2.2.2.2.1) (meth := Γ.1.2.2.2.2.2.2.2.2.1) (R := Γ.1.2.2.2.1) (cells := cs.1) (slots := cs.2) (locs := locs) (H := H) (g := F0 Γ.1.2.2.2.2.2.1 pc a (As.reverse ++ st)) (As := As) (rest := st) ⟨hG.1, hG.2.1, hG.2.2.1, hG.2.2.2.1, hG.2.2.2.2.1⟩ hM1 (va_cwS n hG.2.2.2.2.1 hT hw rfl rfl hd (by rw [hR8]; exact hRm)) ⟨jfb hG.2.2.2.2.2.2.1, fun U hU hW => ⟨rfl, jSt_at hG hR hS hW hU⟩⟩ rfl hn ha.1 rfl (lv_room hst) d (by rw [hz.1, hz.2, hR8]; exact hcs)
  refine sm_after hG (fun _ h => h) hS ha hrun (show (fun _ => e2 x) () = some r from hr2) ?_
  rw [hz.1, hz.2]
  exact k x
/-- a private static method of a nest mate -/
theorem sm_callN (hG : jOk Γ Λ cc own Ts rm) {y : MethodName} {host : String} {ws ws' : List Cond} {bytes : ByteArray} {maxL n index : Nat} {ret : Option FieldType} {rmc : Room} {α : Type} (fin : α → Option Value × (κ → Nat → Int32)) {F : Option α} {e2 : α → Option ρ} (As : List Value) {stk : List Value} (pc2 : Nat) (hp : pc + 3 = pc2)
    (hX : Λ.2.2.2.2.2.2.2 Γ.1.2.2.2.2.1 Γ.1.2.2.2.2.1.heap → va_Nw (.methodLinkNest own index y host) Γ.1.2.2.2.2.1)
    (hM : ∀ r, F = some r → Ct Γ.1.2.1 y ws rmc Λ As v (fin r).1 (fin r).2) (hT : GoodIn Ts ws) (hstw : Cond.static y ∈ Ts) (hini : Cond.initialized y.cls ∈ Ts) (hw : ws = Cond.code y bytes maxL ret :: ws') (hd : y.cls ≠ "java/lang/invoke/MethodHandle" ∧ y.cls ≠ "java/lang/invoke/VarHandle" ∧ (parseMethodDescriptor y.desc).map (fun d => d.parameters.length) = some n) (hRm : rmc.frames + 1 ≤ rm.frames ∧ 8 + (maxL + 11) + rmc.locals ≤ rm.locals) (hn : As.length = n) (hst : (st.map fun v => v.category).sum ≤ 8) (hz : rmc.cells = 0 ∧ rmc.slots = 0) (hcs : cs.1 ≤ rm.cells ∧ cs.2 ≤ rm.slots) (hstk : As.reverse ++ st = stk) (d : decode cc pc = .ok (.invokestatic index, 3))
    (k : ∀ r, Sm Γ Λ cs pc2 ls ((fin r).1.toList ++ st) (fin r).2 (e2 r)) : Sm Γ Λ cs pc ls stk v (F.bind e2) := by
  subst hp hstk
  intro r hr a H locs ha hR hS
  obtain ⟨x, hx, hr2⟩ := Option.bind_eq_some_iff.mp hr
  have hR8 : Γ.1.2.2.2.1 = rm := hG.2.2.2.2.2.2.2.1
  have hM1 := hM x hx
  unfold Ct at hM1
  have hrun := va_runSN (e := Γ.1.2.2.1) (below := Γ.1.2.2.2.2.2.2.2.1) (meth := Γ.1.2.2.2.2.2.2.2.2.1) (R := Γ.1.2.2.2.1) (cells := cs.1) (slots := cs.2) (locs := locs) (H := H) (g := F0 Γ.1.2.2.2.2.2.1 pc a (As.reverse ++ st)) (As := As) (rest := st) ⟨hG.1, hG.2.1, hG.2.2.1, hG.2.2.2.1, hG.2.2.2.2.1⟩ hM1 ⟨va_cnB n hG.2.2.2.2.1 hT hw rfl rfl (hX hG.2.2.2.2.2.2.2.2.2) (hG.2.2.2.2.1 _ hini) hd (by rw [hR8]; exact hRm), hG.2.2.2.2.1 _ hstw, trivial⟩ ⟨jfb hG.2.2.2.2.2.2.1, fun U hU hW => ⟨rfl, jSt_at hG hR hS hW hU⟩⟩ rfl hn ha.1 rfl (lv_room hst) d (by rw [hz.1, hz.2, hR8]; exact hcs)
  refine sm_after hG (fun _ h => h) hS ha hrun (show (fun _ => e2 x) () = some r from hr2) ?_
  rw [hz.1, hz.2]
  exact k x
end JC
