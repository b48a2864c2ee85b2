/-! CONSTRUCTORS: a world told as a list that grows -/
theorem va_AOA_moved {ty : FieldType} {u U : State} (hvm : u.vm.Alike U.vm) (h : va_AOA ty u) : va_AOA ty U := by
  obtain ⟨comp, c, k, h1, h3, h4, h5⟩ := Cond.arrayOver_specA h
  have h2 : (u.vm.classes.findIdx? fun (x : Class) => match x.kind with | .array component _ => component == comp | _ => false) = some c := by
    have h0 := h
    unfold va_AOA Cond.before Cond.holds at h0
    simp only [Cond.value, h1, Option.bind_some, beq_iff_eq] at h0
    obtain ⟨c', hi, k', hk', hb⟩ := by simpa only [Option.bind_eq_some_iff, Option.map_eq_some_iff] using h0
    have hi' : (u.vm.classes.findIdx? fun (x : Class) => match x.kind with | .array component _ => component == comp | _ => false) = some c' := hi
    have hb2 : u.vm.findClass ("[" ++ (FieldType.array ty).toString) = some c' := by
      cases hkk : k'.kind with
      | array cc tt => rw [hkk] at hb; simp at hb; exact hb.2
      | _ => rw [hkk] at hb; simp at hb
    rw [h5] at hb2
    cases hb2
    exact hi'
  obtain ⟨k', hk', he⟩ := hvm.2.2 _ _ h3
  have hi : (U.vm.classes.findIdx? fun (x : Class) => match x.kind with | .array component _ => component == comp | _ => false) = some c := by
    refine (va_idx_bare U.vm comp).symm.trans (Eq.trans ?_ ((va_idx_bare u.vm comp).trans h2))
    first | rw [hvm.bare_eq] | rw [← hvm.bare_eq]
  have hkind : k'.kind = .array comp (.array ty) := by rw [he]; exact h4
  have f1 : U.vm.findClass (FieldType.array ty).toString = some comp := by rw [hvm.findClass]; exact h1
  have f2 : U.vm.findClass ("[" ++ (FieldType.array ty).toString) = some c := by rw [hvm.findClass]; exact h5
  unfold va_AOA Cond.before Cond.holds
  simp only [Cond.value]
  rw [f1, Option.bind_some]
  refine (congrArg (fun o : Option Nat => (o.bind (fun c => (U.vm.classes[c]?).map fun (k : Class) => match k.kind with | .array _ ty' => decide (ty' = FieldType.array ty) && decide (U.vm.findClass ("[" ++ (FieldType.array ty).toString) = some c) | _ => false) == some true)) hi).trans ?_
  simp [hk', hkind, f2]
theorem inner_i (c : ClassId) (K : Nat) : Multi.innerC c K (defaultValue .int) = vp_cell c (K, .inl (fun _ => 0)) := by
  have h : Array.replicate K (Value.int 0) = Array.ofFn (n := K) (fun _ => Value.int 0) := by apply Array.ext <;> simp
  unfold Multi.innerC vp_cell arrV
  exact congrArg (fun a => ({ cls := c, slots := a } : Cell)) h
/-- what constructors ask of the world around -/
def XN (U : State) : Prop := (∀ w ∈ nestW, va_Nw w U) ∧ va_AOA .int U ∧ va_AO "ChoirRegister$Book" U
theorem nest_same {u U : State} (h : u.vm = U.vm) (hN : ∀ w ∈ nestW, va_Nw w u) : ∀ w ∈ nestW, va_Nw w U := fun w hw => va_Nw.same ((show ∀ w ∈ nestW, w.onTables = true by decide +kernel) w hw) h (hN w hw)
theorem nest_warm {u U : State} (hW : u.WarmedH U.vm) (hN : ∀ w ∈ nestW, va_Nw w u) : ∀ w ∈ nestW, va_Nw w U := by
  unfold nestW at hN ⊢
  simp only [List.forall_mem_cons] at hN ⊢
  obtain ⟨h1, h2, h3, h4, h5, h6, h7, h8, h9, h10, h11, h12, h13, h14, h15⟩ := hN
  exact ⟨h1.warmM hW, h2.warmM hW, h3.warmM hW, h4.warmM hW, h5.warmM hW, h6.warmM hW, h7.warmM hW, h8.warmM hW, h9.warmM hW, h10.warmM hW, h11.warmM hW, h12.warmF hW, h13.warmF hW, h14.warmF hW, fun _ q => nomatch q⟩
theorem XN_same {u U : State} (h : u.vm = U.vm) (hX : XN u) : XN U := ⟨nest_same h hX.1, va_AOA_moved (by rw [h]; exact Vm.Alike.refl _) hX.2.1, va_AO.moved (by rw [h]; exact Vm.Alike.refl _) hX.2.2⟩
theorem XN_warm {u U : State} (h : u.WarmedH U.vm) (hX : XN u) : XN U := ⟨nest_warm h hX.1, va_AOA_moved h.alike hX.2.1, va_AO.moved h.alike hX.2.2⟩
theorem ra_i {U : State} {c c' : ClassId} (h1 : va_RA U c .int) (h2 : va_RA U c' .int) : c = c' := Option.some.inj ((show U.vm.findClass _ = _ from h1).symm.trans h2)
theorem ra_c {U : State} {c c' : ClassId} (h1 : va_RA U c .char) (h2 : va_RA U c' .char) : c = c' := Option.some.inj ((show U.vm.findClass _ = _ from h1).symm.trans h2)
theorem ra_l {U : State} {c c' : ClassId} (h1 : va_RA U c .long) (h2 : va_RA U c' .long) : c = c' := Option.some.inj ((show U.vm.findClass _ = _ from h1).symm.trans h2)
theorem ra_a {U : State} {c c' : ClassId} (h1 : va_RA U c (.array .int)) (h2 : va_RA U c' (.array .int)) : c = c' := Option.some.inj ((show U.vm.findClass _ = _ from h1).symm.trans h2)
theorem ra_o {U : State} {C : String} {c c' : ClassId} (h1 : va_RA U c (.object C)) (h2 : va_RA U c' (.object C)) : c = c' := by
  obtain ⟨_, _, _, _, _, g1⟩ := h1
  obtain ⟨_, _, _, _, _, g2⟩ := h2
  exact Option.some.inj (g1.symm.trans g2)
theorem k_last {D : va_G} {U : State} {tys : List (ClassId × FieldType)} {c : ClassId} {ty : FieldType} (h : va_K D vwCl (tys ++ [(c, ty)]) U) : va_RA U c ty :=
  (h.2 tys.length (c, ty) (by rw [List.getElem?_append_right (Nat.le_refl _), Nat.sub_self]; rfl)).2
theorem k_at {D : va_G} {U : State} {g : Nat → ClassId} (h : va_K D vwCl (jtys g) U) : va_RA U (g 0) .int ∧ va_RA U (g 1) .char ∧ va_RA U (g 2) (.array .int) ∧ va_RA U (g 3) (.object "ChoirRegister$Book") ∧ va_RA U (g 4) .long :=
  ⟨(h.2 0 _ rfl).2, (h.2 1 _ rfl).2, (h.2 2 _ rfl).2, (h.2 3 _ rfl).2, (h.2 4 _ rfl).2⟩
section SC
variable {E : jE} {mL : Nat} {Q : State → Prop} {D : va_G} {g : Nat → ClassId} {A : Nat → Prop} {cs : Nat × Nat} {pc : Nat} {ls : List (Nat × Value)} {st : List Value} {ws : va_W} {cc : ByteArray} {own : String} {Ts : List Cond} {rm : Room}
def Sc (E : jE) (mL : Nat) (Q : State → Prop) (D : va_G) (A : Nat → Prop) (cs : Nat × Nat) (pc : Nat) (ls : List (Nat × Value)) (st : List Value) (ws : va_W) : Prop :=
  ∀ (a : Array Slot) (H : Heap) (locs : List Loc), lv_has a mL ls → va_P D vwCl ws H → va_D A ws → va_S A E.2.2.2.2.1.heap H locs →
    W E.1 E.2.1 E.2.2.1 E.2.2.2.1 E.2.2.2.2.1 E.2.2.2.2.2.1 E.2.2.2.2.2.2.1 E.2.2.2.2.2.2.2.1 E.2.2.2.2.2.2.2.2.1 E.2.2.2.2.2.2.2.2.2 H locs cs.1 cs.2 Q (F0 E.2.2.2.2.2.1 pc a st)
def cOk (E : jE) (mL : Nat) (D : va_G) (g : Nat → ClassId) (A : Nat → Prop) (cc : ByteArray) (own : String) (Ts : List Cond) (rm : Room) : Prop :=
  (E.1.tables.exec = Jvm.exec ∧ E.2.2.2.2.2.2.2.2.2.code = cc ∧ E.2.2.2.2.2.2.2.2.2.maxLocals = mL ∧ E.2.2.2.2.1.vm.findClass own = some E.2.2.2.2.2.1.cls ∧ ∀ w ∈ Ts, w.before E.2.2.2.2.2.2.1 E.2.2.2.2.1 = true) ∧
  (va_K D vwCl (jtys g) E.2.2.2.2.1 ∧ E.2.2.2.1 = rm ∧ (∀ q, E.2.2.2.2.1.heap.size ≤ q → A q) ∧ XN E.2.2.2.2.1) ∧ (E.2.2.2.2.2.2.2.2.1.name = "<init>" ∧ E.2.2.2.2.2.2.2.2.1.sig.returnType = none ∧ E.2.2.2.2.2.2.2.2.1.locks = false)
theorem sc_iconst (hG : cOk E mL D g A cc own Ts rm) {n : Int} {x : Int32} (pc2 : Nat) (hp : pc + 1 = pc2) (d : decode cc pc = .ok (.iconst n, 1)) (hv : Int32.ofInt n = x) (k : Sc E mL Q D A cs pc2 ls (.int x :: st) ws) : Sc E mL Q D A cs pc ls st ws := by
  subst hp; intro a H locs ha hP hD hS; exact lv_iconst hG.1.1 hG.1.2.1 d hv (k a H locs ha hP hD hS)
theorem sc_bipush (hG : cOk E mL D g A cc own Ts rm) {n : Int} {x : Int32} (pc2 : Nat) (hp : pc + 2 = pc2) (d : decode cc pc = .ok (.bipush n, 2)) (hv : (Int8.ofInt n).toInt32 = x) (k : Sc E mL Q D A cs pc2 ls (.int x :: st) ws) : Sc E mL Q D A cs pc ls st ws := by
  subst hp; intro a H locs ha hP hD hS; exact lv_bipush hG.1.1 hG.1.2.1 d hv (k a H locs ha hP hD hS)
theorem sc_sipush (hG : cOk E mL D g A cc own Ts rm) {n : Int} {x : Int32} (pc2 : Nat) (hp : pc + 3 = pc2) (d : decode cc pc = .ok (.sipush n, 3)) (hv : (Int16.ofInt n).toInt32 = x) (k : Sc E mL Q D A cs pc2 ls (.int x :: st) ws) : Sc E mL Q D A cs pc ls st ws := by
  subst hp; intro a H locs ha hP hD hS; exact lv_sipush hG.1.1 hG.1.2.1 d hv (k a H locs ha hP hD hS)
theorem sc_aload (hG : cOk E mL D g A cc own Ts rm) {q : Fin 4} {i x : Nat} (pc2 : Nat) (hp : pc + 1 = pc2) (d : decode cc pc = .ok (.aload_n q, 1)) (hi : (q : Nat) = i) (j : Nat) (hj : ls[j]? = some (i, .ref x)) (k : Sc E mL Q D A cs pc2 ls (.ref x :: st) ws) : Sc E mL Q D A cs pc ls st ws := by
  subst hp; intro a H locs ha hP hD hS; exact lv_aload_n hG.1.1 hG.1.2.1 d hi (lv_at ha j hj) (k a H locs ha hP hD hS)
theorem sc_iload (hG : cOk E mL D g A cc own Ts rm) {q : Fin 4} {i : Nat} {x : Int32} (pc2 : Nat) (hp : pc + 1 = pc2) (d : decode cc pc = .ok (.iload_n q, 1)) (hi : (q : Nat) = i) (j : Nat) (hj : ls[j]? = some (i, .int x)) (k : Sc E mL Q D A cs pc2 ls (.int x :: st) ws) : Sc E mL Q D A cs pc ls st ws := by
  subst hp; intro a H locs ha hP hD hS; exact lv_iload_n hG.1.1 hG.1.2.1 d hi (lv_at ha j hj) (k a H locs ha hP hD hS)
theorem sc_istore (hG : cOk E mL D g A cc own Ts rm) {q : Fin 4} {i : Nat} {x : Int32} (pc2 : Nat) (hp : pc + 1 = pc2) (d : decode cc pc = .ok (.istore_n q, 1)) (hi : (q : Nat) = i) (hn : i < mL) (ls2 : List (Nat × Value)) (hl : (i, Value.int x) :: ls.filter (fun q => !(q.1 == i) && !(q.1 + 1 == i && q.2.category == 2)) = ls2) (k : Sc E mL Q D A cs pc2 ls2 st ws) : Sc E mL Q D A cs pc ls (.int x :: st) ws := by
  subst hp; intro a H locs ha hP hD hS; exact lv_istore_n hG.1.1 hG.1.2.1 d hi ha hn hl (fun a2 ha2 => k a2 H locs ha2 hP hD hS)
theorem sc_iinc (hG : cOk E mL D g A cc own Ts rm) {i j : Nat} {n : Int} {x y : Int32} (pc2 : Nat) (hp : pc + 3 = pc2) (d : decode cc pc = .ok (.iinc i n, 3)) (hj : ls[j]? = some (i, .int x)) (hv : x + Int32.ofInt n = y) (hn : i < mL) (ls2 : List (Nat × Value)) (hl : (i, Value.int y) :: ls.filter (fun q => !(q.1 == i) && !(q.1 + 1 == i && q.2.category == 2)) = ls2) (k : Sc E mL Q D A cs pc2 ls2 st ws) : Sc E mL Q D A cs pc ls st ws := by
  subst hp; intro a H locs ha hP hD hS; exact lv_iinc hG.1.1 hG.1.2.1 d ha hj hv hn hl (fun a2 ha2 => k a2 H locs ha2 hP hD hS)
theorem sc_dup (hG : cOk E mL D g A cc own Ts rm) {x : Value} (pc2 : Nat) (hp : pc + 1 = pc2) (d : decode cc pc = .ok (.dup, 1)) (hc : x.category = 1) (k : Sc E mL Q D A cs pc2 ls (x :: x :: st) ws) : Sc E mL Q D A cs pc ls (x :: st) ws := by
  subst hp; intro a H locs ha hP hD hS; exact lv_dup hG.1.1 hG.1.2.1 d hc (k a H locs ha hP hD hS)
theorem sc_goto (hG : cOk E mL D g A cc own Ts rm) {off : Int} (tgt : Nat) (d : decode cc pc = .ok (.goto off, 3)) (ht : (pc : Int) + off = (tgt : Int)) (k : Sc E mL Q D A cs tgt ls st ws) : Sc E mL Q D A cs pc ls st ws := by
  intro a H locs ha hP hD hS; exact lv_goto hG.1.1 hG.1.2.1 d ht (k a H locs ha hP hD hS)
theorem sc_geY (hG : cOk E mL D g A cc own Ts rm) {x y : Int32} {off : Int} (tgt : Nat) (d : decode cc pc = .ok (.if_icmp .ge off, 3)) (ht : (pc : Int) + off = (tgt : Int)) (hc : y ≤ x) (k : Sc E mL Q D A cs tgt ls st ws) : Sc E mL Q D A cs pc ls (.int y :: .int x :: st) ws := by
  intro a H locs ha hP hD hS
  exact lv_icmp_ge hG.1.1 hG.1.2.1 d ht (fun _ => k a H locs ha hP hD hS) (fun q => absurd hc q)
theorem sc_geN (hG : cOk E mL D g A cc own Ts rm) {x y : Int32} {off : Int} (tgt pc2 : Nat) (hp : pc + 3 = pc2) (d : decode cc pc = .ok (.if_icmp .ge off, 3)) (ht : (pc : Int) + off = (tgt : Int)) (hc : ¬ y ≤ x) (k : Sc E mL Q D A cs pc2 ls st ws) : Sc E mL Q D A cs pc ls (.int y :: .int x :: st) ws := by
  subst hp; intro a H locs ha hP hD hS
  exact lv_icmp_ge hG.1.1 hG.1.2.1 d ht (fun q => absurd q hc) (fun _ => k a H locs ha hP hD hS)
theorem sc_obj (hG : cOk E mL D g A cc own Ts rm) {idx x : Nat} (pc2 : Nat) (hp : pc + 3 = pc2) (h1 : Cond.methodLink own idx objectInit ∈ Ts) (h2 : Cond.instanceMethod objectInit ∈ Ts) (h3 : Cond.code objectInit ⟨#[0xb1]⟩ 1 none ∈ Ts) (d : decode cc pc = .ok (.invokespecial idx, 3)) (hf : 1 ≤ rm.frames) (hl : (st.map fun v => v.category).sum + 12 ≤ rm.locals) (k : Sc E mL Q D A cs pc2 ls st ws) : Sc E mL Q D A cs pc ls (.ref x :: st) ws := by
  subst hp; intro a H locs ha hP hD hS
  refine W.objInit hG.1.1 hG.1.2.1 hG.1.2.2.2.1 (hG.1.2.2.2.2 _ h1) (hG.1.2.2.2.2 _ h2) (hG.1.2.2.2.2 _ h3) rfl (ha.1.trans hG.1.2.2.1.symm) rfl d (by rw [hG.2.1.2.1]; exact hf) (by rw [hG.2.1.2.1]; show 2 * 0 + _ + 12 ≤ _; omega) ?_
  exact k a H locs ha hP hD hS
theorem sc_put (hG : cOk E mL D g A cc own Ts rm) {n ci N j q0 h : Nat} {ref C : String} {T : u_T} {fs : List Value} {x : Value} {ty0 : Nat → FieldType} (pc2 : Nat) (hp : pc + 3 = pc2) (he : ws[q0]? = some (h, .inr (ci, fs))) (hc : vwCl[ci]? = some (C, T, N)) (hin : ∀ w ∈ u_ws C T N, w ∈ Ts) (hty : ∀ k, k < N → parseFieldDescriptor (T k).2.2.1 = some (ty0 k)) (hnm : ∀ a, a < N → ∀ b, b < N → a ≠ b → (T a).2.1 ≠ (T b).2.1) (hj : j < N) (href : (T j).1 = ref) (hfin : (T j).2.2.2 = false) (hw : Cond.fieldLink own n ref (T j).2.1 (T j).2.2.1 ∈ Ts) (hn : narrow (ty0 j) x = x) (hfit : fits (ty0 j) x = true) (hlen : j < fs.length) (d : decode cc pc = .ok (.putfield n, 3)) (ws2 : va_W) (hws : ws.set q0 (h, .inr (ci, fs.set j x)) = ws2) (k : Sc E mL Q D A cs pc2 ls st ws2) : Sc E mL Q D A cs pc ls (x :: .ref h :: st) ws := by
  subst hp hws; intro a H locs ha hP hD hS
  exact va_put hG.1.1 hG.1.2.1 hG.1.2.2.2.2 hin ty0 hty hnm hG.1.2.2.2.1 hG.2.1.1 hP hD hS q0 he hc j hj (hG.1.2.2.2.2 _ hw) (fun z h => by rw [← href]; exact h) hfin (hty j hj) hn hfit hlen d (fun H1 locs1 hP1 hD1 hS1 => k a H1 locs1 ha hP1 hD1 hS1)
theorem sc_putF (hG : cOk E mL D g A cc own Ts rm) {n ci N j q0 h : Nat} {ref C : String} {T : u_T} {fs : List Value} {x : Value} {ty0 : Nat → FieldType} (pc2 : Nat) (hp : pc + 3 = pc2) (he : ws[q0]? = some (h, .inr (ci, fs))) (hc : vwCl[ci]? = some (C, T, N)) (hin : ∀ w ∈ u_ws C T N, w ∈ Ts) (hty : ∀ k, k < N → parseFieldDescriptor (T k).2.2.1 = some (ty0 k)) (hnm : ∀ a, a < N → ∀ b, b < N → a ≠ b → (T a).2.1 ≠ (T b).2.1) (hj : j < N) (href : (T j).1 = ref) (hfin : (T j).2.2.2 = true) (hdecl : (T j).1 = own) (hw : Cond.fieldLink own n ref (T j).2.1 (T j).2.2.1 ∈ Ts) (hn : narrow (ty0 j) x = x) (hfit : fits (ty0 j) x = true) (hlen : j < fs.length) (d : decode cc pc = .ok (.putfield n, 3)) (ws2 : va_W) (hws : ws.set q0 (h, .inr (ci, fs.set j x)) = ws2) (k : Sc E mL Q D A cs pc2 ls st ws2) : Sc E mL Q D A cs pc ls (x :: .ref h :: st) ws := by
  subst hp hws; intro a H locs ha hP hD hS
  exact va_putF hG.1.1 hG.1.2.1 hG.1.2.2.2.2 hin ty0 hty hnm hG.1.2.2.2.1 hG.2.1.1 hP hD hS q0 he hc j hj (hG.1.2.2.2.2 _ hw) (fun z h => by rw [← href]; exact h) hfin hG.2.2.1 hdecl (hty j hj) hn hfit hlen d (fun H1 locs1 hP1 hD1 hS1 => k a H1 locs1 ha hP1 hD1 hS1)
theorem sc_getr (hG : cOk E mL D g A cc own Ts rm) {n ci N j q0 h : Nat} {ref C : String} {T : u_T} {fs : List Value} {x : Value} (pc2 : Nat) (hp : pc + 3 = pc2) (he : ws[q0]? = some (h, .inr (ci, fs))) (hc : vwCl[ci]? = some (C, T, N)) (hin : ∀ w ∈ u_ws C T N, w ∈ Ts) (hj : j < N) (href : (T j).1 = ref) (hw : Cond.fieldLink own n ref (T j).2.1 (T j).2.2.1 ∈ Ts) (hx : fs[j]? = some x) (d : decode cc pc = .ok (.getfield n, 3)) (k : Sc E mL Q D A cs pc2 ls (x :: st) ws) : Sc E mL Q D A cs pc ls (.ref h :: st) ws := by
  subst hp; intro a H locs ha hP hD hS
  exact va_get hG.1.1 hG.1.2.1 hG.1.2.2.2.2 hin hG.1.2.2.2.1 hG.2.1.1 hP q0 he hc j hj (hG.1.2.2.2.2 _ hw) (fun z h => by rw [← href]; exact h) hx d (k a H locs ha hP hD hS)
theorem sc_new (hG : cOk E mL D g A cc own Ts rm) {n ci N : Nat} {C : String} {T : u_T} {fs : List Value} (ty0 : Nat → FieldType) (pc2 : Nat) (hp : pc + 3 = pc2) (hc : vwCl[ci]? = some (C, T, N)) (hin : ∀ w ∈ u_ws C T N, w ∈ Ts) (hty : ∀ k, k < N → parseFieldDescriptor (T k).2.2.1 = some (ty0 k)) (h1 : Cond.classLink own n C ∈ Ts) (h2 : Cond.instantiable C N ∈ Ts) (h3 : Cond.initialized C ∈ Ts) (hfs : ∀ j, j < N → defaultValue (ty0 j) = vp_V fs j) (cs2 : Nat × Nat) (hcs : cs.1 + 1 = cs2.1 ∧ cs.2 + N = cs2.2) (hc1 : cs2.1 ≤ rm.cells ∧ cs2.2 ≤ rm.slots) (d : decode cc pc = .ok (.new n, 3)) (k : ∀ q, Sc E mL Q D A cs2 pc2 ls (.ref q :: st) (ws ++ [(q, .inr (ci, fs))])) : Sc E mL Q D A cs pc ls st ws := by
  subst hp; intro a H locs ha hP hD hS
  refine va_new hG.1.1 hG.1.2.1 hG.1.2.2.2.2 hin ty0 hty hG.1.2.2.2.1 (hG.1.2.2.2.2 _ h1) (hG.1.2.2.2.2 _ h2) (hG.1.2.2.2.2 _ h3) hG.2.1.1 hP hD hS hG.2.1.2.2.1 hc hfs (by rw [hG.2.1.2.1, hcs.1]; exact hc1.1) (by rw [hG.2.1.2.1, hcs.2]; exact hc1.2) d (fun q H1 hP1 hD1 hS1 => ?_)
  rw [hcs.1, hcs.2]
  exact k q a H1 locs ha hP1 hD1 hS1
theorem sc_newi (hG : cOk E mL D g A cc own Ts rm) {x : Int32} {N : Nat} (pc2 : Nat) (hp : pc + 2 = pc2) (hw : Cond.arrayClass .int ∈ Ts) (hx : ¬ x < 0) (hN : x.toNatClampNeg = N) (hb : N * componentBytes .int ≤ 536870912) (cs2 : Nat × Nat) (hcs : cs.1 + 1 = cs2.1 ∧ cs.2 + N = cs2.2) (hc1 : cs2.1 ≤ rm.cells ∧ cs2.2 ≤ rm.slots) (d : decode cc pc = .ok (.newarray .int, 2)) (k : ∀ q, Sc E mL Q D A cs2 pc2 ls (.ref q :: st) (ws ++ [(q, .inl (g 0, N, .inl (fun _ => 0)))])) : Sc E mL Q D A cs pc ls (.int x :: st) ws := by
  subst hp; intro a H locs ha hP hD hS
  refine va_newa (atype := .int) (ty := .int) (a0 := (N, .inl (fun _ => 0))) hG.1.1 hG.1.2.1 (hG.1.2.2.2.2 _ hw) rfl hG.2.1.1 hP hD hS hG.2.1.2.2.1 (fun cA => rfl) hx hN hb (by rw [hG.2.1.2.1, hcs.1]; exact hc1.1) (by rw [hG.2.1.2.1, hcs.2]; exact hc1.2) d (fun q cA H1 hK1 hP1 hD1 hS1 => ?_)
  have e : cA = g 0 := ra_i (k_last hK1) (k_at hG.2.1.1).1
  subst e
  rw [hcs.1, hcs.2]
  exact k q a H1 locs ha hP1 hD1 hS1
theorem sc_newc (hG : cOk E mL D g A cc own Ts rm) {x : Int32} {N : Nat} (pc2 : Nat) (hp : pc + 2 = pc2) (hw : Cond.arrayClass .char ∈ Ts) (hx : ¬ x < 0) (hN : x.toNatClampNeg = N) (hb : N * componentBytes .char ≤ 536870912) (cs2 : Nat × Nat) (hcs : cs.1 + 1 = cs2.1 ∧ cs.2 + N = cs2.2) (hc1 : cs2.1 ≤ rm.cells ∧ cs2.2 ≤ rm.slots) (d : decode cc pc = .ok (.newarray .char, 2)) (k : ∀ q, Sc E mL Q D A cs2 pc2 ls (.ref q :: st) (ws ++ [(q, .inl (g 1, N, .inl (fun _ => 0)))])) : Sc E mL Q D A cs pc ls (.int x :: st) ws := by
  subst hp; intro a H locs ha hP hD hS
  refine va_newa (atype := .char) (ty := .char) (a0 := (N, .inl (fun _ => 0))) hG.1.1 hG.1.2.1 (hG.1.2.2.2.2 _ hw) rfl hG.2.1.1 hP hD hS hG.2.1.2.2.1 (fun cA => rfl) hx hN hb (by rw [hG.2.1.2.1, hcs.1]; exact hc1.1) (by rw [hG.2.1.2.1, hcs.2]; exact hc1.2) d (fun q cA H1 hK1 hP1 hD1 hS1 => ?_)
  have e : cA = g 1 := ra_c (k_last hK1) (k_at hG.2.1.1).2.1
  subst e
  rw [hcs.1, hcs.2]
  exact k q a H1 locs ha hP1 hD1 hS1
theorem sc_newb (hG : cOk E mL D g A cc own Ts rm) {x : Int32} {N n : Nat} (pc2 : Nat) (hp : pc + 3 = pc2) (hw : Cond.classLink own n "ChoirRegister$Book" ∈ Ts) (hx : ¬ x < 0) (hN : x.toNatClampNeg = N) (hb : N * 4 ≤ 536870912) (cs2 : Nat × Nat) (hcs : cs.1 + 1 = cs2.1 ∧ cs.2 + N = cs2.2) (hc1 : cs2.1 ≤ rm.cells ∧ cs2.2 ≤ rm.slots) (d : decode cc pc = .ok (.anewarray n, 3)) (k : ∀ q, Sc E mL Q D A cs2 pc2 ls (.ref q :: st) (ws ++ [(q, .inl (g 3, N, .inr (.inr (.inr (.inr (fun _ => none))))))])) : Sc E mL Q D A cs pc ls (.int x :: st) ws := by
  subst hp; intro a H locs ha hP hD hS
  refine va_newq hG.1.1 hG.1.2.1 hG.1.2.2.2.1 (hG.1.2.2.2.2 _ hw) hG.2.1.2.2.2.2.2 hG.2.1.1 hP hD hS hG.2.1.2.2.1 hx hN hb (by rw [hG.2.1.2.1, hcs.1]; exact hc1.1) (by rw [hG.2.1.2.1, hcs.2]; exact hc1.2) d (fun q cA H1 hK1 hP1 hD1 hS1 => ?_)
  have e : cA = g 3 := ra_o (k_last hK1) (k_at hG.2.1.1).2.2.2.1
  subst e
  rw [hcs.1, hcs.2]
  exact k q a H1 locs ha hP1 hD1 hS1
/-- rows of rows -/
theorem sc_mna (hG : cOk E mL D g A cc own Ts rm) {x y : Int32} {N K n : Nat} (pc2 : Nat) (hp : pc + 4 = pc2) (hw : Cond.classLink own n "[[I" ∈ Ts) (hw2 : Cond.arrayClass .int ∈ Ts) (hx : ¬ x < 0) (hy : ¬ y < 0) (hN : x.toNatClampNeg = N) (hK : y.toNatClampNeg = K) (hb1 : N * 4 ≤ 536870912) (hb2 : K * componentBytes .int ≤ 536870912) (hb3 : K ≤ 536870912) (cs2 : Nat × Nat) (hcs : cs.1 + 1 + N = cs2.1 ∧ cs.2 + N + N * K = cs2.2) (hc1 : cs2.1 ≤ rm.cells ∧ cs2.2 ≤ rm.slots) (d : decode cc pc = .ok (.multianewarray n 2, 4)) (k : ∀ (q : Nat) (r : Nat → Nat), Sc E mL Q D A cs2 pc2 ls (.ref q :: st) ((ws ++ [(q, .inl (g 2, N, .inr (.inr (.inr (.inr (fun i => if i < N then some (r i) else none))))))]) ++ (List.range N).map (fun i => (r i, .inl (g 0, K, .inl (fun _ => 0)))))) : Sc E mL Q D A cs pc ls (.int y :: .int x :: st) ws := by
  subst hp; intro a H locs ha hP hD hS
  refine va_mna (X := ws) (L := []) (f := fun _ => .inl (g 0, 0, .inl (fun _ => 0))) (ty := .int) (cy := g 0) (z := (K, .inl (fun _ => 0))) hG.1.1 hG.1.2.1 hG.1.2.2.2.1 (hG.1.2.2.2.2 _ hw) hG.2.1.2.2.2.2.1 (hG.1.2.2.2.2 _ hw2) (k_at hG.2.1.1).1 hG.2.1.1 (by simpa [va_pl] using hP) (by simpa [va_pl] using hD) hS hG.2.1.2.2.1 hx hy hN hK hb1 hb2 hb3 rfl rfl (by rw [hG.2.1.2.1, ← Nat.add_assoc, hcs.1]; exact hc1.1) (by rw [hG.2.1.2.1, ← Nat.add_assoc, hcs.2]; exact hc1.2) (fun c => inner_i c K) d (fun q r cA H1 hr hL hK1 hP1 hD1 hS1 => ?_)
  have e : cA = g 2 := ra_a (k_last hK1) (k_at hG.2.1.1).2.2.1
  subst e
  rw [hcs.1, hcs.2]
  have e2 : va_pl ([] ++ (List.range N).map r) (vr_up (fun _ => .inl (g 0, 0, .inl (fun _ => 0))) ((List.range N).map r) (.inl (g 0, K, .inl (fun _ => 0)))) = (List.range N).map (fun i => ((r i, .inl (g 0, K, .inl (fun _ => 0))) : Nat × va_E)) := by
    unfold va_pl
    rw [List.nil_append, List.map_map]
    refine List.map_congr_left (fun i hi => ?_)
    show (r i, vr_up _ _ _ (r i)) = _
    unfold vr_up
    rw [if_pos (List.mem_map_of_mem hi)]
  rw [e2] at hP1 hD1
  exact k q r a H1 locs ha hP1 hD1 hS1
theorem sc_aast (hG : cOk E mL D g A cc own Ts rm) {q0 q1 a0 a1 ci N : Nat} {vs : List Value} {f : Nat → Option Nat} {i : Int32} (pc2 : Nat) (hp : pc + 1 = pc2) (he : ws[q0]? = some (a0, .inl (g 3, N, .inr (.inr (.inr (.inr f)))))) (he1 : ws[q1]? = some (a1, .inr (ci, vs))) (hc : vwCl[ci]? = some (RX0, TX0, 10)) (hi : vp_in i N) (d : decode cc pc = .ok (.aastore, 1)) (ws2 : va_W) (hws : ws.set q0 (a0, .inl (g 3, N, .inr (.inr (.inr (.inr (va_up f i.toNatClampNeg (some a1))))))) = ws2) (k : Sc E mL Q D A cs pc2 ls st ws2) : Sc E mL Q D A cs pc ls (.ref a1 :: .int i :: .ref a0 :: st) ws := by
  subst hp hws; intro a H locs ha hP hD hS
  exact va_astq hG.1.1 hG.1.2.1 hG.2.1.1 hP hD hS q0 3 q1 ci he rfl he1 hc hi d (fun H1 locs1 hP1 hD1 hS1 => k a H1 locs1 ha hP1 hD1 hS1)
/-- a constructor's contract: from the fresh object to a list of cells that P tells -/
def CnP (D : va_G) (g : Nat → ClassId) (ci : Nat) (fs : List Value) (h sz : Nat) : State → Prop := fun U => U.heap.size = sz ∧ va_P D vwCl [(h, .inr (ci, fs))] U.heap ∧ va_K D vwCl (jtys g) U ∧ XN U
def CnQ (D : va_G) (P : Nat → va_W → Prop) (h sz : Nat) : Array Value → State → Outcome → State → Prop := fun _ st o t => o = .returned none ∧ (∃ w1, P h w1 ∧ va_P D vwCl w1 t.heap ∧ va_D (fun q => q = h ∨ sz ≤ q) w1) ∧ va_F (fun q => q = h ∨ sz ≤ q) st t
def Cn (l : Launch) (y : MethodName) (wsy : List Cond) (rm : Room) (D : va_G) (g : Nat → ClassId) (ci : Nat) (fs : List Value) (P : Nat → va_W → Prop) : Prop :=
  ∀ h sz : Nat, Met l y wsy rm (va_Pc [.ref h] (CnP D g ci fs h sz)) (CnQ D P h sz) rm.cells rm.slots (fun q => q = h ∨ sz ≤ q)
theorem cn_of {l : Launch} {y : MethodName} {wsy ws' : List Cond} {maxL ci : Nat} {fs : List Value} {P : Nat → va_W → Prop} (hy : plainName y.cls = true) (hw : wsy = Cond.code y cc maxL none :: ws') (hlen : 1 ≤ maxL) (hin : y.name = "<init>")
    (body : ∀ (E : jE) (h : Nat) (Q : State → Prop), cOk E maxL D g (fun q => q = h ∨ E.2.2.2.2.1.heap.size ≤ q) cc y.cls wsy rm → E.2.1 = l → (Q = MQ E.2.2.2.2.2.2.2.1 (CnQ D P h E.2.2.2.2.1.heap.size) E.2.2.2.2.2.2.1 E.2.2.2.2.1 rm.cells rm.slots (fun q => q = h ∨ E.2.2.2.2.1.heap.size ≤ q)) → Sc E maxL Q D (fun q => q = h ∨ E.2.2.2.2.1.heap.size ≤ q) (0, 0) 0 [(0, .ref h)] [] [(h, .inr (ci, fs))]) : Cn l y wsy rm D g ci fs P := by
  intro h sz
  refine Met.ofW (cc := cc) (maxL := maxL) (ret := none) hy hw ?_
  intro p e s m args' below meth c s₁ B hml hv
  obtain ⟨rfl, hsz, hP, hK, hX⟩ := hv
  subst hsz
  have hl := lv_entry [.ref h] (n := maxL) hlen
  have hn : meth.name = "<init>" := (name_of_methodNamed B.named B.method).1.trans hin
  have hD : va_D (fun q => q = h ∨ s.heap.size ≤ q) [(h, (Sum.inr (ci, fs) : va_E))] := ⟨fun i j x y hi hj _ => by
      have := (List.getElem?_eq_some_iff.mp hi).1
      have := (List.getElem?_eq_some_iff.mp hj).1
      simp at *
      omega, fun i q hq => by
      have h1 := (List.getElem?_eq_some_iff.mp hq).1
      have h2 : i = 0 := by simp at h1; omega
      subst h2
      cases hq
      exact Or.inl rfl⟩
  have k := body (p, l, e, (headSpec wsy rm).room, s, m, [Value.ref h].toArray, below, meth, c) h _
    ⟨⟨B.exec, B.bytes, hml, findClass_of_methodNamed B.named, atoms_spec (ws := wsy) B.pre⟩, ⟨hK, rfl, fun q hq => Or.inr hq, hX⟩, hn, B.returns, B.notSynchronized⟩ rfl rfl _ s.heap [] hl hP hD va_S.rf
  rw [lg_entry_eq]
  exact k
theorem sc_ret {P : Nat → va_W → Prop} {h : Nat} (hG : cOk E mL D g (fun q => q = h ∨ E.2.2.2.2.1.heap.size ≤ q) cc own Ts rm) (hQ : Q = MQ E.2.2.2.2.2.2.2.1 (CnQ D P h E.2.2.2.2.1.heap.size) E.2.2.2.2.2.2.1 E.2.2.2.2.1 rm.cells rm.slots (fun q => q = h ∨ E.2.2.2.2.1.heap.size ≤ q)) (hc : cs.1 ≤ rm.cells ∧ cs.2 ≤ rm.slots) (d : decode cc pc = .ok (.return_, 1)) (hP0 : P h ws) : Sc E mL Q D (fun q => q = h ∨ E.2.2.2.2.1.heap.size ≤ q) cs pc ls [] ws := by
  intro a H locs ha hP hD hS
  rw [hQ]
  refine W.widen hc.1 hc.2 (W.vret hG.1.1 hG.1.2.1 hG.2.2.2.1 (fun t ht hW => ⟨rfl, ⟨ws, hP0, by rw [ht]; exact hP, hD⟩, hS.F ht⟩) hS.2.2 d hG.2.2.2.2)
/-- what came back beside the rest -/
theorem jw {wr w1 : va_W} {q : Nat} {e0 : va_E} {H H1 : Heap} {A : Nat → Prop} (hP : va_P D vwCl (wr ++ [(q, e0)]) H) (hD : va_D A (wr ++ [(q, e0)])) (hk : ∀ x : Nat, x < H.size → ¬ (x = q ∨ H.size ≤ x) → H1[x]? = H[x]?) (hP1 : va_P D vwCl w1 H1) (hD1 : va_D (fun x => x = q ∨ H.size ≤ x) w1) (hA : ∀ x, H.size ≤ x → A x) : va_P D vwCl (wr ++ w1) H1 ∧ va_D A (wr ++ w1) := by
  have hq : (wr ++ [(q, e0)])[wr.length]? = some (q, e0) := by rw [List.getElem?_append_right (Nat.le_refl _), Nat.sub_self]; rfl
  have hAq : A q := hD.2 _ _ hq
  have old : ∀ (i : Nat) (x : Nat × va_E), wr[i]? = some x → (wr ++ [(q, e0)])[i]? = some x ∧ x.1 ≠ q ∧ x.1 < H.size := fun i x hi => by
    have hlt := (List.getElem?_eq_some_iff.mp hi).1
    have h1 : (wr ++ [(q, e0)])[i]? = some x := by rw [List.getElem?_append_left hlt]; exact hi
    refine ⟨h1, fun e => ?_, (hP i x h1).lt⟩
    have := hD.1 i wr.length x (q, e0) h1 hq e
    omega
  refine ⟨fun i x hi => ?_, fun i j x y hi hj hxy => ?_, fun i x hi => ?_⟩
  · by_cases h : i < wr.length
    · rw [List.getElem?_append_left h] at hi
      obtain ⟨g1, g2, g3⟩ := old i x hi
      exact (hP i x g1).kept (hk _ g3 (fun z => z.elim g2 (fun z => by omega)))
    · rw [List.getElem?_append_right (by omega)] at hi
      exact hP1 _ x hi
  · by_cases h : i < wr.length
    · rw [List.getElem?_append_left h] at hi
      obtain ⟨g1, g2, g3⟩ := old i x hi
      by_cases h' : j < wr.length
      · rw [List.getElem?_append_left h'] at hj
        exact hD.1 i j x y g1 (old j y hj).1 hxy
      · rw [List.getElem?_append_right (by omega)] at hj
        rcases hD1.2 _ y hj with z | z
        · exact absurd (hxy.trans z) g2
        · omega
    · rw [List.getElem?_append_right (by omega)] at hi
      by_cases h' : j < wr.length
      · rw [List.getElem?_append_left h'] at hj
        obtain ⟨g1, g2, g3⟩ := old j y hj
        rcases hD1.2 _ x hi with z | z
        · exact absurd (hxy.symm.trans z) g2
        · omega
      · rw [List.getElem?_append_right (by omega)] at hj
        have := hD1.1 _ _ x y hi hj hxy
        omega
  · by_cases h : i < wr.length
    · rw [List.getElem?_append_left h] at hi
      exact hD.2 i x (old i x hi).1
    · rw [List.getElem?_append_right (by omega)] at hi
      rcases hD1.2 _ x hi with z | z
      · rw [z]; exact hAq
      · exact hA _ z
theorem sc_call (hG : cOk E mL D g A cc own Ts rm) {y : MethodName} {wsy ws' : List Cond} {bytes : ByteArray} {maxL index ci : Nat} {rmc : Room} {fs : List Value} {P : Nat → va_W → Prop} {host : String} {wr : va_W} {q : Nat} (pc2 : Nat) (hp : pc + 3 = pc2) (hws : ws = wr ++ [(q, .inr (ci, fs))]) (hM : Cn E.2.1 y wsy rmc D g ci fs P) (hN : .methodLinkNest own index y host ∈ nestW) (hT : GoodIn Ts wsy) (hini : Cond.initialized y.cls ∈ Ts) (hin : Cond.instanceMethod y ∈ Ts) (hw : wsy = Cond.code y bytes maxL none :: ws') (hd : y.cls ≠ "java/lang/invoke/MethodHandle" ∧ y.cls ≠ "java/lang/invoke/VarHandle" ∧ (parseMethodDescriptor y.desc).map (fun d => d.parameters.length) = some 0) (hnm : y.name = "<init>") (hRm : rmc.frames + 1 ≤ rm.frames ∧ 8 + (maxL + 11) + rmc.locals ≤ rm.locals) (hst : (st.map fun v => v.category).sum ≤ 8) (cs2 : Nat × Nat) (hz : cs.1 + rmc.cells = cs2.1 ∧ cs.2 + rmc.slots = cs2.2) (hcs : cs2.1 ≤ rm.cells ∧ cs2.2 ≤ rm.slots) (d : decode cc pc = .ok (.invokespecial index, 3))
    (k : ∀ w1, P q w1 → Sc E mL Q D A cs2 pc2 ls st (wr ++ w1)) : Sc E mL Q D A cs pc ls (.ref q :: st) ws := by
  subst hp hws
  intro a H locs ha hP hD hS
  have h8 : E.2.2.2.1 = rm := hG.2.1.2.1
  have hAq : A q := hD.2 wr.length (q, .inr (ci, fs)) (by rw [List.getElem?_append_right (Nat.le_refl _), Nat.sub_self]; rfl)
  have hPq : va_P D vwCl [(q, .inr (ci, fs))] H := fun i x hx => hP (wr.length + i) x (by rw [List.getElem?_append_right (Nat.le_add_right _ _), Nat.add_sub_cancel_left]; exact hx)
  have hAH : ∀ x, H.size ≤ x → A x := fun x hx => hG.2.1.2.2.1 x (Nat.le_trans hS.1 hx)
  have hfr : ∀ x, (x = q ∨ H.size ≤ x) → A x := fun x hx => hx.elim (fun e => by rw [e]; exact hAq) (hAH x)
  have hrun := va_runIN (e := E.2.2.1) (below := E.2.2.2.2.2.2.2.1) (meth := E.2.2.2.2.2.2.2.2.1) (R := E.2.2.2.1) (cells := cs.1) (slots := cs.2) (locs := locs) (H := H) (g := F0 E.2.2.2.2.2.1 pc a (.ref q :: st)) (As := []) (rest := st) ⟨hG.1.1, hG.1.2.1, hG.1.2.2.1, hG.1.2.2.2.1, hG.1.2.2.2.2⟩ (hM q H.size) ⟨va_cnB 0 hG.1.2.2.2.2 hT hw rfl rfl (hG.2.1.2.2.2.1 _ hN) (hG.1.2.2.2.2 _ hini) hd (by rw [h8]; exact hRm), hnm, hG.1.2.2.2.2 _ hin⟩
    ⟨fun a U g mk z => by obtain ⟨q0, q1, qP, qK, qX⟩ := z; exact ⟨q0, q1, qP, va_K.moved (u := U) (U := U.calling g mk a) (Vm.Alike.refl U.vm) qK, XN_same (u := U) rfl qX⟩, fun U hU hW => ⟨rfl, by rw [hU], by rw [hU]; exact hPq, va_K.moved hW.alike hG.2.1.1, XN_warm hW hG.2.1.2.2.2⟩⟩ rfl rfl ha.1 rfl (lv_room hst) d (by rw [hz.1, hz.2, h8]; exact hcs)
  intro T hT X
  obtain ⟨v, st₀, t, T', L, h0, X', hL, e1, e2, ⟨hv, ⟨w1, p1, p2, p3⟩, hzz, hk⟩, stp⟩ := hrun T hT X
  cases hv
  rw [h0] at hzz hk
  obtain ⟨j1, j2⟩ := jw (H1 := T'.heap) hP hD (fun x hx hn => by rw [e1]; exact hk x hx hn) (by rw [e1]; exact p2) p3 hAH
  rw [hz.1, hz.2] at X'
  obtain ⟨t2, a1, b1⟩ := k w1 p1 a T'.heap (locs ++ L) ha j1 j2 ⟨Nat.le_trans hS.1 (by rw [e1]; exact hzz), fun x h1 h2 => by
      rw [e1, hk x (Nat.lt_of_lt_of_le h1 hS.1) (fun z => h2 (hfr x z))]
      exact hS.2.1 x h1 h2, fun x hx => by
      rcases List.mem_append.mp hx with h | h
      · exact hS.2.2 x h
      · exact hfr _ (hL x h)⟩ T' rfl X'
  exact ⟨t2, stp t2 a1, b1⟩
end SC
