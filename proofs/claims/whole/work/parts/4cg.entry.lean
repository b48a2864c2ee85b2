/-! THE LAW FROM ITS ENTRY -/
def cO2 (E : jE) (mL : Nat) (D : va_G) (g : Nat → ClassId) (A : Nat → Prop) (cc : ByteArray) (own : String) (Ts : List Cond) (rm : Room) : Prop :=
  (E.1.tables.exec = Jvm.exec ∧ E.2.2.2.2.2.2.2.2.2.code = cc ∧ E.2.2.2.2.2.2.2.2.2.maxLocals = mL ∧ E.2.2.2.2.1.vm.findClass own = some E.2.2.2.2.2.1.cls ∧ ∀ w ∈ Ts, w.before E.2.2.2.2.2.2.1 E.2.2.2.2.1 = true) ∧
  (va_K D vwCl (jtys g) E.2.2.2.2.1 ∧ E.2.2.2.1 = rm ∧ (∀ q, E.2.2.2.2.1.heap.size ≤ q → A q) ∧ XN E.2.2.2.2.1) ∧ True
section SD
variable {E : jE} {mL : Nat} {Q : State → Prop} {D : va_G} {g : Nat → ClassId} {A : Nat → Prop} {cs : Nat × Nat} {pc : Nat} {ls : List (Nat × Value)} {st : List Value} {ws : va_W} {cc : ByteArray} {own : String} {Ts : List Cond} {rm : Room}
theorem sd_iconst (hG : cO2 E mL D g A cc own Ts rm) {n : Int} {x : Int32} (pc2 : Nat) (hp : pc + 1 = pc2) (d : decode cc pc = .ok (.iconst n, 1)) (hv : Int32.ofInt n = x) (k : Sc E mL Q D A cs pc2 ls (.int x :: st) ws) : Sc E mL Q D A cs pc ls st ws := by
  subst hp; intro a H locs ha hP hD hS; exact lv_iconst hG.1.1 hG.1.2.1 d hv (k a H locs ha hP hD hS)
theorem sd_dup (hG : cO2 E mL D g A cc own Ts rm) {x : Value} (pc2 : Nat) (hp : pc + 1 = pc2) (d : decode cc pc = .ok (.dup, 1)) (hc : x.category = 1) (k : Sc E mL Q D A cs pc2 ls (x :: x :: st) ws) : Sc E mL Q D A cs pc ls (x :: st) ws := by
  subst hp; intro a H locs ha hP hD hS; exact lv_dup hG.1.1 hG.1.2.1 d hc (k a H locs ha hP hD hS)
theorem sd_new (hG : cO2 E mL D g A cc own Ts rm) {n ci N : Nat} {C : String} {T : u_T} {fs : List Value} (ty0 : Nat → FieldType) (pc2 : Nat) (hp : pc + 3 = pc2) (hc : vwCl[ci]? = some (C, T, N)) (hin : ∀ w ∈ u_ws C T N, w ∈ Ts) (hty : ∀ k, k < N → parseFieldDescriptor (T k).2.2.1 = some (ty0 k)) (h1 : Cond.classLink own n C ∈ Ts) (h2 : Cond.instantiable C N ∈ Ts) (h3 : Cond.initialized C ∈ Ts) (hfs : ∀ j, j < N → defaultValue (ty0 j) = vp_V fs j) (cs2 : Nat × Nat) (hcs : cs.1 + 1 = cs2.1 ∧ cs.2 + N = cs2.2) (hc1 : cs2.1 ≤ rm.cells ∧ cs2.2 ≤ rm.slots) (d : decode cc pc = .ok (.new n, 3)) (k : ∀ q, Sc E mL Q D A cs2 pc2 ls (.ref q :: st) (ws ++ [(q, .inr (ci, fs))])) : Sc E mL Q D A cs pc ls st ws := by
  subst hp; intro a H locs ha hP hD hS
  refine va_new hG.1.1 hG.1.2.1 hG.1.2.2.2.2 hin ty0 hty hG.1.2.2.2.1 (hG.1.2.2.2.2 _ h1) (hG.1.2.2.2.2 _ h2) (hG.1.2.2.2.2 _ h3) hG.2.1.1 hP hD hS hG.2.1.2.2.1 hc hfs (by rw [hG.2.1.2.1, hcs.1]; exact hc1.1) (by rw [hG.2.1.2.1, hcs.2]; exact hc1.2) d (fun q H1 hP1 hD1 hS1 => ?_)
  rw [hcs.1, hcs.2]
  exact k q a H1 locs ha hP1 hD1 hS1
theorem sd_astore (hG : cO2 E mL D g A cc own Ts rm) {q : Fin 4} {i x : Nat} (pc2 : Nat) (hp : pc + 1 = pc2) (d : decode cc pc = .ok (.astore_n q, 1)) (hi : (q : Nat) = i) (hn : i < mL) (ls2 : List (Nat × Value)) (hl : (i, Value.ref x) :: ls.filter (fun q => !(q.1 == i) && !(q.1 + 1 == i && q.2.category == 2)) = ls2) (k : Sc E mL Q D A cs pc2 ls2 st ws) : Sc E mL Q D A cs pc ls (.ref x :: st) ws := by
  subst hp; intro a H locs ha hP hD hS; exact lv_astore_n hG.1.1 hG.1.2.1 d hi ha hn hl (fun a2 ha2 => k a2 H locs ha2 hP hD hS)
theorem sd_istore (hG : cO2 E mL D g A cc own Ts rm) {i : Nat} {x : Int32} (pc2 : Nat) (hp : pc + 2 = pc2) (d : decode cc pc = .ok (.istore i, 2)) (hn : i < mL) (ls2 : List (Nat × Value)) (hl : (i, Value.int x) :: ls.filter (fun q => !(q.1 == i) && !(q.1 + 1 == i && q.2.category == 2)) = ls2) (k : Sc E mL Q D A cs pc2 ls2 st ws) : Sc E mL Q D A cs pc ls (.int x :: st) ws := by
  subst hp; intro a H locs ha hP hD hS; exact lv_istore hG.1.1 hG.1.2.1 d ha hn hl (fun a2 ha2 => k a2 H locs ha2 hP hD hS)
theorem sd_newl (hG : cO2 E mL D g A cc own Ts rm) {x : Int32} {N : Nat} (pc2 : Nat) (hp : pc + 2 = pc2) (hw : Cond.arrayClass .long ∈ Ts) (hx : ¬ x < 0) (hN : x.toNatClampNeg = N) (hb : N * componentBytes .long ≤ 536870912) (cs2 : Nat × Nat) (hcs : cs.1 + 1 = cs2.1 ∧ cs.2 + N = cs2.2) (hc1 : cs2.1 ≤ rm.cells ∧ cs2.2 ≤ rm.slots) (d : decode cc pc = .ok (.newarray .long, 2)) (k : ∀ q, (∀ (i : Nat) (x : Nat × va_E), ws[i]? = some x → x.1 < q) → Sc E mL Q D A cs2 pc2 ls (.ref q :: st) (ws ++ [(q, .inl (g 4, N, .inr (.inl (fun _ => 0))))])) : Sc E mL Q D A cs pc ls (.int x :: st) ws := by
  subst hp; intro a H locs ha hP hD hS
  refine va_newaK (atype := .long) hG.1.1 hG.1.2.1 (hG.1.2.2.2.2 _ hw) rfl d rfl hx hN hb (by rw [hG.2.1.2.1, hcs.1]; exact hc1.1) (by rw [hG.2.1.2.1, hcs.2]; exact hc1.2) (h := H.size) rfl (fun H1 cA e1 z1 o1 hAr hNm => ?_)
  have hcA : cA = g 4 := Option.some.inj ((show E.2.2.2.2.1.vm.findClass _ = some cA from hNm).symm.trans (k_at hG.2.1.1).2.2.2.2)
  subst hcA
  have hk : ∀ (i : Nat) (x : Nat × va_E), ws[i]? = some x → H1[x.1]? = H[x.1]? := fun i x hx => o1 x.1 ((hP i x hx).lt)
  rw [hcs.1, hcs.2]
  refine k H.size (fun i x hx => (hP i x hx).lt) a H1 locs ha ((hP.kept hk).app (fun i x hx => ?_)) (hD.push hP rfl (hG.2.1.2.2.1 _ hS.1)) ⟨Nat.le_trans hS.1 (by omega), fun x h1 h2 => (o1 x (Nat.lt_of_lt_of_le h1 hS.1)).trans (hS.2.1 x h1 h2), hS.2.2⟩
  have hz : i < 1 := (List.getElem?_eq_some_iff.mp hx).1
  rw [show i = 0 by omega] at hx
  cases hx
  exact e1
theorem sd_call (hG : cO2 E mL D g A cc own Ts rm) {y : MethodName} {wsy ws' : List Cond} {bytes : ByteArray} {maxL index ci : Nat} {rmc : Room} {fs : List Value} {P : Nat → va_W → Prop} {wr : va_W} {q : Nat} (pc2 : Nat) (hp : pc + 3 = pc2) (hws : ws = wr ++ [(q, .inr (ci, fs))]) (hM : Cn E.2.1 y wsy rmc D g ci fs P) (hN : Cond.methodLink own index y ∈ Ts) (hT : GoodIn Ts wsy) (hini : Cond.initialized y.cls ∈ Ts) (hin : Cond.instanceMethod y ∈ Ts) (hw : wsy = Cond.code y bytes maxL none :: ws') (hd : y.cls ≠ "java/lang/invoke/MethodHandle" ∧ y.cls ≠ "java/lang/invoke/VarHandle" ∧ (parseMethodDescriptor y.desc).map (fun d => d.parameters.length) = some 0) (hnm : y.name = "<init>") (hRm : rmc.frames + 1 ≤ rm.frames ∧ 8 + (maxL + 11) + rmc.locals ≤ rm.locals) (hst : (st.map fun v => v.category).sum ≤ 8) (cs2 : Nat × Nat) (hz : cs.1 + rmc.cells = cs2.1 ∧ cs.2 + rmc.slots = cs2.2) (hcs : cs2.1 ≤ rm.cells ∧ cs2.2 ≤ rm.slots) (d : decode cc pc = .ok (.invokespecial index, 3))
    (k : ∀ w1, P q w1 → Sc E mL Q D A cs2 pc2 ls st (wr ++ w1)) : Sc E mL Q D A cs pc ls (.ref q :: st) ws := by
  subst hp hws
  intro a H locs ha hP hD hS
  have h8 : E.2.2.2.1 = rm := hG.2.1.2.1
  have hAq : A q := hD.2 wr.length (q, .inr (ci, fs)) (by rw [List.getElem?_append_right (Nat.le_refl _), Nat.sub_self]; rfl)
  have hPq : va_P D vwCl [(q, .inr (ci, fs))] H := fun i x hx => hP (wr.length + i) x (by rw [List.getElem?_append_right (Nat.le_add_right _ _), Nat.add_sub_cancel_left]; exact hx)
  have hAH : ∀ x, H.size ≤ x → A x := fun x hx => hG.2.1.2.2.1 x (Nat.le_trans hS.1 hx)
  have hfr : ∀ x, (x = q ∨ H.size ≤ x) → A x := fun x hx => hx.elim (fun e => by rw [e]; exact hAq) (hAH x)
  have hrun := va_runI (e := E.2.2.1) (below := E.2.2.2.2.2.2.2.1) (meth := E.2.2.2.2.2.2.2.2.1) (R := E.2.2.2.1) (cells := cs.1) (slots := cs.2) (locs := locs) (H := H) (g := F0 E.2.2.2.2.2.1 pc a (.ref q :: st)) (As := []) (rest := st) ⟨hG.1.1, hG.1.2.1, hG.1.2.2.1, hG.1.2.2.2.1, hG.1.2.2.2.2⟩ (hM q H.size) (cwI 0 hG.1.2.2.2.2 hT hw rfl rfl (hG.1.2.2.2.2 _ hini) (hG.1.2.2.2.2 _ hN) (hG.1.2.2.2.2 _ hin) hnm hd (by rw [h8]; exact hRm))
    ⟨fun a U g mk z => by obtain ⟨q0, q1, qP, qK, qX⟩ := z; exact ⟨q0, q1, qP, va_K.moved (u := U) (U := U.calling g mk a) (Vm.Alike.refl U.vm) qK, XN_same (u := U) rfl qX⟩, fun U hU hW => ⟨rfl, by rw [hU], by rw [hU]; exact hPq, va_K.moved hW.alike hG.2.1.1, XN_warm hW hG.2.1.2.2.2⟩⟩ rfl rfl ha.1 rfl (lv_room hst) d (by rw [hz.1, hz.2, h8]; exact hcs)
  intro T hT X
  obtain ⟨v, st₀, t, T', L, h0, X', hL, e1, e2, ⟨hv, ⟨w1, p1, p2, p3⟩, hzz, hk⟩, stp⟩ := hrun T hT X
  cases hv
  rw [h0] at hzz hk
  obtain ⟨j1, j2⟩ := jw (H1 := T'.heap) hP hD (fun x hx hn => by rw [e1]; exact hk x hx hn) (by rw [e1]; exact p2) p3 hAH
  rw [hz.1, hz.2] at X'
  obtain ⟨t2, a1, b1⟩ := k w1 p1 a T'.heap (locs ++ L) ha j1 j2 ⟨Nat.le_trans hS.1 (by rw [e1]; exact hzz), fun x h1 h2 => by
      rw [e1, hk x (Nat.lt_of_lt_of_le h1 hS.1) (fun z => h2 (hfr x z))]
      exact hS.2.1 x h1 h2, fun x hx => by
      rcases List.mem_append.mp hx with h | h
      · exact hS.2.2 x h
      · exact hfr _ (hL x h)⟩ T' rfl X'
  exact ⟨t2, stp t2 a1, b1⟩
end SD
