/-! METHODS WITH HANDLERS, LONGS, CALLS OF THE LAW'S OWN METHODS -/
/-- pairs of classes that the law's handlers tell apart -/
def ncW : List (String × String) := [(exN 1, exN 2), (exN 1, exN 3), (exN 2, exN 1), (exN 2, exN 3), (exN 3, exN 1), (exN 3, exN 2)]
theorem met_mono {l : Launch} {y : MethodName} {ws : List Cond} {rm : Room} {P P' : Array Value → State → Prop} {Q Q' : Array Value → State → Outcome → State → Prop} {mc ms : Nat} {A A' : Addr → Prop} (hM : Met l y ws rm P Q mc ms A) (hP : ∀ a U, P' a U → P a U) (hQ : ∀ a st o t, P' a st → Q a st o t → Q' a st o t) (hA : ∀ q, A q → A' q) : Met l y ws rm P' Q' mc ms A' := by
  intro p e h1 h2 h3 s m args below hfr happ hp hk
  obtain ⟨n, o, a1, a2, a3, a4, L, b1, b2⟩ := hM p e h1 h2 h3 s m args below hfr happ (hP _ _ hp) hk
  exact ⟨n, o, a1, a2, a3, hQ _ _ _ _ hp a4, L, b1, fun q hq => hA _ (b2 q hq)⟩
theorem vx_mono {l : Launch} {y : MethodName} {ws : List Cond} {rm : Room} {P P' : Array Value → State → Prop} {Q Q' : Array Value → State → Outcome → State → Prop} {X X' : String → State → State → Prop} {mc ms : Nat} {A A' : Addr → Prop} (hM : vx_Met l y ws rm P Q X mc ms A) (hP : ∀ a U, P' a U → P a U) (hQ : ∀ a st o t, P' a st → Q a st o t → Q' a st o t) (hX : ∀ a E st t, P' a st → X E st t → X' E st t) (hA : ∀ q, A q → A' q) : vx_Met l y ws rm P' Q' X' mc ms A' := by
  intro p e h1 h2 h3 s m args below hfr happ hp hk
  obtain ⟨n, o, a1, a2, a3, a4⟩ := hM p e h1 h2 h3 s m args below hfr happ (hP _ _ hp) hk
  refine ⟨n, o, a1, a2, a3, ?_⟩
  rcases a4 with ⟨q, L, b1, b2⟩ | ⟨q, ho, E, ce, L, x1, x2, x3, x4, x5, x6, x7⟩
  · exact Or.inl ⟨hQ _ _ _ _ hp q, L, b1, fun z hz => hA _ (b2 z hz)⟩
  · exact Or.inr ⟨q, ho, E, ce, L, hX _ E s _ hp x1, x2, x3, x4, x5, x6, fun z hz => hA _ (x7 z hz)⟩
theorem faceW_warm {u U : State} (hW : u.WarmedH U.vm) (h : ∀ w ∈ faceW, va_Nw w u) : ∀ w ∈ faceW, va_Nw w U := fun w hw => Cond.onTables_warmFace (args' := #[]) (T := U) (vm₁ := U.vm) hW (faceW_ot w hw) (faceW_kf w hw) (h w hw)
theorem XCC_keep {A : Nat → Prop} {u U : State} {H H1 : Heap} (hW : u.WarmedH U.vm) (hq : ∀ q : Nat, q < H.size → ¬ A q → H1[q]? = H[q]?) (h : XCC A u H) : XCC A U H1 := by
  obtain ⟨⟨h1, h2, h3⟩, ⟨⟨a1, r1⟩, ⟨a2, r2⟩, ⟨a3, r3⟩⟩, ⟨⟨t1, z1, y1⟩, ⟨t2, z2, y2⟩, ⟨t3, z3, y3⟩⟩, ⟨adK, adV, s1, s2, s3⟩, z4, tS, z5⟩ := h
  have hv := hW.alike
  exact ⟨⟨(h1.moved hv).kept hq, (h2.moved hv).kept hq, faceW_warm hW h3⟩, ⟨⟨a1, r1.warm hW⟩, ⟨a2, r2.warm hW⟩, ⟨a3, r3.warm hW⟩⟩, ⟨⟨t1, (z1.moved hv).kept hq, (y1.moved hv).kept hq⟩, ⟨t2, (z2.moved hv).kept hq, (y2.moved hv).kept hq⟩, ⟨t3, (z3.moved hv).kept hq, (y3.moved hv).kept hq⟩⟩, ⟨adK, adV, (s1.moved hv).kept hq, s2.warm hW, s3.warm hW⟩, (z4.moved hv).kept hq, tS, z5.1, (z5.2.moved hv).kept hq⟩
theorem XCC_narrow {A B : Nat → Prop} {U : State} {H : Heap} (hAB : ∀ q, B q → A q) (h : XCC A U H) : XCC B U H := by
  obtain ⟨⟨h1, h2, h3⟩, hR, ⟨⟨t1, z1, y1⟩, ⟨t2, z2, y2⟩, ⟨t3, z3, y3⟩⟩, ⟨adK, adV, s1, s2, s3⟩, z4, tS, z5⟩ := h
  exact ⟨⟨h1.narrow hAB, h2.narrow hAB, h3⟩, hR, ⟨⟨t1, z1.narrow hAB, y1.narrow hAB⟩, ⟨t2, z2.narrow hAB, y2.narrow hAB⟩, ⟨t3, z3.narrow hAB, y3.narrow hAB⟩⟩, ⟨adK, adV, s1.narrow hAB, s2, s3⟩, z4.narrow hAB, tS, z5.1, z5.2.narrow hAB⟩
section JH
variable {κ ρ : Type} {Γ : jG ρ} {Λ : jL κ} {cs : Nat × Nat} {pc : Nat} {ls : List (Nat × Value)} {st : List Value} {v v' : κ → Nat → Int32} {ex : Option ρ} {cc : ByteArray} {own : String} {Ts : List Cond} {rm : Room} {hh : List (Nat × Nat × Nat × Nat)}
theorem sl_i2l (hG : jOk Γ Λ cc own Ts rm) {x : Int32} (pc2 : Nat) (hp : pc + 1 = pc2) (d : decode cc pc = .ok (.i2l, 1)) (k : Sm Γ Λ cs pc2 ls (.long x.toInt64 :: st) v ex) : Sm Γ Λ cs pc ls (.int x :: st) v ex := by
  subst hp; intro r hr a H locs ha hR hS; exact lv_i2l hG.1 hG.2.1 d rfl (k r hr a H locs ha hR hS)
theorem sl_lconst (hG : jOk Γ Λ cc own Ts rm) {n : Fin 2} (x : Int64) (pc2 : Nat) (hp : pc + 1 = pc2) (d : decode cc pc = .ok (.lconst n, 1)) (hx : Int64.ofNat n = x) (k : Sm Γ Λ cs pc2 ls (.long x :: st) v ex) : Sm Γ Λ cs pc ls st v ex := by
  subst hp; intro r hr a H locs ha hR hS; exact lv_lconst hG.1 hG.2.1 d hx (k r hr a H locs ha hR hS)
theorem sl_eq (hG : jOk Γ Λ cc own Ts rm) {x : Int32} {off : Int} (tgt pc2 : Nat) (hp : pc + 3 = pc2) (d : decode cc pc = .ok (.ifCond .eq off, 3)) (ht : (pc : Int) + off = (tgt : Int)) (k1 : x = 0 → Sm Γ Λ cs tgt ls st v ex) (k2 : ¬ x = 0 → Sm Γ Λ cs pc2 ls st v ex) : Sm Γ Λ cs pc ls (.int x :: st) v ex := by
  subst hp; intro r hr a H locs ha hR hS; exact lv_if_eq hG.1 hG.2.1 d ht (fun q => k1 q r hr a H locs ha hR hS) (fun q => k2 q r hr a H locs ha hR hS)
theorem sl_ne (hG : jOk Γ Λ cc own Ts rm) {x : Int32} {off : Int} (tgt pc2 : Nat) (hp : pc + 3 = pc2) (d : decode cc pc = .ok (.ifCond .ne off, 3)) (ht : (pc : Int) + off = (tgt : Int)) (k1 : ¬ x = 0 → Sm Γ Λ cs tgt ls st v ex) (k2 : x = 0 → Sm Γ Λ cs pc2 ls st v ex) : Sm Γ Λ cs pc ls (.int x :: st) v ex := by
  subst hp; intro r hr a H locs ha hR hS; exact lv_if_ne hG.1 hG.2.1 d ht (fun q => k1 q r hr a H locs ha hR hS) (fun q => k2 q r hr a H locs ha hR hS)
theorem sl_ieq (hG : jOk Γ Λ cc own Ts rm) {x y : Int32} {off : Int} (tgt : Nat) (h : x = y) (d : decode cc pc = .ok (.if_icmp .eq off, 3)) (ht : (pc : Int) + off = (tgt : Int)) (k : Sm Γ Λ cs tgt ls st v ex) : Sm Γ Λ cs pc ls (.int y :: .int x :: st) v ex := by
  intro r hr a H locs ha hR hS; exact lv_icmp_eq hG.1 hG.2.1 d ht (fun q => k r hr a H locs ha hR hS) (fun q => absurd h q)
theorem sl_igt (hG : jOk Γ Λ cc own Ts rm) {x y : Int32} {off : Int} (tgt pc2 : Nat) (hp : pc + 3 = pc2) (d : decode cc pc = .ok (.if_icmp .gt off, 3)) (ht : (pc : Int) + off = (tgt : Int)) (k1 : y < x → Sm Γ Λ cs tgt ls st v ex) (k2 : ¬ y < x → Sm Γ Λ cs pc2 ls st v ex) : Sm Γ Λ cs pc ls (.int y :: .int x :: st) v ex := by
  subst hp; intro r hr a H locs ha hR hS; exact lv_icmp_gt hG.1 hG.2.1 d ht (fun q => k1 q r hr a H locs ha hR hS) (fun q => k2 q r hr a H locs ha hR hS)
theorem sl_last (hG : jOk Γ Λ cc own Ts rm) {n : Nat} {f : Nat → Int64} {i : Int32} {x : Int64} (key : κ) (pc2 : Nat) (hp : pc + 1 = pc2) (hi : vp_in i n) (hok : Λ.2.2.1 key) (he : Λ.2.2.2.2.1 key (v key) = .inl (Λ.2.1 4, n, .inr (.inl f))) (d : decode cc pc = .ok (.lastore, 1)) (v2 : κ → Nat → Int32) (hv : ∀ k, Λ.2.2.1 k → k ≠ key → Λ.2.2.2.2.1 k (v2 k) = Λ.2.2.2.2.1 k (v k)) (he2 : Λ.2.2.2.2.1 key (v2 key) = .inl (Λ.2.1 4, n, .inr (.inl (vp_updL f (ix i) x)))) (k : Sm Γ Λ cs pc2 ls st v2 ex) : Sm Γ Λ cs pc ls (.long x :: .int i :: .ref (Λ.2.2.2.1 key) :: st) v ex := by
  subst hp; intro r hr a H locs ha hR hS
  obtain ⟨ks, q0, hP, hD, hq, -, back⟩ := rp_list hG.2.2.2.2.2.2.1 hR hok
  rw [he] at hq
  refine va_last hG.1 hG.2.1 hG.2.2.2.2.2.1 hP hD hS q0 4 hq rfl hi d (fun H1 locs1 hP1 _ hS1 => ?_)
  rw [← he2] at hP1
  exact k r hr a H1 locs1 ha (back v2 H1 hv hP1) hS1
theorem sl_lald (hG : jOk Γ Λ cc own Ts rm) {n : Nat} {f : Nat → Int64} {i : Int32} (key : κ) (pc2 : Nat) (hp : pc + 1 = pc2) (hi : vp_in i n) (hok : Λ.2.2.1 key) (he : Λ.2.2.2.2.1 key (v key) = .inl (Λ.2.1 4, n, .inr (.inl f))) (d : decode cc pc = .ok (.laload, 1)) (k : Sm Γ Λ cs pc2 ls (.long (f (ix i)) :: st) v ex) : Sm Γ Λ cs pc ls (.int i :: .ref (Λ.2.2.2.1 key) :: st) v ex := by
  subst hp; intro r hr a H locs ha hR hS
  exact va_lald hG.1 hG.2.1 hG.2.2.2.2.2.1 (rp_one hR hok he) 0 4 rfl rfl hi d (k r hr a H locs ha hR hS)
/-- a contract of a method that catches what is thrown -/
def CwQ (Λ : jL κ) (ov : Option Value) (v' : κ → Nat → Int32) : Array Value → State → Outcome → State → Prop := fun _ st o t => o = .returned ov ∧ Rp Λ v' t.heap ∧ va_F Λ.2.2.2.2.2.1 st t
def Cw (l : Launch) (y : MethodName) (ws : List Cond) (rm : Room) (Λ : jL κ) (args : List Value) (v : κ → Nat → Int32) (ov : Option Value) (v' : κ → Nat → Int32) : Prop :=
  vx_Met l y ws rm (va_Pc args (St Λ v)) (CwQ Λ ov v') (fun _ _ _ => False) rm.cells rm.slots Λ.2.2.2.2.2.1
def jHx (Γ : jG ρ) (Λ : jL κ) (rm : Room) (hh : List (Nat × Nat × Nat × Nat)) (fin : ρ → Option Value × (κ → Nat → Int32)) : Prop :=
  (∀ r, Γ.2.2 r = vx_MQ Γ.1.2.2.2.2.2.2.2.1 (CwQ Λ (fin r).1 (fin r).2) (fun _ _ _ => False) Γ.1.2.2.2.2.2.2.1 Γ.1.2.2.2.2.1 rm.cells rm.slots Λ.2.2.2.2.2.1) ∧ Γ.1.2.2.2.2.2.2.2.2.1.sig.returnType = some .int ∧ Γ.1.2.2.2.2.2.2.2.2.1.locks = false ∧ Γ.1.2.2.2.2.2.2.2.2.2.exceptionTable.toList = tableOf hh
theorem cw_of {l : Launch} {y : MethodName} {ws ws' : List Cond} {args : List Value} {maxL : Nat} {r : ρ} (fin : ρ → Option Value × (κ → Nat → Int32)) (hΛ : jLok Λ) (hr : ex = some r) (hy : plainName y.cls = true) (hw : ws = Cond.codeWith y cc maxL (some .int) hh :: ws') (hlen : (lg_sl args).length ≤ maxL)
    (body : ∀ Γ : jG ρ, jOk Γ Λ cc y.cls ws rm → jHx Γ Λ rm hh fin → Γ.2.1 = maxL → Γ.1.2.1 = l → Sm Γ Λ (0, 0) 0 (lv_args 0 args) [] v ex) : Cw l y ws rm Λ args v (fin r).1 (fin r).2 := by
  refine vx_ofWH (cc := cc) (maxL := maxL) (ret := some .int) (hh := hh) hy hw ?_
  intro p e s m args' below meth c s₁ B hml hv
  have ht : c.exceptionTable.toList = tableOf hh := vx_table (x := y) B (atoms_spec (ws := ws) B.pre _ (by rw [hw]; exact List.mem_cons_self))
  obtain ⟨rfl, hSt⟩ := hv
  have hl := lv_entry args hlen
  have k := body ((p, l, e, (headSpec ws rm).room, s, m, args.toArray, below, meth, c), maxL, fun r => vx_MQ below (CwQ Λ (fin r).1 (fin r).2) (fun _ _ _ => False) args.toArray s rm.cells rm.slots Λ.2.2.2.2.2.1)
    ⟨B.exec, B.bytes, hml, findClass_of_methodNamed B.named, atoms_spec (ws := ws) B.pre, hSt.2.2.1, hΛ, rfl, hSt.1, hSt.2.2.2⟩ ⟨fun _ => rfl, B.returns, B.notSynchronized, ht⟩ rfl rfl r hr _ s.heap [] hl hSt.2.1 va_S.rf
  rw [lg_entry_eq]
  exact k
theorem sl_hret (hG : jOk Γ Λ cc own Ts rm) {fin : ρ → Option Value × (κ → Nat → Int32)} (hT : jHx Γ Λ rm hh fin) {x : Int32} {r0 : ρ} (hc : cs.1 ≤ rm.cells ∧ cs.2 ≤ rm.slots) (d : decode cc pc = .ok (.ireturn, 1)) (hf : fin r0 = (some (.int x), v)) : Sm Γ Λ cs pc ls [.int x] v (some r0) := by
  intro r hr a H locs ha hR hS
  cases hr
  rw [hT.1]
  refine vx_ret (W.widen hc.1 hc.2 (W.iret hG.1 hG.2.1 hT.2.1 (fun t ht hW => ⟨by rw [hf], ?_, hS.F ht⟩) hS.2.2 d hT.2.2.1))
  rw [hf]
  rw [ht]; exact hR
/-- a call whose throw a handler of this frame catches -/
theorem sl_hcall (hG : jOk Γ Λ cc own Ts rm) (htb : Γ.1.2.2.2.2.2.2.2.2.2.exceptionTable.toList = tableOf hh) {y : MethodName} {ws ws' : List Cond} {bytes : ByteArray} {maxL n index ci : Nat} {ret : Option FieldType} {rmc : Room} {q : vw_C} {fs : List Value} {x : Value} {k0 : Nat} (key : κ) (As : List Value) {stk : List Value} (pc2 : Nat) (hp : pc + 3 = pc2) (hok : Λ.2.2.1 key) (he : Λ.2.2.2.2.1 key (v key) = .inr (ci, fs)) (hc : vwCl[ci]? = some q)
    (hM : Cx Γ.1.2.1 y ws rmc Λ (.ref (Λ.2.2.2.1 key) :: As) v (some x) k0 v') (hT : GoodIn Ts (wsV own index q.1 y ws)) (hw : ws = Cond.code y bytes maxL ret :: ws') (hd : y.cls = q.1 ∧ y.cls ≠ "java/lang/invoke/MethodHandle" ∧ y.cls ≠ "java/lang/invoke/VarHandle" ∧ (parseMethodDescriptor y.desc).map (fun d => d.parameters.length) = some n) (hRm : rmc.frames + 1 ≤ rm.frames ∧ 8 + (maxL + 11) + rmc.locals ≤ rm.locals) (hn : As.length = n) (hst : (st.map fun v => v.category).sum ≤ 8) (cs2 : Nat × Nat) (hz : cs.1 + rmc.cells = cs2.1 ∧ cs.2 + rmc.slots = cs2.2) (hcs : cs2.1 ≤ rm.cells ∧ cs2.2 ≤ rm.slots) (hstk : As.reverse ++ .ref (Λ.2.2.2.1 key) :: st = stk) (d : decode cc pc = .ok (.invokevirtual index, 3))
    (hnc : ∀ q ∈ ncW, va_Nc q.1 q.2 Γ.1.2.2.2.2.1) (hfc : ∀ w ∈ faceW, va_Nw w Γ.1.2.2.2.2.1)
    (k : k0 = 0 → Sm Γ Λ cs2 pc2 ls (x :: st) v' ex)
    (kx : k0 ≠ 0 → ∃ (pre : List ExceptionTableEntry) (z : ExceptionTableEntry) (suf : List ExceptionTableEntry), tableOf hh = pre ++ z :: suf ∧ (∀ z' ∈ pre, covers z' pc = false ∨ (z'.catchType ≠ 0 ∧ ∃ nm : String, Cond.classLink own z'.catchType nm ∈ Ts ∧ (exN k0, nm) ∈ ncW)) ∧ covers z pc = true ∧ z.catchType ≠ 0 ∧ Cond.classLink own z.catchType (exN k0) ∈ Ts ∧ Cond.castable (exN k0) (exN k0) ∈ faceW ∧ ∀ q : Nat, Sm Γ Λ cs2 z.handlerPc ls [.ref q] v' ex) : Sm Γ Λ cs pc ls stk v ex := by
  subst hp hstk
  intro r hr a H locs ha hR hS
  have hR8 : Γ.1.2.2.2.1 = rm := hG.2.2.2.2.2.2.2.1
  have hM1 := hM
  unfold Cx at hM1
  have hrun := vx_runV (e := Γ.1.2.2.1) (below := Γ.1.2.2.2.2.2.2.2.1) (meth := Γ.1.2.2.2.2.2.2.2.2.1) (R := Γ.1.2.2.2.1) (cells := cs.1) (slots := cs.2) (locs := locs) (H := H) (g := F0 Γ.1.2.2.2.2.2.1 pc a (As.reverse ++ .ref (Λ.2.2.2.1 key) :: st)) (As := As) (rest := st) ⟨hG.1, hG.2.1, hG.2.2.1, hG.2.2.2.1, hG.2.2.2.2.1⟩ hM1 (cwV n hG.2.2.2.2.1 hT hw rfl rfl hd (by rw [hR8]; exact hRm)) ⟨jfb hG.2.2.2.2.2.2.1, va_recv hG.2.2.2.2.2.1 (rp_one hR hok he) (q0 := 0) hc rfl, fun U hU hW => ⟨rfl, jSt_at hG hR hS hW hU⟩⟩ rfl hn ha.1 rfl (lv_room hst) d (by rw [hz.1, hz.2, hR8]; exact hcs)
  intro T hT2 X
  rcases hrun T hT2 X with ⟨u, st₀, t, T', L, h0, X', hL, e1, e2, ⟨hk0, hv, hst2, hF⟩, stp⟩ | ⟨q2, st₀, t, T', L, E, ce, h0, X', hL, e1, e2, ⟨hk0, hE, hst2, hF⟩, hce, hcv, hcl, stp⟩
  · cases hv
    obtain ⟨k1, k2, k3⟩ := vx_keep h0 e1 hS (fun _ _ h => h) (fun _ h => h) hL hF
    rw [hz.1, hz.2] at X'
    obtain ⟨t2, a1, b1⟩ := k hk0 r hr a T'.heap (locs ++ L) ha (by rw [e1]; exact hst2) k3 T' rfl X'
    exact ⟨t2, stp t2 a1, b1⟩
  · obtain ⟨k1, k2, k3⟩ := vx_keep h0 e1 hS (fun _ _ h => h) (fun _ h => h) hL hF
    obtain ⟨pre, z, suf, g1, g2, g3, g4, g5, g6, g7⟩ := kx hk0
    subst hE
    have hR2 : Rp Λ v' T'.heap := by rw [e1]; exact hst2
    rw [hz.1, hz.2] at X'
    have out := vx_catch (Q := Γ.2.2 r) (ls := a) (rest := st) (e := Γ.1.2.2.1) (below := Γ.1.2.2.2.2.2.2.2.1) (meth := Γ.1.2.2.2.2.2.2.2.2.1) (l := Γ.1.2.1) (p := Γ.1.1) (R := Γ.1.2.2.2.1) (H := T'.heap) (locs := locs ++ L) (cells := cs2.1) (slots := cs2.2) (q := q2) (ce := ce) hG.2.2.2.1 pre z suf (htb.trans g1) (fun z' hz' => (g2 z' hz').imp id (fun h => ⟨h.1, h.2.choose, hG.2.2.2.2.1 _ h.2.choose_spec.1, hnc _ h.2.choose_spec.2⟩)) g3 g4 (hG.2.2.2.2.1 _ g5) (va_Nw.use (faceW_ot _ g6) (hfc _ g6)) (by rw [e1]; exact hce) hcv hcl (g7 q2 r hr a T'.heap (locs ++ L) ha hR2 k3)
    obtain ⟨t2, a1, b1⟩ := out T' rfl X'
    exact ⟨t2, stp.trans a1, b1⟩
/-- a call of a method that catches -/
theorem sl_callW (hG : jOk Γ Λ cc own Ts rm) {y : MethodName} {ws ws' : List Cond} {bytes : ByteArray} {maxL n index : Nat} {ret : Option FieldType} {rmc : Room} {x : Value} (As : List Value) {stk : List Value} (pc2 : Nat) (hp : pc + 3 = pc2)
    (hM : Cw Γ.1.2.1 y ws rmc Λ As v (some x) v') (hT : GoodIn Ts (va_wsS own index y ws)) (hw : ws = Cond.codeWith y bytes maxL ret hh :: ws') (hd : y.cls ≠ "java/lang/invoke/MethodHandle" ∧ y.cls ≠ "java/lang/invoke/VarHandle" ∧ (parseMethodDescriptor y.desc).map (fun d => d.parameters.length) = some n) (hRm : rmc.frames + 1 ≤ rm.frames ∧ 8 + (maxL + 11) + rmc.locals ≤ rm.locals) (hn : As.length = n) (hst : (st.map fun v => v.category).sum ≤ 8) (cs2 : Nat × Nat) (hz : cs.1 + rmc.cells = cs2.1 ∧ cs.2 + rmc.slots = cs2.2) (hcs : cs2.1 ≤ rm.cells ∧ cs2.2 ≤ rm.slots) (hstk : As.reverse ++ st = stk) (d : decode cc pc = .ok (.invokestatic index, 3))
    (k : Sm Γ Λ cs2 pc2 ls (x :: st) v' ex) : Sm Γ Λ cs pc ls stk v ex := by
  subst hp hstk
  intro r hr a H locs ha hR hS
  have hR8 : Γ.1.2.2.2.1 = rm := hG.2.2.2.2.2.2.2.1
  have hM1 := hM
  unfold Cw at hM1
  have hrun := vx_runSX (e := Γ.1.2.2.1) (below := Γ.1.2.2.2.2.2.2.2.1) (meth := Γ.1.2.2.2.2.2.2.2.2.1) (R := Γ.1.2.2.2.1) (cells := cs.1) (slots := cs.2) (locs := locs) (H := H) (g := F0 Γ.1.2.2.2.2.2.1 pc a (As.reverse ++ st)) (As := As) (rest := st) ⟨hG.1, hG.2.1, hG.2.2.1, hG.2.2.2.1, hG.2.2.2.2.1⟩ hM1 (vx_cwSW n hG.2.2.2.2.1 hT hw rfl rfl hd (by rw [hR8]; exact hRm)) ⟨jfb hG.2.2.2.2.2.2.1, fun U hU hW => ⟨rfl, jSt_at hG hR hS hW hU⟩⟩ rfl hn ha.1 rfl (lv_room hst) d (by rw [hz.1, hz.2, hR8]; exact hcs)
  intro T hT2 X
  rcases hrun T hT2 X with ⟨u, st₀, t, T', L, h0, X', hL, e1, e2, ⟨hv, hst2, hF⟩, stp⟩ | ⟨q2, st₀, t, T', L, E, ce, h0, X', hL, e1, e2, hF, -⟩
  · cases hv
    obtain ⟨k1, k2, k3⟩ := vx_keep h0 e1 hS (fun _ _ h => h) (fun _ h => h) hL hF
    rw [hz.1, hz.2] at X'
    obtain ⟨t2, a1, b1⟩ := k r hr a T'.heap (locs ++ L) ha (by rw [e1]; exact hst2) k3 T' rfl X'
    exact ⟨t2, stp t2 a1, b1⟩
  · exact hF.elim
end JH
/-- pairs of classes that the law's handlers tell apart, in the world around -/
def Xnc {κ : Type} (Λ : jL κ) : Prop := ∀ U H, Λ.2.2.2.2.2.2.2 U H → (∀ q ∈ ncW, va_Nc q.1 q.2 U) ∧ va_AOA .int U ∧ va_AO "ChoirRegister$Book" U
theorem lcm_e (x y : Int64) : lg_cmp x y = lcm x y := by
  unfold lcm lg_cmp
  by_cases h : x = y
  · subst h
    simp
  · rw [if_neg h]
    by_cases h2 : x < y
    · have h3 : ¬ y < x := fun q => by
        rw [Int64.lt_iff_toInt_lt] at h2 q
        omega
      simp [h, h2, h3]
    · have h3 : y < x := by
        have h4 : x.toInt ≠ y.toInt := fun q => h (Int64.toInt_inj.mp q)
        rw [Int64.lt_iff_toInt_lt] at h2 ⊢
        omega
      simp [h, h2, h3]
section JZ
variable {κ ρ : Type} {Γ : jG ρ} {Λ : jL κ} {cs : Nat × Nat} {pc : Nat} {ls : List (Nat × Value)} {st : List Value} {v v' : κ → Nat → Int32} {ex : Option ρ} {cc : ByteArray} {own : String} {Ts : List Cond} {rm : Room} {hh : List (Nat × Nat × Nat × Nat)}
theorem sl_nml {x : Int64} {f : Int64 → Option ρ} (k : ∀ y, Sm Γ Λ cs pc ls (.long y :: st) v (f y)) : Sm Γ Λ cs pc ls (.long x :: st) v (lt x f) := k x
theorem sl_ldc2 (hG : jOk Γ Λ cc own Ts rm) {n : Nat} {x : Int64} (pc2 : Nat) (hp : pc + 3 = pc2) (d : decode cc pc = .ok (.ldc2_w n, 3)) (hw : Jvm.Cond.constantLong own n x ∈ Ts) (k : Sm Γ Λ cs pc2 ls (.long x :: st) v ex) : Sm Γ Λ cs pc ls st v ex := by
  subst hp; intro r hr a H locs ha hR hS; exact lv_ldc2 hG.1 hG.2.1 hG.2.2.2.1 (hG.2.2.2.2.1 _ hw) d (k r hr a H locs ha hR hS)
theorem sl_lload_n (hG : jOk Γ Λ cc own Ts rm) {q : Fin 4} {i : Nat} {x : Int64} (pc2 : Nat) (hp : pc + 1 = pc2) (d : decode cc pc = .ok (.lload_n q, 1)) (hi : (q : Nat) = i) (j : Nat) (hj : ls[j]? = some (i, .long x)) (k : Sm Γ Λ cs pc2 ls (.long x :: st) v ex) : Sm Γ Λ cs pc ls st v ex := by
  subst hp; intro r hr a H locs ha hR hS; exact lv_lload_n hG.1 hG.2.1 d hi (lv_at ha j hj) (k r hr a H locs ha hR hS)
theorem sl_lload (hG : jOk Γ Λ cc own Ts rm) {i : Nat} {x : Int64} (pc2 : Nat) (hp : pc + 2 = pc2) (d : decode cc pc = .ok (.lload i, 2)) (j : Nat) (hj : ls[j]? = some (i, .long x)) (k : Sm Γ Λ cs pc2 ls (.long x :: st) v ex) : Sm Γ Λ cs pc ls st v ex := by
  subst hp; intro r hr a H locs ha hR hS; exact lv_lload hG.1 hG.2.1 d (lv_at ha j hj) (k r hr a H locs ha hR hS)
theorem sl_lstore_n (hG : jOk Γ Λ cc own Ts rm) {q : Fin 4} {i : Nat} {x : Int64} (pc2 : Nat) (hp : pc + 1 = pc2) (d : decode cc pc = .ok (.lstore_n q, 1)) (hi : (q : Nat) = i) (hn : i + 1 < Γ.2.1) (ls2 : List (Nat × Value)) (hl : (i, Value.long x) :: ls.filter (fun q => !(q.1 == i) && (!(q.1 == i + 1) && !(q.1 + 1 == i && q.2.category == 2))) = ls2) (k : Sm Γ Λ cs pc2 ls2 st v ex) : Sm Γ Λ cs pc ls (.long x :: st) v ex := by
  subst hp; intro r hr a H locs ha hR hS; exact lv_lstore_n hG.1 hG.2.1 d hi ha hn hl (fun a2 ha2 => k r hr a2 H locs ha2 hR hS)
theorem sl_lstore (hG : jOk Γ Λ cc own Ts rm) {i : Nat} {x : Int64} (pc2 : Nat) (hp : pc + 2 = pc2) (d : decode cc pc = .ok (.lstore i, 2)) (hn : i + 1 < Γ.2.1) (ls2 : List (Nat × Value)) (hl : (i, Value.long x) :: ls.filter (fun q => !(q.1 == i) && (!(q.1 == i + 1) && !(q.1 + 1 == i && q.2.category == 2))) = ls2) (k : Sm Γ Λ cs pc2 ls2 st v ex) : Sm Γ Λ cs pc ls (.long x :: st) v ex := by
  subst hp; intro r hr a H locs ha hR hS; exact lv_lstore hG.1 hG.2.1 d ha hn hl (fun a2 ha2 => k r hr a2 H locs ha2 hR hS)
theorem sl_lmul (hG : jOk Γ Λ cc own Ts rm) {x y : Int64} (pc2 : Nat) (hp : pc + 1 = pc2) (d : decode cc pc = .ok (.lmul, 1)) (k : Sm Γ Λ cs pc2 ls (.long (x * y) :: st) v ex) : Sm Γ Λ cs pc ls (.long y :: .long x :: st) v ex := by
  subst hp; intro r hr a H locs ha hR hS; exact lv_lmul hG.1 hG.2.1 d (k r hr a H locs ha hR hS)
theorem sl_ladd (hG : jOk Γ Λ cc own Ts rm) {x y : Int64} (pc2 : Nat) (hp : pc + 1 = pc2) (d : decode cc pc = .ok (.ladd, 1)) (k : Sm Γ Λ cs pc2 ls (.long (x + y) :: st) v ex) : Sm Γ Λ cs pc ls (.long y :: .long x :: st) v ex := by
  subst hp; intro r hr a H locs ha hR hS; exact lv_ladd hG.1 hG.2.1 d (k r hr a H locs ha hR hS)
theorem sl_land (hG : jOk Γ Λ cc own Ts rm) {x y : Int64} (pc2 : Nat) (hp : pc + 1 = pc2) (d : decode cc pc = .ok (.land, 1)) (k : Sm Γ Λ cs pc2 ls (.long (x &&& y) :: st) v ex) : Sm Γ Λ cs pc ls (.long y :: .long x :: st) v ex := by
  subst hp; intro r hr a H locs ha hR hS; exact lv_land hG.1 hG.2.1 d (k r hr a H locs ha hR hS)
theorem sl_lshr (hG : jOk Γ Λ cc own Ts rm) {x : Int64} {y : Int32} (pc2 : Nat) (hp : pc + 1 = pc2) (d : decode cc pc = .ok (.lshr, 1)) (k : Sm Γ Λ cs pc2 ls (.long (x >>> (y.toInt64 &&& 63)) :: st) v ex) : Sm Γ Λ cs pc ls (.int y :: .long x :: st) v ex := by
  subst hp; intro r hr a H locs ha hR hS; exact lv_lshr hG.1 hG.2.1 d rfl (k r hr a H locs ha hR hS)
theorem sl_l2i (hG : jOk Γ Λ cc own Ts rm) {x : Int64} (pc2 : Nat) (hp : pc + 1 = pc2) (d : decode cc pc = .ok (.l2i, 1)) (k : Sm Γ Λ cs pc2 ls (.int x.toInt32 :: st) v ex) : Sm Γ Λ cs pc ls (.long x :: st) v ex := by
  subst hp; intro r hr a H locs ha hR hS; exact lv_l2i hG.1 hG.2.1 d rfl (k r hr a H locs ha hR hS)
theorem sl_lcm (hG : jOk Γ Λ cc own Ts rm) {x y : Int64} (pc2 : Nat) (hp : pc + 1 = pc2) (d : decode cc pc = .ok (.lcmp, 1)) (k : Sm Γ Λ cs pc2 ls (.int (lcm x y) :: st) v ex) : Sm Γ Λ cs pc ls (.long y :: .long x :: st) v ex := by
  subst hp; intro r hr a H locs ha hR hS; exact W.lcmp hG.1 hG.2.1 d (by rw [lcm_e]; exact k r hr a H locs ha hR hS)
theorem sl_ixor (hG : jOk Γ Λ cc own Ts rm) {x y : Int32} (pc2 : Nat) (hp : pc + 1 = pc2) (d : decode cc pc = .ok (.ixor, 1)) (k : Sm Γ Λ cs pc2 ls (.int (x ^^^ y) :: st) v ex) : Sm Γ Λ cs pc ls (.int y :: .int x :: st) v ex := by
  subst hp; intro r hr a H locs ha hR hS; exact lv_ixor hG.1 hG.2.1 d (k r hr a H locs ha hR hS)
theorem sl_lret (hG : jOk Γ Λ cc own Ts rm) {fin : ρ → Option Value × (κ → Nat → Int32)} (hT : jRt Γ Λ rm (some .long) fin) {x : Int64} {r0 : ρ} (hc : cs.1 ≤ rm.cells ∧ cs.2 ≤ rm.slots) (d : decode cc pc = .ok (.lreturn, 1)) (hf : fin r0 = (some (.long x), v)) : Sm Γ Λ cs pc ls [.long x] v (some r0) := by
  intro r hr a H locs ha hR hS
  cases hr
  rw [hT.1]
  refine W.widen hc.1 hc.2 (W.lret hG.1 hG.2.1 hT.2.1 (fun t ht hW => ⟨by rw [hf], ?_, hS.F ht⟩) hS.2.2 d hT.2.2)
  rw [hf]
  rw [ht]; exact hR
theorem sm_icmp_geY (hG : jOk Γ Λ cc own Ts rm) {x y : Int32} {off : Int} (tgt pc2 : Nat) (hp : pc + 3 = pc2) (d : decode cc pc = .ok (.if_icmp .ge off, 3)) (ht : (pc : Int) + off = (tgt : Int)) (h : y ≤ x) (k : Sm Γ Λ cs tgt ls st v ex) : Sm Γ Λ cs pc ls (.int y :: .int x :: st) v ex := by
  subst hp; intro r hr a H locs ha hR hS; exact lv_icmp_ge hG.1 hG.2.1 d ht (fun _ => k r hr a H locs ha hR hS) (fun q => absurd h q)
theorem sm_icmp_geN (hG : jOk Γ Λ cc own Ts rm) {x y : Int32} {off : Int} (tgt pc2 : Nat) (hp : pc + 3 = pc2) (d : decode cc pc = .ok (.if_icmp .ge off, 3)) (ht : (pc : Int) + off = (tgt : Int)) (h : ¬ y ≤ x) (k : Sm Γ Λ cs pc2 ls st v ex) : Sm Γ Λ cs pc ls (.int y :: .int x :: st) v ex := by
  subst hp; intro r hr a H locs ha hR hS; exact lv_icmp_ge hG.1 hG.2.1 d ht (fun q => absurd q h) (fun _ => k r hr a H locs ha hR hS)
theorem sl_ige (hG : jOk Γ Λ cc own Ts rm) {x y : Int32} {off : Int} (tgt pc2 : Nat) (hp : pc + 3 = pc2) (d : decode cc pc = .ok (.if_icmp .ge off, 3)) (ht : (pc : Int) + off = (tgt : Int)) (k1 : y ≤ x → Sm Γ Λ cs tgt ls st v ex) (k2 : ¬ y ≤ x → Sm Γ Λ cs pc2 ls st v ex) : Sm Γ Λ cs pc ls (.int y :: .int x :: st) v ex := by
  subst hp; intro r hr a H locs ha hR hS; exact lv_icmp_ge hG.1 hG.2.1 d ht (fun q => k1 q r hr a H locs ha hR hS) (fun q => k2 q r hr a H locs ha hR hS)
/-- a static call of a method that makes cells -/
theorem sm_callS2 (hG : jOk Γ Λ cc own Ts rm) {y : MethodName} {ws ws' : List Cond} {bytes : ByteArray} {maxL n index : Nat} {ret : Option FieldType} {rmc : Room} {α : Type} (fin : α → Option Value × (κ → Nat → Int32)) {F : Option α} {e2 : α → Option ρ} (As : List Value) {stk : List Value} (pc2 : Nat) (hp : pc + 3 = pc2)
    (hM : ∀ r, F = some r → Ct Γ.1.2.1 y ws rmc Λ As v (fin r).1 (fin r).2) (hT : GoodIn Ts (va_wsS own index y ws)) (hw : ws = Cond.code y bytes maxL ret :: ws') (hd : y.cls ≠ "java/lang/invoke/MethodHandle" ∧ y.cls ≠ "java/lang/invoke/VarHandle" ∧ (parseMethodDescriptor y.desc).map (fun d => d.parameters.length) = some n) (hRm : rmc.frames + 1 ≤ rm.frames ∧ 8 + (maxL + 11) + rmc.locals ≤ rm.locals) (hn : As.length = n) (hst : (st.map fun v => v.category).sum ≤ 8) (cs2 : Nat × Nat) (hz : cs.1 + rmc.cells = cs2.1 ∧ cs.2 + rmc.slots = cs2.2) (hcs : cs2.1 ≤ rm.cells ∧ cs2.2 ≤ rm.slots) (hstk : As.reverse ++ st = stk) (d : decode cc pc = .ok (.invokestatic index, 3))
    (k : ∀ r, Sm Γ Λ cs2 pc2 ls ((fin r).1.toList ++ st) (fin r).2 (e2 r)) : Sm Γ Λ cs pc ls stk v (F.bind e2) := by
  subst hp hstk
  intro r hr a H locs ha hR hS
  obtain ⟨x, hx, hr2⟩ := Option.bind_eq_some_iff.mp hr
  have hR8 : Γ.1.2.2.2.1 = rm := hG.2.2.2.2.2.2.2.1
  have hM1 := hM x hx
  unfold Ct at hM1
  have hrun := va_runS (e := Γ.1.2.2.1) (below := Γ.1.2.2.2.2.2.2.2.1) (meth := Γ.1.2.2.2.2.2.2.2.2.1) (R := Γ.1.2.2.2.1) (cells := cs.1) (slots := cs.2) (locs := locs) (H := H) (g := F0 Γ.1.2.2.2.2.2.1 pc a (As.reverse ++ st)) (As := As) (rest := st) ⟨hG.1, hG.2.1, hG.2.2.1, hG.2.2.2.1, hG.2.2.2.2.1⟩ hM1 (va_cwS n hG.2.2.2.2.1 hT hw rfl rfl hd (by rw [hR8]; exact hRm)) ⟨jfb hG.2.2.2.2.2.2.1, fun U hU hW => ⟨rfl, jSt_at hG hR hS hW hU⟩⟩ rfl hn ha.1 rfl (lv_room hst) d (by rw [hz.1, hz.2, hR8]; exact hcs)
  refine sm_after hG (fun _ h => h) hS ha hrun (show (fun _ => e2 x) () = some r from hr2) ?_
  rw [hz.1, hz.2]
  exact k x
/-- a static call whose throw a handler of this frame catches -/
theorem sl_hcallS (hG : jOk Γ Λ cc own Ts rm) (htb : Γ.1.2.2.2.2.2.2.2.2.2.exceptionTable.toList = tableOf hh) {y : MethodName} {ws ws' : List Cond} {bytes : ByteArray} {maxL n index : Nat} {ret : Option FieldType} {rmc : Room} {x : Value} {k0 : Nat} (As : List Value) {stk : List Value} (pc2 : Nat) (hp : pc + 3 = pc2)
    (hM : Cx Γ.1.2.1 y ws rmc Λ As v (some x) k0 v') (hT : GoodIn Ts (va_wsS own index y ws)) (hw : ws = Cond.code y bytes maxL ret :: ws') (hd : y.cls ≠ "java/lang/invoke/MethodHandle" ∧ y.cls ≠ "java/lang/invoke/VarHandle" ∧ (parseMethodDescriptor y.desc).map (fun d => d.parameters.length) = some n) (hRm : rmc.frames + 1 ≤ rm.frames ∧ 8 + (maxL + 11) + rmc.locals ≤ rm.locals) (hn : As.length = n) (hst : (st.map fun v => v.category).sum ≤ 8) (cs2 : Nat × Nat) (hz : cs.1 + rmc.cells = cs2.1 ∧ cs.2 + rmc.slots = cs2.2) (hcs : cs2.1 ≤ rm.cells ∧ cs2.2 ≤ rm.slots) (hstk : As.reverse ++ st = stk) (d : decode cc pc = .ok (.invokestatic index, 3))
    (hnc : ∀ q ∈ ncW, va_Nc q.1 q.2 Γ.1.2.2.2.2.1) (hfc : ∀ w ∈ faceW, va_Nw w Γ.1.2.2.2.2.1)
    (k : k0 = 0 → Sm Γ Λ cs2 pc2 ls (x :: st) v' ex)
    (kx : k0 ≠ 0 → ∃ (pre : List ExceptionTableEntry) (z : ExceptionTableEntry) (suf : List ExceptionTableEntry), tableOf hh = pre ++ z :: suf ∧ (∀ z' ∈ pre, covers z' pc = false ∨ (z'.catchType ≠ 0 ∧ ∃ nm : String, Cond.classLink own z'.catchType nm ∈ Ts ∧ (exN k0, nm) ∈ ncW)) ∧ covers z pc = true ∧ z.catchType ≠ 0 ∧ Cond.classLink own z.catchType (exN k0) ∈ Ts ∧ Cond.castable (exN k0) (exN k0) ∈ faceW ∧ ∀ q : Nat, Sm Γ Λ cs2 z.handlerPc ls [.ref q] v' ex) : Sm Γ Λ cs pc ls stk v ex := by
  subst hp hstk
  intro r hr a H locs ha hR hS
  have hR8 : Γ.1.2.2.2.1 = rm := hG.2.2.2.2.2.2.2.1
  have hM1 := hM
  unfold Cx at hM1
  have hrun := vx_runS (e := Γ.1.2.2.1) (below := Γ.1.2.2.2.2.2.2.2.1) (meth := Γ.1.2.2.2.2.2.2.2.2.1) (R := Γ.1.2.2.2.1) (cells := cs.1) (slots := cs.2) (locs := locs) (H := H) (g := F0 Γ.1.2.2.2.2.2.1 pc a (As.reverse ++ st)) (As := As) (rest := st) ⟨hG.1, hG.2.1, hG.2.2.1, hG.2.2.2.1, hG.2.2.2.2.1⟩ hM1 (va_cwS n hG.2.2.2.2.1 hT hw rfl rfl hd (by rw [hR8]; exact hRm)) ⟨jfb hG.2.2.2.2.2.2.1, fun U hU hW => ⟨rfl, jSt_at hG hR hS hW hU⟩⟩ rfl hn ha.1 rfl (lv_room hst) d (by rw [hz.1, hz.2, hR8]; exact hcs)
  intro T hT2 X
  rcases hrun T hT2 X with ⟨u, st₀, t, T', L, h0, X', hL, e1, e2, ⟨hk0, hv, hst2, hF⟩, stp⟩ | ⟨q2, st₀, t, T', L, E, ce, h0, X', hL, e1, e2, ⟨hk0, hE, hst2, hF⟩, hce, hcv, hcl, stp⟩
  · cases hv
    obtain ⟨k1, k2, k3⟩ := vx_keep h0 e1 hS (fun _ _ h => h) (fun _ h => h) hL hF
    rw [hz.1, hz.2] at X'
    obtain ⟨t2, a1, b1⟩ := k hk0 r hr a T'.heap (locs ++ L) ha (by rw [e1]; exact hst2) k3 T' rfl X'
    exact ⟨t2, stp t2 a1, b1⟩
  · obtain ⟨k1, k2, k3⟩ := vx_keep h0 e1 hS (fun _ _ h => h) (fun _ h => h) hL hF
    obtain ⟨pre, z, suf, g1, g2, g3, g4, g5, g6, g7⟩ := kx hk0
    subst hE
    have hR2 : Rp Λ v' T'.heap := by rw [e1]; exact hst2
    rw [hz.1, hz.2] at X'
    have out := vx_catch (Q := Γ.2.2 r) (ls := a) (rest := st) (e := Γ.1.2.2.1) (below := Γ.1.2.2.2.2.2.2.2.1) (meth := Γ.1.2.2.2.2.2.2.2.2.1) (l := Γ.1.2.1) (p := Γ.1.1) (R := Γ.1.2.2.2.1) (H := T'.heap) (locs := locs ++ L) (cells := cs2.1) (slots := cs2.2) (q := q2) (ce := ce) hG.2.2.2.1 pre z suf (htb.trans g1) (fun z' hz' => (g2 z' hz').imp id (fun h => ⟨h.1, h.2.choose, hG.2.2.2.2.1 _ h.2.choose_spec.1, hnc _ h.2.choose_spec.2⟩)) g3 g4 (hG.2.2.2.2.1 _ g5) (va_Nw.use (faceW_ot _ g6) (hfc _ g6)) (by rw [e1]; exact hce) hcv hcl (g7 q2 r hr a T'.heap (locs ++ L) ha hR2 k3)
    obtain ⟨t2, a1, b1⟩ := out T' rfl X'
    exact ⟨t2, stp.trans a1, b1⟩
/-- a call of a method that catches, its answer told by a function -/
theorem sm_hcallS (hG : jOk Γ Λ cc own Ts rm) {y : MethodName} {ws ws' : List Cond} {bytes : ByteArray} {maxL n index : Nat} {ret : Option FieldType} {rmc : Room} {F : Option (Int32 × (κ → Nat → Int32))} {e2 : Int32 × (κ → Nat → Int32) → Option ρ} (As : List Value) {stk : List Value} (pc2 : Nat) (hp : pc + 3 = pc2)
    (hM : ∀ r, F = some r → Cw Γ.1.2.1 y ws rmc Λ As v (some (.int r.1)) r.2) (hT : GoodIn Ts (va_wsS own index y ws)) (hw : ws = Cond.codeWith y bytes maxL ret hh :: ws') (hd : y.cls ≠ "java/lang/invoke/MethodHandle" ∧ y.cls ≠ "java/lang/invoke/VarHandle" ∧ (parseMethodDescriptor y.desc).map (fun d => d.parameters.length) = some n) (hRm : rmc.frames + 1 ≤ rm.frames ∧ 8 + (maxL + 11) + rmc.locals ≤ rm.locals) (hn : As.length = n) (hst : (st.map fun v => v.category).sum ≤ 8) (cs2 : Nat × Nat) (hz : cs.1 + rmc.cells = cs2.1 ∧ cs.2 + rmc.slots = cs2.2) (hcs : cs2.1 ≤ rm.cells ∧ cs2.2 ≤ rm.slots) (hstk : As.reverse ++ st = stk) (d : decode cc pc = .ok (.invokestatic index, 3))
    (k : ∀ r, Sm Γ Λ cs2 pc2 ls (.int r.1 :: st) r.2 (e2 r)) : Sm Γ Λ cs pc ls stk v (F.bind e2) := by
  intro r hr
  obtain ⟨x, hx, hr2⟩ := Option.bind_eq_some_iff.mp hr
  exact sl_callW hG (x := .int x.1) As pc2 hp (hM x hx) hT hw hd hRm hn hst cs2 hz hcs hstk d (k x) r hr2
/-- a call of a method that makes nothing, over a deep stack -/
theorem sm_callV16 (hG : jOk Γ Λ cc own Ts rm) {y : MethodName} {ws ws' : List Cond} {bytes : ByteArray} {maxL n index ci : Nat} {ret : Option FieldType} {rmc : Room} {q : vw_C} {fs : List Value} {α : Type} (fin : α → Option Value × (κ → Nat → Int32)) {F : Option α} {e2 : α → Option ρ} (key : κ) (As : List Value) {stk : List Value} (pc2 : Nat) (hp : pc + 3 = pc2) (hok : Λ.2.2.1 key) (he : Λ.2.2.2.2.1 key (v key) = .inr (ci, fs)) (hc : vwCl[ci]? = some q)
    (hM : ∀ r, F = some r → Ct Γ.1.2.1 y ws rmc Λ (.ref (Λ.2.2.2.1 key) :: As) v (fin r).1 (fin r).2) (hT : GoodIn Ts (wsV own index q.1 y ws)) (hw : ws = Cond.code y bytes maxL ret :: ws') (hd : y.cls = q.1 ∧ y.cls ≠ "java/lang/invoke/MethodHandle" ∧ y.cls ≠ "java/lang/invoke/VarHandle" ∧ (parseMethodDescriptor y.desc).map (fun d => d.parameters.length) = some n) (hRm : rmc.frames + 1 ≤ rm.frames ∧ 16 + (maxL + 11) + rmc.locals ≤ rm.locals) (hn : As.length = n) (hst : (st.map fun v => v.category).sum ≤ 16) (hz : rmc.cells = 0 ∧ rmc.slots = 0) (hcs : cs.1 ≤ rm.cells ∧ cs.2 ≤ rm.slots) (hstk : As.reverse ++ .ref (Λ.2.2.2.1 key) :: st = stk) (d : decode cc pc = .ok (.invokevirtual index, 3))
    (k : ∀ r, Sm Γ Λ cs pc2 ls ((fin r).1.toList ++ st) (fin r).2 (e2 r)) : Sm Γ Λ cs pc ls stk v (F.bind e2) := by
  subst hp hstk
  intro r hr a H locs ha hR hS
  obtain ⟨x, hx, hr2⟩ := Option.bind_eq_some_iff.mp hr
  have hR8 : Γ.1.2.2.2.1 = rm := hG.2.2.2.2.2.2.2.1
  have hM1 := hM x hx
  unfold Ct at hM1
  have hrun : va_Run Γ.1.1 Γ.1.2.1 Γ.1.2.2.1 Γ.1.2.2.2.1 Γ.1.2.2.2.2.1 Γ.1.2.2.2.2.2.1 Γ.1.2.2.2.2.2.2.1 Γ.1.2.2.2.2.2.2.2.1 Γ.1.2.2.2.2.2.2.2.2.1 Γ.1.2.2.2.2.2.2.2.2.2 H locs cs.1 cs.2 rmc.cells rmc.slots (F0 Γ.1.2.2.2.2.2.1 pc a (As.reverse ++ .ref (Λ.2.2.2.1 key) :: st)) st (fun st o t => o = .returned (fin x).1 ∧ Rp Λ (fin x).2 t.heap ∧ va_F Λ.2.2.2.2.2.1 st t) Λ.2.2.2.2.2.1 := by
    intro T hT1 X
    obtain ⟨⟨hrc, hrs, hfr, -, hws, hcw, hcode, hini, hy, hlen, hl⟩, hin, hse⟩ := (cwV n hG.2.2.2.2.1 hT hw rfl rfl hd (by rw [hR8]; exact ⟨hRm.1, by omega⟩) : CallW Γ.1.2.2.2.1 Γ.1.2.2.2.2.1 Γ.1.2.2.2.2.2.2.1 own q.1 index y bytes maxL ret ws rmc rmc.cells rmc.slots n)
    obtain ⟨cellB, hcB, hoB, hclB⟩ := va_recv hG.2.2.2.2.2.1 (rp_one hR hok he) (q0 := 0) hc rfl
    obtain ⟨v1, vm₁, g', mk, t, T', L, X', hL, e1, e2', hq, st'⟩ := callVK (W := 16) (C := q.1) (bytes := bytes) (maxL := maxL) (ret := ret) X hG.1 hM1 (jfb hG.2.2.2.2.2.2.1) rfl rfl hfr (by rw [hR8]; exact hRm.2) hws hcw hG.2.2.2.1 hl hin hse hcode hini hy (by rw [hT1]; exact hcB) hoB hclB (g := F0 Γ.1.2.2.2.2.2.1 pc a (As.reverse ++ .ref (Λ.2.2.2.1 key) :: st)) rfl (ha.1.trans hG.2.2.1.symm) (argsL := As) (rest := st) (fun sig h => hn.trans (hlen sig h)) rfl (by show 2 * 0 + _ ≤ 16; omega) (by rw [hG.2.1]; exact d) (by rw [hz.1, hR8]; exact hcs.1) (by rw [hz.2, hR8]; exact hcs.2) (fun vm₁ hW₁ => ⟨rfl, jSt_at hG hR hS hW₁ hT1⟩)
    exact ⟨v1, (T.setVm vm₁).calling g' mk (Value.ref (Λ.2.2.2.1 key) :: As).toArray, t, T', L, hT1, X', hL, e1, e2', hq, st'⟩
  refine sm_after hG (fun _ h => h) hS ha hrun (show (fun _ => e2 x) () = some r from hr2) ?_
  rw [hz.1, hz.2]
  exact k x
end JZ
