/-! THE LAW FROM ITS ENTRY -/
theorem inlX0 : ∀ w ∈ wsX00, w ∈ wsL_law := fun _ h => List.mem_append_left _ (List.mem_append_left _ (List.mem_append_left _ (List.mem_append_left _ (List.mem_append_left _ (List.mem_append_left _ (List.mem_append_left _ (List.mem_append_left _ (List.mem_append_left _ (List.mem_append_right _ h)))))))))
theorem inX0 : ∀ w ∈ wsX00, w ∈ lw_tbl := fun w h => wsL_law_in w (inlX0 w h)
theorem inlX1 : ∀ w ∈ wsX10, w ∈ wsL_law := fun _ h => List.mem_append_left _ (List.mem_append_left _ (List.mem_append_left _ (List.mem_append_left _ (List.mem_append_right _ h))))
theorem inX1 : ∀ w ∈ wsX10, w ∈ lw_tbl := fun w h => wsL_law_in w (inlX1 w h)
theorem inlX2 : ∀ w ∈ wsX20, w ∈ wsL_law := fun _ h => List.mem_append_left _ (List.mem_append_left _ (List.mem_append_left _ (List.mem_append_left _ (List.mem_append_left _ (List.mem_append_left _ (List.mem_append_left _ (List.mem_append_left _ (List.mem_append_right _ h))))))))
theorem inX2 : ∀ w ∈ wsX20, w ∈ lw_tbl := fun w h => wsL_law_in w (inlX2 w h)
theorem inlX3 : ∀ w ∈ wsX30, w ∈ wsL_law := fun _ h => List.mem_append_left _ (List.mem_append_left _ (List.mem_append_left _ (List.mem_append_left _ (List.mem_append_left _ (List.mem_append_left _ (List.mem_append_left _ (List.mem_append_right _ h)))))))
theorem inX3 : ∀ w ∈ wsX30, w ∈ lw_tbl := fun w h => wsL_law_in w (inlX3 w h)
theorem inlX4 : ∀ w ∈ wsX40, w ∈ wsL_law := fun _ h => List.mem_append_left _ (List.mem_append_left _ (List.mem_append_left _ (List.mem_append_left _ (List.mem_append_left _ (List.mem_append_right _ h)))))
theorem inX4 : ∀ w ∈ wsX40, w ∈ lw_tbl := fun w h => wsL_law_in w (inlX4 w h)
theorem inlX5 : ∀ w ∈ wsX50, w ∈ wsL_law := fun _ h => List.mem_append_left _ (List.mem_append_left _ (List.mem_append_left _ (List.mem_append_left _ (List.mem_append_left _ (List.mem_append_left _ (List.mem_append_right _ h))))))
theorem inX5 : ∀ w ∈ wsX50, w ∈ lw_tbl := fun w h => wsL_law_in w (inlX5 w h)
theorem inlX6 : ∀ w ∈ wsX60, w ∈ wsL_law := fun _ h => List.mem_append_left _ (List.mem_append_left _ (List.mem_append_left _ (List.mem_append_left _ (List.mem_append_left _ (List.mem_append_left _ (List.mem_append_left _ (List.mem_append_left _ (List.mem_append_left _ (List.mem_append_left _ (List.mem_append_right _ h))))))))))
theorem inX6 : ∀ w ∈ wsX60, w ∈ lw_tbl := fun w h => wsL_law_in w (inlX6 w h)
section SD2
variable {E : jE} {mL : Nat} {Q : State → Prop} {D : va_G} {g : Nat → ClassId} {A : Nat → Prop} {cs : Nat × Nat} {pc : Nat} {ls : List (Nat × Value)} {st : List Value} {ws : va_W} {cc : ByteArray} {own : String} {Ts : List Cond} {rm : Room}
theorem sd_eqN (hG : cO2 E mL D g A cc own Ts rm) {x : Int32} {off : Int} (tgt pc2 : Nat) (hp : pc + 3 = pc2) (d : decode cc pc = .ok (.ifCond .eq off, 3)) (ht : (pc : Int) + off = (tgt : Int)) (hc : ¬ x = 0) (k : Sc E mL Q D A cs pc2 ls st ws) : Sc E mL Q D A cs pc ls (.int x :: st) ws := by
  subst hp; intro a H locs ha hP hD hS; exact lv_if_eq hG.1.1 hG.1.2.1 d ht (fun q => absurd q hc) (fun _ => k a H locs ha hP hD hS)
theorem sd_neY (hG : cO2 E mL D g A cc own Ts rm) {x : Int32} {off : Int} (tgt : Nat) (d : decode cc pc = .ok (.ifCond .ne off, 3)) (ht : (pc : Int) + off = (tgt : Int)) (hc : ¬ x = 0) (k : Sc E mL Q D A cs tgt ls st ws) : Sc E mL Q D A cs pc ls (.int x :: st) ws := by
  intro a H locs ha hP hD hS; exact lv_if_ne hG.1.1 hG.1.2.1 d ht (fun _ => k a H locs ha hP hD hS) (fun q => absurd q hc)
theorem sd_bipush (hG : cO2 E mL D g A cc own Ts rm) {n : Int} {x : Int32} (pc2 : Nat) (hp : pc + 2 = pc2) (d : decode cc pc = .ok (.bipush n, 2)) (hv : (Int8.ofInt n).toInt32 = x) (k : Sc E mL Q D A cs pc2 ls (.int x :: st) ws) : Sc E mL Q D A cs pc ls st ws := by
  subst hp; intro a H locs ha hP hD hS; exact lv_bipush hG.1.1 hG.1.2.1 d hv (k a H locs ha hP hD hS)
theorem sd_istore_n (hG : cO2 E mL D g A cc own Ts rm) {q : Fin 4} {i : Nat} {x : Int32} (pc2 : Nat) (hp : pc + 1 = pc2) (d : decode cc pc = .ok (.istore_n q, 1)) (hi : (q : Nat) = i) (hn : i < mL) (ls2 : List (Nat × Value)) (hl : (i, Value.int x) :: ls.filter (fun q => !(q.1 == i) && !(q.1 + 1 == i && q.2.category == 2)) = ls2) (k : Sc E mL Q D A cs pc2 ls2 st ws) : Sc E mL Q D A cs pc ls (.int x :: st) ws := by
  subst hp; intro a H locs ha hP hD hS; exact lv_istore_n hG.1.1 hG.1.2.1 d hi ha hn hl (fun a2 ha2 => k a2 H locs ha2 hP hD hS)
/-- a call of a method with an object of its own, where nothing is held yet -/
theorem sd_tcall (hG : cO2 E mL D g (fun q => E.2.2.2.2.1.heap.size ≤ q) cc own Ts rm) (hWD : WD E.2.2.2.2.1.heap.size E.2.2.2.2.1 E.2.2.2.2.1.heap) {y : MethodName} {wsc ws' : List Cond} {bytes : ByteArray} {maxL n index : Nat} {ret : Option FieldType} {rmc : Room} {x : Int32} (pc2 : Nat) (hp : pc + 3 = pc2) (hM : Tn E.2.1 y wsc rmc x) (hT : GoodIn Ts (va_wsS own index y wsc)) (hw : wsc = Cond.code y bytes maxL ret :: ws') (hd : y.cls ≠ "java/lang/invoke/MethodHandle" ∧ y.cls ≠ "java/lang/invoke/VarHandle" ∧ (parseMethodDescriptor y.desc).map (fun d => d.parameters.length) = some n) (hRm : rmc.frames + 1 ≤ rm.frames ∧ 8 + (maxL + 11) + rmc.locals ≤ rm.locals) (hn : ([] : List Value).length = n) (hst : (st.map fun v => v.category).sum ≤ 8) (cs2 : Nat × Nat) (hz : cs.1 + rmc.cells = cs2.1 ∧ cs.2 + rmc.slots = cs2.2) (hcs : cs2.1 ≤ rm.cells ∧ cs2.2 ≤ rm.slots) (d : decode cc pc = .ok (.invokestatic index, 3))
    (k : Sc E mL Q D (fun q => E.2.2.2.2.1.heap.size ≤ q) cs2 pc2 ls (.int x :: st) []) : Sc E mL Q D (fun q => E.2.2.2.2.1.heap.size ≤ q) cs pc ls st [] := by
  subst hp
  intro a H locs ha hP hD hS
  have h8 : E.2.2.2.1 = rm := hG.2.1.2.1
  have hrun := va_runS (e := E.2.2.1) (below := E.2.2.2.2.2.2.2.1) (meth := E.2.2.2.2.2.2.2.2.1) (R := E.2.2.2.1) (cells := cs.1) (slots := cs.2) (locs := locs) (H := H) (g := F0 E.2.2.2.2.2.1 pc a st) (As := []) (rest := st) ⟨hG.1.1, hG.1.2.1, hG.1.2.2.1, hG.1.2.2.2.1, hG.1.2.2.2.2⟩ (hM D g H.size) (va_cwS n hG.1.2.2.2.2 hT hw rfl rfl hd (by rw [h8]; exact hRm)) ⟨tfb, fun U hU hW => ⟨rfl, by rw [hU], va_K.moved hW.alike hG.2.1.1, by
    rw [hU]
    have w := WD_keep (H1 := H) hW (fun q h1 h2 => hS.2.1 q h1 h2) hWD
    exact ⟨w.1, XCC_narrow (fun q hq => Nat.le_trans hS.1 hq) w.2.1, w.2.2⟩⟩⟩ rfl hn ha.1 rfl (lv_room hst) d (by rw [hz.1, hz.2, h8]; exact hcs)
  intro T hT X
  obtain ⟨u, st₀, t, T', L, h0, X', hL, e1, e2, ⟨hv, hzz, hk⟩, stp⟩ := hrun T hT X
  cases hv
  rw [h0] at hzz hk
  rw [hz.1, hz.2] at X'
  have hq : ∀ q : Nat, q < H.size → T'.heap[q]? = H[q]? := fun q h => by rw [e1]; exact hk q h (Nat.not_le.mpr h)
  obtain ⟨t2, a1, b1⟩ := k a T'.heap (locs ++ L) ha (fun i x h => by simp at h) ⟨fun i j p q h => by simp at h, fun i x h => by simp at h⟩ ⟨Nat.le_trans hS.1 (by rw [e1]; exact hzz), fun q h1 h2 => (hq q (Nat.lt_of_lt_of_le h1 hS.1)).trans (hS.2.1 q h1 h2), fun q hq2 => by
      rcases List.mem_append.mp hq2 with h | h
      · exact hS.2.2 q h
      · exact Nat.le_trans hS.1 (hL q h)⟩ T' rfl X'
  exact ⟨t2, stp t2 a1, b1⟩
end SD2
/-! THE START: what the tables and the premises give; the law's first three objects -/
theorem nw_of {w : Cond} {A : Array Value} {s : State} (ho : w.onTables = true) (h : w.before A s = true) : va_Nw w s := by
  have e : w.before A s = w.before #[] s := Cond.onTables_vm (U := s) (U' := s) s.vm w ho
  show w.before #[] s = true
  rw [← e]
  exact h
section ST0
variable {s : State} {b : Nat}
theorem start_nest (hts : ∀ w ∈ lw_tbl, w.before #[Value.ref b] s = true) : ∀ w ∈ nestW, va_Nw w s := fun w hw => nw_of ((show ∀ w ∈ nestW, w.onTables = true by decide +kernel) w hw) (hts w ((show ∀ w ∈ nestW, w ∈ lw_tbl by decide +kernel) w hw))
theorem start_face (hts : ∀ w ∈ lw_tbl, w.before #[Value.ref b] s = true) : ∀ w ∈ faceW, va_Nw w s := fun w hw => nw_of (faceW_ot w hw) (hts w ((show ∀ w ∈ faceW, w ∈ lw_tbl by decide +kernel) w hw))
theorem start_XN (hts : ∀ w ∈ lw_tbl, w.before #[Value.ref b] s = true) : XN s := ⟨start_nest hts, hts (.arrayOver (.array .int)) (by decide +kernel), hts (.arrayOver (.object "ChoirRegister$Book")) (by decide +kernel)⟩
theorem start_arr (hts : ∀ w ∈ lw_tbl, w.before #[Value.ref b] s = true) {ty : FieldType} (hw : Cond.arrayClass ty ∈ lw_tbl) (hn : ∀ c, va_RA s c ty ↔ s.vm.findClass ("[" ++ ty.toString) = some c) : ∃ c, ArrOfT s c ty ∧ va_RA s c ty := by
  obtain ⟨c, k, comp, h1, h2, h3⟩ := Cond.arrayClass_spec (hts _ hw)
  exact ⟨c, fun n z => ⟨fun k h => (by cases h), k, h2, comp, h3⟩, (hn c).mpr h1⟩
theorem start_K (hts : ∀ w ∈ lw_tbl, w.before #[Value.ref b] s = true) : ∃ (D : va_G) (g : Nat → ClassId), va_K D vwCl (jtys g) s := by
  obtain ⟨c0, i0, h0⟩ := u_known (C := RX0) (T := TX0) (N := 10) (n := 10) hts inX0 (hts (.instantiable RX0 10) (by decide +kernel))
  obtain ⟨c1, i1, h1⟩ := u_known (C := RX1) (T := TX1) (N := 8) (n := 8) hts inX1 (hts (.instantiable RX1 8) (by decide +kernel))
  obtain ⟨c2, i2, h2⟩ := u_known (C := RX2) (T := TX2) (N := 6) (n := 6) hts inX2 (hts (.instantiable RX2 6) (by decide +kernel))
  obtain ⟨c3, i3, h3⟩ := u_known (C := RX3) (T := TX3) (N := 5) (n := 5) hts inX3 (hts (.instantiable RX3 5) (by decide +kernel))
  obtain ⟨c4, i4, h4⟩ := u_known (C := RX4) (T := TX4) (N := 4) (n := 4) hts inX4 (hts (.instantiable RX4 4) (by decide +kernel))
  obtain ⟨c5, i5, h5⟩ := u_known (C := RX5) (T := TX5) (N := 12) (n := 12) hts inX5 (hts (.instantiable RX5 12) (by decide +kernel))
  obtain ⟨c6, i6, h6⟩ := u_known (C := RX6) (T := TX6) (N := 8) (n := 8) hts inX6 (hts (.instantiable RX6 8) (by decide +kernel))
  obtain ⟨a0, p0, q0⟩ := start_arr hts (ty := .int) (by decide +kernel) (fun _ => Iff.rfl)
  obtain ⟨a1, p1, q1⟩ := start_arr hts (ty := .char) (by decide +kernel) (fun _ => Iff.rfl)
  obtain ⟨a4, p4, q4⟩ := start_arr hts (ty := .long) (by decide +kernel) (fun _ => Iff.rfl)
  obtain ⟨x2, a2, k2, y1, y2, y3, y4⟩ := Cond.arrayOver_specA (hts (.arrayOver (.array .int)) (by decide +kernel))
  obtain ⟨x3, a3, k3, z1, -, z3, z4, z5⟩ := Cond.arrayOver_spec (hts (.arrayOver (.object "ChoirRegister$Book")) (by decide +kernel))
  refine ⟨(fun k => [c0, c1, c2, c3, c4, c5, c6].getD k 0, fun k => [i0, i1, i2, i3, i4, i5, i6].getD k (fun _ => 0)), fun k => [a0, a1, a2, a3, a4].getD k 0, fun c q hq => ?_, fun k q hq => ?_⟩
  · match c, hq with
    | 0, hq => cases hq; exact h0
    | 1, hq => cases hq; exact h1
    | 2, hq => cases hq; exact h2
    | 3, hq => cases hq; exact h3
    | 4, hq => cases hq; exact h4
    | 5, hq => cases hq; exact h5
    | 6, hq => cases hq; exact h6
    | c + 7, hq => simp [vwCl] at hq
  · match k, hq with
    | 0, hq => cases hq; exact ⟨p0, q0⟩
    | 1, hq => cases hq; exact ⟨p1, q1⟩
    | 2, hq => cases hq; exact ⟨fun n z => ⟨fun k h => (by cases h), k2, y2, x2, y3⟩, y4⟩
    | 3, hq => cases hq; exact ⟨fun n z => ⟨fun k h => (by cases h), k3, z3, x3, z4⟩, k3, x3, z3, z4, z1, z5⟩
    | 4, hq => cases hq; exact ⟨p4, q4⟩
    | k + 5, hq => simp [jtys] at hq
theorem start_f (hts : ∀ w ∈ lw_tbl, w.before #[Value.ref b] s = true) (hgv : (Jvm.Cond.and given_1 narrow_1).before #[Value.ref b] s = true) : ∀ c ∈ flatC (Jvm.Cond.and given_1 narrow_1), c.before #[Value.ref b] s = true := flat_of_before _ hgv
theorem start_tab (hts : ∀ w ∈ lw_tbl, w.before #[Value.ref b] s = true) (hgv : (Jvm.Cond.and given_1 narrow_1).before #[Value.ref b] s = true) {n : String} {N : Nat} {f : Nat → Int32} (hN : N < 2 ^ 31) (h1 : Cond.arrayOf (.static "ChoirRegister" n "[I") .int ∈ flatC (Jvm.Cond.and given_1 narrow_1)) (h2 : Cond.eq (.length (.static "ChoirRegister" n "[I")) (.int (Int32.ofNat N)) ∈ flatC (Jvm.Cond.and given_1 narrow_1)) (h3 : ∀ j, j < N → Cond.eq (.elem (.static "ChoirRegister" n "[I") (.int (Int32.ofNat j))) (.int (f j)) ∈ flatC (Jvm.Cond.and given_1 narrow_1)) (h4 : Cond.laysStatic "ChoirRegister" n "[I" ∈ lw_tbl) : ∃ t, va_Z "ChoirRegister" n "[I" (.ref t) (fun q => s.heap.size ≤ q) s s.heap ∧ va_T .int t N (fun j => .int (f j)) (fun q => s.heap.size ≤ q) s s.heap := by
  have hA : ∀ a : Nat, a < s.heap.size → ¬ (fun q : Nat => s.heap.size ≤ q) a := fun a h => Nat.not_le.mpr h
  obtain ⟨t, e, hT⟩ := va_Tof (A := fun q : Nat => s.heap.size ≤ q) (f := fun j => .int (f j)) hN (start_f hts hgv _ h1) (va_eqt (start_f hts hgv _ h2)) (fun j hj => va_eqt (start_f hts hgv _ (h3 j hj))) hA
  exact ⟨t, va_Zof (hts _ h4) (hts (.initialized "ChoirRegister") (by decide +kernel)) e hA, hT⟩
theorem start_msg (hts : ∀ w ∈ lw_tbl, w.before #[Value.ref b] s = true) (hgv : (Jvm.Cond.and given_1 narrow_1).before #[Value.ref b] s = true) {k : Nat} {tx : String} (h1 : Cond.exactly (.string RX6 k) "java/lang/String" ∈ flatC (Jvm.Cond.and given_1 narrow_1)) (h2 : Cond.stringRef RX6 k tx ∈ lw_tbl) : ∃ a, vk_R RX6 k tx a s := by
  obtain ⟨a, c, cell, kk, e, -⟩ := Cond.exactly_spec (start_f hts hgv _ h1)
  exact ⟨a, vk_R.of (hts _ h2) e⟩
def tmS : Nat → Term := fun i => [Term.string RX2 47, Term.string RX2 58].getD i (.int 0)
set_option maxRecDepth 100000 in
set_option maxHeartbeats 4000000 in
theorem start_XCC (hts : ∀ w ∈ lw_tbl, w.before #[Value.ref b] s = true) (hgv : (Jvm.Cond.and given_1 narrow_1).before #[Value.ref b] s = true) : XCC (fun q => s.heap.size ≤ q) s s.heap := by
  have hA : ∀ a : Nat, a < s.heap.size → ¬ (fun q : Nat => s.heap.size ≤ q) a := fun a h => Nat.not_le.mpr h
  have hf := start_f hts hgv
  refine ⟨⟨vx_Zqof (hts _ (by decide +kernel)) (hts _ (by decide +kernel)) (hf _ (by decide +kernel)) hA, vx_Zqof (hts _ (by decide +kernel)) (hts _ (by decide +kernel)) (hf _ (by decide +kernel)) hA, start_face hts⟩,
    ⟨start_msg hts hgv (by decide +kernel) (by decide +kernel), start_msg hts hgv (by decide +kernel) (by decide +kernel), start_msg hts hgv (by decide +kernel) (by decide +kernel)⟩,
    ⟨start_tab hts hgv (by decide) (by decide +kernel) (by decide +kernel) (by decide +kernel) (by decide +kernel), start_tab hts hgv (by decide) (by decide +kernel) (by decide +kernel) (by decide +kernel) (by decide +kernel), start_tab hts hgv (by decide) (by decide +kernel) (by decide +kernel) (by decide +kernel) (by decide +kernel)⟩, ?_, va_Zof (hts _ (by decide +kernel)) (hts _ (by decide +kernel)) (va_eqt (hf _ (by decide +kernel))) hA, ?_⟩
  · obtain ⟨adK, adV, hV, hE⟩ := vk_Sof (N := 2) (tm := tmS) (len := [7, 20]) (byt := [[106, 102, 108, 110, 111, 120, 116], [106, 104, 114, 45, 98, 102, 42, 108, 46, 61, 114, 45, 110, 58, 45, 111, 62, 43, 120, 116]]) (A := fun q : Nat => s.heap.size ≤ q) (args := #[Value.ref b]) (s := s) (by decide)
      (fun i hi => hf _ ((show ∀ i, i < 2 → Cond.exactly (tmS i) "java/lang/String" ∈ flatC (Jvm.Cond.and given_1 narrow_1) by decide +kernel) i hi))
      (fun i hi => hf _ ((show ∀ i, i < 2 → Cond.eq (.field (tmS i) "java/lang/String" "coder" "B") (.int 0) ∈ flatC (Jvm.Cond.and given_1 narrow_1) by decide +kernel) i hi))
      (fun i hi => hf _ ((show ∀ i, i < 2 → Cond.arrayOf (.field (tmS i) "java/lang/String" "value" "[B") .byte ∈ flatC (Jvm.Cond.and given_1 narrow_1) by decide +kernel) i hi))
      (fun i hi => hf _ ((show ∀ i, i < 2 → Cond.eq (.length (.field (tmS i) "java/lang/String" "value" "[B")) (.int (Int32.ofNat (([7, 20] : List Nat).getD i 0))) ∈ flatC (Jvm.Cond.and given_1 narrow_1) by decide +kernel) i hi))
      (fun i hi j hj => hf _ ((show ∀ i, i < 2 → ∀ j, j < ([7, 20] : List Nat).getD i 0 → Cond.eq (.elem (.field (tmS i) "java/lang/String" "value" "[B") (.int (Int32.ofNat j))) (.int ((([[106, 102, 108, 110, 111, 120, 116], [106, 104, 114, 45, 98, 102, 42, 108, 46, 61, 114, 45, 110, 58, 45, 111, 62, 43, 120, 116]] : List (List Int32)).getD i []).getD j 0)) ∈ flatC (Jvm.Cond.and given_1 narrow_1) by decide +kernel) i hi j hj))
      (fun i j hi hj hne => by
        have h := hf (Cond.not (.eq (.string RX2 47) (.string RX2 58))) (by decide +kernel)
        rcases (show i = 0 ∧ j = 1 ∨ i = 1 ∧ j = 0 by omega) with ⟨e1, e2⟩ | ⟨e1, e2⟩ <;> subst e1 <;> subst e2
        · exact Or.inl h
        · exact Or.inr h) hA
    exact ⟨adK, adV, hV, vk_R.of (hts (.stringRef RX2 47 "jflnoxt") (by decide +kernel)) (hE 0 (by decide)), vk_R.of (hts (.stringRef RX2 58 "jhr-bf*l.=r-n:-o>+xt") (by decide +kernel)) (hE 1 (by decide))⟩
  · have h := hf (Cond.isRef (.static "jdk/internal/util/Preconditions" "SIOOBE_FORMATTER" "Ljava/util/function/BiFunction;")) (by decide +kernel)
    obtain ⟨x, e, hr⟩ := Cond.isRef_spec h
    refine ⟨x, ?_, va_Zof (hts _ (by decide +kernel)) (hts _ (by decide +kernel)) e hA⟩
    cases x with
    | null => exact Or.inl rfl
    | ref t => exact Or.inr ⟨t, rfl⟩
    | _ => cases hr
theorem start_nc (hts : ∀ w ∈ lw_tbl, w.before #[Value.ref b] s = true) (hgv : (Jvm.Cond.and given_1 narrow_1).before #[Value.ref b] s = true) : ∀ q ∈ ncW, va_Nc q.1 q.2 s := fun q hq => va_Nc.of (start_f hts hgv _ ((show ∀ q ∈ ncW, Cond.not (.castable q.1 q.2) ∈ flatC (Jvm.Cond.and given_1 narrow_1) by decide +kernel) q hq))
end ST0
theorem start_P {D : va_G} {g : Nat → ClassId} {h q : Nat} {B : Nat → Nat → Nat → Nat} {LL LN : Nat → Nat} {q0 N0 b Ln : Nat} {xs : Nat → Int32} {H : Heap} (hP : va_P D vwCl (regL g h q B LL LN ++ [(q0, .inl (g 4, 64, .inr (.inl (fun _ => 0))))]) H) (hD : va_D (fun x => N0 ≤ x) (regL g h q B LL LN ++ [(q0, .inl (g 4, 64, .inr (.inl (fun _ => 0))))])) (hlt : ∀ (i : Nat) (x : Nat × va_E), (regL g h q B LL LN)[i]? = some x → x.1 < q0) : Ap (D, g, adK h q B LL LN, q0, N0, b, Ln, xs) ∧ Rp (lS (D, g, adK h q B LL LN, q0, N0, b, Ln, xs)) (m2 v0 (enc (fun _ => 0))) H := by
  have hc : ∀ k, okC k → ∃ e, (regL g h q B LL LN)[psK k]? = some (adK h q B LL LN k, e) ∧ (regL g h q B LL LN ++ [(q0, .inl (g 4, 64, .inr (.inl (fun _ => 0))))])[psK k]? = some (adK h q B LL LN k, e) ∧ CE e (ceC g (adK h q B LL LN) k (v0 k)) := fun k hk => by
    obtain ⟨e, e1, e2⟩ := reg_at (g := g) (h := h) (q := q) (B := B) (LL := LL) (LN := LN) k hk
    exact ⟨e, e1, at_hd e1, e2⟩
  have ho : (regL g h q B LL LN ++ [(q0, .inl (g 4, 64, .inr (.inl (fun _ => 0))))])[753 + 0]? = some (q0, .inl (g 4, 64, .inr (.inl (fun _ => 0)))) := by
    rw [at_sk (n := 753) reg_l]
    rfl
  refine ⟨⟨fun a c ha hc2 e => ?_, fun a ha => ?_, hD.2 _ _ ho⟩, rp_S (fun k hk => ?_) (by rw [show dec (enc (fun _ => 0)) = fun _ => 0 from funext fun i => dec_enc _ i]; exact hP _ _ ho)⟩
  · obtain ⟨e1, -, p1, -⟩ := hc a ha
    obtain ⟨e2, -, p2, -⟩ := hc c hc2
    exact psK_inj ha hc2 (hD.1 _ _ _ _ p1 p2 e)
  · obtain ⟨e1, p0, p1, -⟩ := hc a ha
    exact ⟨hD.2 _ _ p1, hlt _ _ p0⟩
  · obtain ⟨e1, -, p1, p2⟩ := hc k hk
    exact p2 D _ H (hP _ _ p1)
theorem ti_1 {F : Option Int32} (h : TI 1 F) : F = some 1 := by
  obtain ⟨x, h1, h2⟩ := h
  rw [h1, h2]
  rfl
