/-! THE START: what the tables and the premises give; the law's first three objects -/
theorem nw_of {w : Cond} {A : Array Value} {s : State} (ho : w.onTables = true) (h : w.before A s = true) : va_Nw w s := by
  have e : w.before A s = w.before #[] s := Cond.onTables_vm (U := s) (U' := s) s.vm w ho
  show w.before #[] s = true
  rw [← e]
  exact h
section ST0
variable {s : State} {b : Nat}
theorem start_nest (hts : ∀ w ∈ lw_tbl, w.before #[Value.ref b] s = true) : ∀ w ∈ nestW, va_Nw w s := fun w hw => nw_of ((show ∀ w ∈ nestW, w.onTables = true by decide +kernel) w hw) (hts w ((show ∀ w ∈ nestW, w ∈ lw_tbl by decide +kernel) w hw))
theorem start_face (hts : ∀ w ∈ lw_tbl, w.before #[Value.ref b] s = true) : ∀ w ∈ faceW, va_Nw w s := fun w hw => nw_of (faceW_ot w hw) (hts w ((show ∀ w ∈ faceW, w ∈ lw_tbl by decide +kernel) w hw))
theorem start_XN (hts : ∀ w ∈ lw_tbl, w.before #[Value.ref b] s = true) : XN s := ⟨start_nest hts, hts (.arrayOver (.array .int)) (by decide +kernel), hts (.arrayOver (.object "ChoirRegister$Book")) (by decide +kernel)⟩
theorem start_arr (hts : ∀ w ∈ lw_tbl, w.before #[Value.ref b] s = true) {ty : FieldType} (hw : Cond.arrayClass ty ∈ lw_tbl) (hn : ∀ c, va_RA s c ty ↔ s.vm.findClass ("[" ++ ty.toString) = some c) : ∃ c, ArrOfT s c ty ∧ va_RA s c ty := by
  obtain ⟨c, k, comp, h1, h2, h3⟩ := Cond.arrayClass_spec (hts _ hw)
  exact ⟨c, fun n z => ⟨fun k h => (by cases h), k, h2, comp, h3⟩, (hn c).mpr h1⟩
theorem start_K (hts : ∀ w ∈ lw_tbl, w.before #[Value.ref b] s = true) : ∃ (D : va_G) (g : Nat → ClassId), va_K D vwCl (jtys g) s := by
  obtain ⟨c0, i0, h0⟩ := u_known (C := RX0) (T := TX0) (N := 10) (n := 10) hts inX0 (hts (.instantiable RX0 10) (by decide +kernel))
  obtain ⟨c1, i1, h1⟩ := u_known (C := RX1) (T := TX1) (N := 8) (n := 8) hts inX1 (hts (.instantiable RX1 8) (by decide +kernel))
  obtain ⟨c2, i2, h2⟩ := u_known (C := RX2) (T := TX2) (N := 6) (n := 6) hts inX2 (hts (.instantiable RX2 6) (by decide +kernel))
  obtain ⟨c3, i3, h3⟩ := u_known (C := RX3) (T := TX3) (N := 5) (n := 5) hts inX3 (hts (.instantiable RX3 5) (by decide +kernel))
  obtain ⟨c4, i4, h4⟩ := u_known (C := RX4) (T := TX4) (N := 4) (n := 4) hts inX4 (hts (.instantiable RX4 4) (by decide +kernel))
  obtain ⟨c5, i5, h5⟩ := u_known (C := RX5) (T := TX5) (N := 12) (n := 12) hts inX5 (hts (.instantiable RX5 12) (by decide +kernel))
  obtain ⟨c6, i6, h6⟩ := u_known (C := RX6) (T := TX6) (N := 8) (n := 8) hts inX6 (hts (.instantiable RX6 8) (by decide +kernel))
  obtain ⟨c7, i7, h7⟩ := u_known (C := RX7) (T := TX7) (N := 16) (n := 16) hts inX7 (hts (.instantiable RX7 16) (by decide +kernel))
  obtain ⟨a0, p0, q0⟩ := start_arr hts (ty := .int) (by decide +kernel) (fun _ => Iff.rfl)
  obtain ⟨a1, p1, q1⟩ := start_arr hts (ty := .char) (by decide +kernel) (fun _ => Iff.rfl)
  obtain ⟨a4, p4, q4⟩ := start_arr hts (ty := .long) (by decide +kernel) (fun _ => Iff.rfl)
  obtain ⟨x2, a2, k2, y1, y2, y3, y4⟩ := Cond.arrayOver_specA (hts (.arrayOver (.array .int)) (by decide +kernel))
  obtain ⟨x3, a3, k3, z1, -, z3, z4, z5⟩ := Cond.arrayOver_spec (hts (.arrayOver (.object "ChoirRegister$Book")) (by decide +kernel))
  refine ⟨(fun k => [c0, c1, c2, c3, c4, c5, c6, c7].getD k 0, fun k => [i0, i1, i2, i3, i4, i5, i6, i7].getD k (fun _ => 0)), fun k => [a0, a1, a2, a3, a4].getD k 0, fun c q hq => ?_, fun k q hq => ?_⟩
  · match c, hq with
    | 0, hq => cases hq; exact h0
    | 1, hq => cases hq; exact h1
    | 2, hq => cases hq; exact h2
    | 3, hq => cases hq; exact h3
    | 4, hq => cases hq; exact h4
    | 5, hq => cases hq; exact h5
    | 6, hq => cases hq; exact h6
    | 7, hq => cases hq; exact h7
    | c + 8, hq => simp [vwCl] at hq
  · match k, hq with
    | 0, hq => cases hq; exact ⟨p0, q0⟩
    | 1, hq => cases hq; exact ⟨p1, q1⟩
    | 2, hq => cases hq; exact ⟨fun n z => ⟨fun k h => (by cases h), k2, y2, x2, y3⟩, y4⟩
    | 3, hq => cases hq; exact ⟨fun n z => ⟨fun k h => (by cases h), k3, z3, x3, z4⟩, k3, x3, z3, z4, z1, z5⟩
    | 4, hq => cases hq; exact ⟨p4, q4⟩
    | k + 5, hq => simp [jtys] at hq
theorem start_f (hts : ∀ w ∈ lw_tbl, w.before #[Value.ref b] s = true) (hgv : (Jvm.Cond.and given_1 narrow_1).before #[Value.ref b] s = true) : ∀ c ∈ flatC (Jvm.Cond.and given_1 narrow_1), c.before #[Value.ref b] s = true := flat_of_before _ hgv
theorem start_tab (hts : ∀ w ∈ lw_tbl, w.before #[Value.ref b] s = true) (hgv : (Jvm.Cond.and given_1 narrow_1).before #[Value.ref b] s = true) {n : String} {N : Nat} {f : Nat → Int32} (hN : N < 2 ^ 31) (h1 : Cond.arrayOf (.static "ChoirRegister" n "[I") .int ∈ flatC (Jvm.Cond.and given_1 narrow_1)) (h2 : Cond.eq (.length (.static "ChoirRegister" n "[I")) (.int (Int32.ofNat N)) ∈ flatC (Jvm.Cond.and given_1 narrow_1)) (h3 : ∀ j, j < N → Cond.eq (.elem (.static "ChoirRegister" n "[I") (.int (Int32.ofNat j))) (.int (f j)) ∈ flatC (Jvm.Cond.and given_1 narrow_1)) (h4 : Cond.laysStatic "ChoirRegister" n "[I" ∈ lw_tbl) : ∃ t, va_Z "ChoirRegister" n "[I" (.ref t) (fun q => s.heap.size ≤ q) s s.heap ∧ va_T .int t N (fun j => .int (f j)) (fun q => s.heap.size ≤ q) s s.heap := by
  have hA : ∀ a : Nat, a < s.heap.size → ¬ (fun q : Nat => s.heap.size ≤ q) a := fun a h => Nat.not_le.mpr h
  obtain ⟨t, e, hT⟩ := va_Tof (A := fun q : Nat => s.heap.size ≤ q) (f := fun j => .int (f j)) hN (start_f hts hgv _ h1) (va_eqt (start_f hts hgv _ h2)) (fun j hj => va_eqt (start_f hts hgv _ (h3 j hj))) hA
  exact ⟨t, va_Zof (hts _ h4) (hts (.initialized "ChoirRegister") (by decide +kernel)) e hA, hT⟩
theorem start_msg (hts : ∀ w ∈ lw_tbl, w.before #[Value.ref b] s = true) (hgv : (Jvm.Cond.and given_1 narrow_1).before #[Value.ref b] s = true) {k : Nat} {tx : String} (h1 : Cond.exactly (.string RX6 k) "java/lang/String" ∈ flatC (Jvm.Cond.and given_1 narrow_1)) (h2 : Cond.stringRef RX6 k tx ∈ lw_tbl) : ∃ a, vk_R RX6 k tx a s := by
  obtain ⟨a, c, cell, kk, e, -⟩ := Cond.exactly_spec (start_f hts hgv _ h1)
  exact ⟨a, vk_R.of (hts _ h2) e⟩
def tmS : Nat → Term := fun i => [Term.string RX2 47, Term.string RX2 58].getD i (.int 0)
set_option maxRecDepth 100000 in
set_option maxHeartbeats 4000000 in
theorem start_XCC (hts : ∀ w ∈ lw_tbl, w.before #[Value.ref b] s = true) (hgv : (Jvm.Cond.and given_1 narrow_1).before #[Value.ref b] s = true) : XCC (fun q => s.heap.size ≤ q) s s.heap := by
  have hA : ∀ a : Nat, a < s.heap.size → ¬ (fun q : Nat => s.heap.size ≤ q) a := fun a h => Nat.not_le.mpr h
  have hf := start_f hts hgv
  refine ⟨⟨vx_Zqof (hts _ (by decide +kernel)) (hts _ (by decide +kernel)) (hf _ (by decide +kernel)) hA, vx_Zqof (hts _ (by decide +kernel)) (hts _ (by decide +kernel)) (hf _ (by decide +kernel)) hA, start_face hts⟩,
    ⟨start_msg hts hgv (by decide +kernel) (by decide +kernel), start_msg hts hgv (by decide +kernel) (by decide +kernel), start_msg hts hgv (by decide +kernel) (by decide +kernel)⟩,
    ⟨start_tab hts hgv (by decide) (by decide +kernel) (by decide +kernel) (by decide +kernel) (by decide +kernel), start_tab hts hgv (by decide) (by decide +kernel) (by decide +kernel) (by decide +kernel) (by decide +kernel), start_tab hts hgv (by decide) (by decide +kernel) (by decide +kernel) (by decide +kernel) (by decide +kernel)⟩, ?_, va_Zof (hts _ (by decide +kernel)) (hts _ (by decide +kernel)) (va_eqt (hf _ (by decide +kernel))) hA, ?_⟩
  · obtain ⟨adK, adV, hV, hE⟩ := vk_Sof (N := 2) (tm := tmS) (len := [7, 20]) (byt := [[106, 102, 108, 110, 111, 120, 116], [106, 104, 114, 45, 98, 102, 42, 108, 46, 61, 114, 45, 110, 58, 45, 111, 62, 43, 120, 116]]) (A := fun q : Nat => s.heap.size ≤ q) (args := #[Value.ref b]) (s := s) (by decide)
      (fun i hi => hf _ ((show ∀ i, i < 2 → Cond.exactly (tmS i) "java/lang/String" ∈ flatC (Jvm.Cond.and given_1 narrow_1) by decide +kernel) i hi))
      (fun i hi => hf _ ((show ∀ i, i < 2 → Cond.eq (.field (tmS i) "java/lang/String" "coder" "B") (.int 0) ∈ flatC (Jvm.Cond.and given_1 narrow_1) by decide +kernel) i hi))
      (fun i hi => hf _ ((show ∀ i, i < 2 → Cond.arrayOf (.field (tmS i) "java/lang/String" "value" "[B") .byte ∈ flatC (Jvm.Cond.and given_1 narrow_1) by decide +kernel) i hi))
      (fun i hi => hf _ ((show ∀ i, i < 2 → Cond.eq (.length (.field (tmS i) "java/lang/String" "value" "[B")) (.int (Int32.ofNat (([7, 20] : List Nat).getD i 0))) ∈ flatC (Jvm.Cond.and given_1 narrow_1) by decide +kernel) i hi))
      (fun i hi j hj => hf _ ((show ∀ i, i < 2 → ∀ j, j < ([7, 20] : List Nat).getD i 0 → Cond.eq (.elem (.field (tmS i) "java/lang/String" "value" "[B") (.int (Int32.ofNat j))) (.int ((([[106, 102, 108, 110, 111, 120, 116], [106, 104, 114, 45, 98, 102, 42, 108, 46, 61, 114, 45, 110, 58, 45, 111, 62, 43, 120, 116]] : List (List Int32)).getD i []).getD j 0)) ∈ flatC (Jvm.Cond.and given_1 narrow_1) by decide +kernel) i hi j hj))
      (fun i j hi hj hne => by
        have h := hf (Cond.not (.eq (.string RX2 47) (.string RX2 58))) (by decide +kernel)
        rcases (show i = 0 ∧ j = 1 ∨ i = 1 ∧ j = 0 by omega) with ⟨e1, e2⟩ | ⟨e1, e2⟩ <;> subst e1 <;> subst e2
        · exact Or.inl h
        · exact Or.inr h) hA
    exact ⟨adK, adV, hV, vk_R.of (hts (.stringRef RX2 47 "jflnoxt") (by decide +kernel)) (hE 0 (by decide)), vk_R.of (hts (.stringRef RX2 58 "jhr-bf*l.=r-n:-o>+xt") (by decide +kernel)) (hE 1 (by decide))⟩
  · have h := hf (Cond.isRef (.static "jdk/internal/util/Preconditions" "SIOOBE_FORMATTER" "Ljava/util/function/BiFunction;")) (by decide +kernel)
    obtain ⟨x, e, hr⟩ := Cond.isRef_spec h
    refine ⟨x, ?_, va_Zof (hts _ (by decide +kernel)) (hts _ (by decide +kernel)) e hA⟩
    cases x with
    | null => exact Or.inl rfl
    | ref t => exact Or.inr ⟨t, rfl⟩
    | _ => cases hr
theorem start_nc (hts : ∀ w ∈ lw_tbl, w.before #[Value.ref b] s = true) (hgv : (Jvm.Cond.and given_1 narrow_1).before #[Value.ref b] s = true) : ∀ q ∈ ncW, va_Nc q.1 q.2 s := fun q hq => va_Nc.of (start_f hts hgv _ ((show ∀ q ∈ ncW, Cond.not (.castable q.1 q.2) ∈ flatC (Jvm.Cond.and given_1 narrow_1) by decide +kernel) q hq))
end ST0
theorem start_P {D : va_G} {g : Nat → ClassId} {h q : Nat} {B : Nat → Nat → Nat → Nat} {LL LN L : Nat → Nat} {q0 N0 b Ln : Nat} {xs : Nat → Int32} {H : Heap} (hP : va_P D vwCl ((regL g h q B LL LN ++ refL g L) ++ [(q0, .inl (g 4, 1, .inr (.inl (fun _ => 0))))]) H) (hD : va_D (fun x => N0 ≤ x) ((regL g h q B LL LN ++ refL g L) ++ [(q0, .inl (g 4, 1, .inr (.inl (fun _ => 0))))])) (hlt : ∀ (i : Nat) (x : Nat × va_E), (regL g h q B LL LN ++ refL g L)[i]? = some x → x.1 < q0) : Ap (D, g, adK h q B LL LN, L, q0, N0, b, Ln, xs) ∧ Rp (lS (D, g, adK h q B LL LN, L, q0, N0, b, Ln, xs)) (m3 v0 (fun _ _ => 0) (fun _ => 0)) H := by
  have hc : ∀ k, okC k → ∃ e, (regL g h q B LL LN ++ refL g L)[psK k]? = some (adK h q B LL LN k, e) ∧ ((regL g h q B LL LN ++ refL g L) ++ [(q0, .inl (g 4, 1, .inr (.inl (fun _ => 0))))])[psK k]? = some (adK h q B LL LN k, e) ∧ CE e (ceC g (adK h q B LL LN) k (v0 k)) := fun k hk => by
    obtain ⟨e, e1, e2⟩ := reg_at (g := g) (h := h) (q := q) (B := B) (LL := LL) (LN := LN) k hk
    exact ⟨e, at_hd e1, at_hd (at_hd e1), e2⟩
  have hm : ∀ k, k < 11 → (regL g h q B LL LN ++ refL g L)[753 + k]? = some (L k, ceM g L k (fun _ => 0)) := fun k hk => by
    rw [at_sk reg_l]
    exact ref_at k hk
  have hm2 : ∀ k, k < 11 → ((regL g h q B LL LN ++ refL g L) ++ [(q0, .inl (g 4, 1, .inr (.inl (fun _ => 0))))])[753 + k]? = some (L k, ceM g L k (fun _ => 0)) := fun k hk => at_hd (hm k hk)
  have ho : ((regL g h q B LL LN ++ refL g L) ++ [(q0, .inl (g 4, 1, .inr (.inl (fun _ => 0))))])[764 + 0]? = some (q0, .inl (g 4, 1, .inr (.inl (fun _ => 0)))) := by
    rw [at_sk (n := 764) (by rw [List.length_append, reg_l, ref_l])]
    rfl
  refine ⟨⟨fun a c ha hc2 e => ?_, fun a c ha hc2 e => ?_, fun a c ha hc2 e => ?_, fun a ha => ?_, fun c hc2 => ?_, hD.2 _ _ ho⟩, rp_S (fun k hk => ?_) (fun k hk => hP _ _ (hm2 k hk)) (hP _ _ ho)⟩
  · obtain ⟨e1, -, p1, -⟩ := hc a ha
    obtain ⟨e2, -, p2, -⟩ := hc c hc2
    exact psK_inj ha hc2 (hD.1 _ _ _ _ p1 p2 e)
  · have := hD.1 _ _ _ _ (hm2 a ha) (hm2 c hc2) e
    omega
  · obtain ⟨e1, -, p1, -⟩ := hc a ha
    have h1 := hD.1 _ _ _ _ p1 (hm2 c hc2) e
    have h2 := psK_lt ha
    omega
  · obtain ⟨e1, p0, p1, -⟩ := hc a ha
    exact ⟨hD.2 _ _ p1, hlt _ _ p0⟩
  · exact ⟨hD.2 _ _ (hm2 c hc2), hlt _ _ (hm c hc2)⟩
  · obtain ⟨e1, -, p1, p2⟩ := hc k hk
    exact p2 D _ H (hP _ _ p1)
