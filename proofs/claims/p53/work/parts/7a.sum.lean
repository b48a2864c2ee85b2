/-! THE OBJECT AND THE LAW'S ROW OF 64 LONGS, AS ONE WORLD -/
/-- a long out of two ints -/
def dec (f : Nat → Int32) (i : Nat) : Int64 := Int64.ofInt ((f (2 * i)).toInt * 4294967296 + (f (2 * i + 1)).toInt % 4294967296)
def enc (g : Nat → Int64) (j : Nat) : Int32 := if j % 2 = 0 then Int32.ofInt ((g (j / 2)).toInt / 4294967296) else Int32.ofInt (g (j / 2)).toInt
theorem dec_enc (g : Nat → Int64) (i : Nat) : dec (enc g) i = g i := by
  have h1 := (g i).le_toInt
  have h2 := (g i).toInt_lt
  have e1 : (enc g (2 * i)).toInt = (g i).toInt / 4294967296 := by
    unfold enc
    rw [if_pos (by omega), show 2 * i / 2 = i by omega, Int32.toInt_ofInt, show Int32.size = 4294967296 from rfl]
    unfold Int.bmod
    dsimp only
    split <;> omega
  have e2 : (enc g (2 * i + 1)).toInt % 4294967296 = (g i).toInt % 4294967296 := by
    unfold enc
    rw [if_neg (by omega), show (2 * i + 1) / 2 = i by omega, Int32.toInt_ofInt, show Int32.size = 4294967296 from rfl]
    unfold Int.bmod
    dsimp only
    split <;> omega
  unfold dec
  rw [e1, e2, show (g i).toInt / 4294967296 * 4294967296 + (g i).toInt % 4294967296 = (g i).toInt by omega]
  exact Int64.ofInt_toInt _
abbrev kS : Type := kC ⊕ Unit
abbrev mS : Type := kS → Nat → Int32
def m2 (v : mC) (o : Nat → Int32) : mS
  | .inl k => v k
  | .inr _ => o
/-- where all lies: the classes, the array classes, the object's cells, the row, the first young cell, the script, its length, its ints -/
abbrev pS : Type := va_G × (Nat → ClassId) × (kC → Nat) × Nat × Nat × Nat × Nat × (Nat → Int32)
def okS : kS → Prop
  | .inl k => okC k
  | .inr _ => True
def adS (P : pS) : kS → Nat
  | .inl k => P.2.2.1 k
  | .inr _ => P.2.2.2.1
def ceS (P : pS) : kS → (Nat → Int32) → va_E
  | .inl k, f => ceC P.2.1 P.2.2.1 k f
  | .inr _, f => .inl (P.2.1 4, 64, .inr (.inl (dec f)))
def WA (A : Nat → Prop) (U : State) (H : Heap) : Prop := XN U ∧ XCC A U H ∧ ∀ q ∈ ncW, va_Nc q.1 q.2 U
theorem WA_keep {A : Nat → Prop} {u U : State} {H H1 : Heap} (hW : u.WarmedH U.vm) (hq : ∀ q : Nat, q < H.size → ¬ A q → H1[q]? = H[q]?) (h : WA A u H) : WA A U H1 := ⟨XN_warm hW h.1, XCC_keep hW hq h.2.1, fun q hq => (h.2.2 q hq).moved hW.alike⟩
def XS (P : pS) (U : State) (H : Heap) : Prop := WA (fun q => P.2.2.2.2.1 ≤ q) U H ∧ va_X P.2.2.2.2.2.1 P.2.2.2.2.2.2.1 P.2.2.2.2.2.2.2 U H ∧ P.2.2.2.2.2.1 < P.2.2.2.2.1 ∧ P.2.2.2.2.1 ≤ H.size
def aCf (P : pS) (q : Nat) : Prop := (∃ k, okC k ∧ q = P.2.2.1 k) ∨ P.2.2.2.1 < q
def lS (P : pS) : jL kS := (P.1, P.2.1, okS, adS P, ceS P, (fun q => P.2.2.2.2.1 ≤ q), P.2.2.2.2.1, XS P)
def lC (P : pS) : jL kC := (P.1, P.2.1, okC, P.2.2.1, ceC P.2.1 P.2.2.1, aCf P, P.2.2.2.1 + 1, WA (aCf P))
def Ap (P : pS) : Prop := (∀ a b, okC a → okC b → P.2.2.1 a = P.2.2.1 b → a = b) ∧ (∀ a, okC a → P.2.2.2.2.1 ≤ P.2.2.1 a ∧ P.2.2.1 a < P.2.2.2.1) ∧ P.2.2.2.2.1 ≤ P.2.2.2.1
theorem aC_le {P : pS} (hP : Ap P) : ∀ q, aCf P q → P.2.2.2.2.1 ≤ q := fun q h => by
  rcases h with ⟨k, h1, h2⟩ | h
  · rw [h2]; exact (hP.2.1 k h1).1
  · have := hP.2.2; omega
theorem lC_ok {P : pS} (hP : Ap P) : LC (lC P) := ⟨⟨okC_fin, hP.1, fun k hk => Or.inl ⟨k, hk, rfl⟩, fun q hq => Or.inr hq, fun u U H H1 hW hX _ hq => WA_keep hW hq hX⟩, fun k => Iff.rfl, rfl, fun U H h => ⟨h.1.1, h.2.1⟩⟩
theorem lC_nc {P : pS} : Xnc (lC P) := fun U H h => ⟨h.2.2, h.1.2.1, h.1.2.2⟩
theorem XS_keep {P : pS} {u U : State} {H H1 : Heap} (hW : u.WarmedH U.vm) (hz : H.size ≤ H1.size) (hq : ∀ q : Nat, q < H.size → ¬ P.2.2.2.2.1 ≤ q → H1[q]? = H[q]?) (h : XS P u H) : XS P U H1 := by
  obtain ⟨h1, h3, h4, h5⟩ := h
  exact ⟨WA_keep hW hq h1, (h3.moved hW.alike).kept (hq _ (by omega) (by omega)), h4, Nat.le_trans h5 hz⟩
theorem lS_ok {P : pS} (hP : Ap P) : jLok (lS P) := by
  obtain ⟨ks, hks⟩ := okC_fin
  refine ⟨⟨ks.map .inl ++ [.inr ()], fun k => ?_⟩, fun a b ha hb e => ?_, fun k hk => ?_, fun q hq => hq, fun u U H H1 hW hX hz hq => XS_keep hW hz hq hX⟩
  · rcases k with k | k
    · constructor
      · intro h
        exact List.mem_append_left _ (List.mem_map.mpr ⟨k, (hks k).mp h, rfl⟩)
      · intro h
        rcases List.mem_append.mp h with h | h
        · obtain ⟨k', h1, h2⟩ := List.mem_map.mp h
          cases h2
          exact (hks k).mpr h1
        · cases List.mem_singleton.mp h
    · exact ⟨fun _ => List.mem_append_right _ (List.mem_singleton.mpr rfl), fun _ => trivial⟩
  · rcases a with a | a <;> rcases b with b | b
    · exact congrArg _ (hP.1 a b ha hb e)
    · exact absurd e (Nat.ne_of_lt (hP.2.1 a ha).2)
    · exact absurd e.symm (Nat.ne_of_lt (hP.2.1 b hb).2)
    · rfl
  · rcases k with k | k
    · exact (hP.2.1 k hk).1
    · exact hP.2.2
section LF
variable {P : pS} {v v' : mC} {o o' : Nat → Int32} {H H1 : Heap}
theorem rp_C (h : Rp (lS P) (m2 v o) H) : Rp (lC P) v H := fun k hk => h (.inl k) hk
theorem rp_O (h : Rp (lS P) (m2 v o) H) : va_at P.1 vwCl (P.2.2.2.1, .inl (P.2.1 4, 64, .inr (.inl (dec o)))) H := h (.inr ()) trivial
theorem rp_S (h1 : Rp (lC P) v H) (h3 : va_at P.1 vwCl (P.2.2.2.1, .inl (P.2.1 4, 64, .inr (.inl (dec o)))) H) : Rp (lS P) (m2 v o) H := fun k hk => by
  rcases k with k | k
  · exact h1 k hk
  · exact h3
theorem st_C (hP : Ap P) {U : State} (h : St (lS P) (m2 v o) U) : St (lC P) v U := by
  obtain ⟨h1, h2, h3, h4⟩ := h
  exact ⟨(rp_O h2).lt, rp_C h2, h3, h4.1.1, XCC_narrow (aC_le hP) h4.1.2.1, h4.1.2.2⟩
theorem fr_C (hP : Ap P) (h : Rp (lS P) (m2 v o) H) (hk : ∀ q : Nat, q < H.size → ¬ aCf P q → H1[q]? = H[q]?) (h1 : Rp (lC P) v' H1) : Rp (lS P) (m2 v' o) H1 := by
  refine rp_S h1 ?_
  have a := rp_O h
  refine a.kept (hk _ a.lt (fun q => ?_))
  rcases q with ⟨k', g1, g2⟩ | q
  · exact absurd g2.symm (Nat.ne_of_lt (hP.2.1 k' g1).2)
  · exact Nat.lt_irrefl _ q
theorem f_up {A B : Nat → Prop} (hAB : ∀ q, A q → B q) {st t : State} (h : va_F A st t) : va_F B st t := ⟨h.1, fun q h1 h2 => h.2 q h1 (fun z => h2 (hAB q z))⟩
variable {l : Launch} {y : MethodName} {ws : List Cond} {rm : Room} {args : List Value} {ov : Option Value}
theorem lift_C (hP : Ap P) (h : Ct l y ws rm (lC P) args v ov v') : Ct l y ws rm (lS P) args (m2 v o) ov (m2 v' o) :=
  met_mono h (fun a U q => ⟨q.1, st_C hP q.2⟩) (fun a st z t hp hq => ⟨hq.1, fr_C hP hp.2.2.1 hq.2.2.2 hq.2.1, f_up (aC_le hP) hq.2.2⟩) (aC_le hP)
theorem lift_W (hP : Ap P) (h : Cw l y ws rm (lC P) args v ov v') : Cw l y ws rm (lS P) args (m2 v o) ov (m2 v' o) :=
  vx_mono h (fun a U q => ⟨q.1, st_C hP q.2⟩) (fun a st z t hp hq => ⟨hq.1, fr_C hP hp.2.2.1 hq.2.2.2 hq.2.1, f_up (aC_le hP) hq.2.2⟩) (fun _ _ _ _ _ h => h) (aC_le hP)
end LF
/-! ROWS -/
section LR
variable {ρ : Type} {κ : Type} {Γ : jG ρ} {cs : Nat × Nat} {pc : Nat} {ls : List (Nat × Value)} {st : List Value} {ex : Option ρ} {cc : ByteArray} {own : String} {Ts : List Cond} {rm : Room}
theorem sl_callV {Λ : jL κ} {v v' : κ → Nat → Int32} (hG : jOk Γ Λ cc own Ts rm) {y : MethodName} {ws ws' : List Cond} {bytes : ByteArray} {maxL n index ci : Nat} {ret : Option FieldType} {rmc : Room} {q : vw_C} {fs : List Value} {x : Value} (key : κ) (As : List Value) {stk : List Value} (pc2 : Nat) (hp : pc + 3 = pc2) (hok : Λ.2.2.1 key) (he : Λ.2.2.2.2.1 key (v key) = .inr (ci, fs)) (hc : vwCl[ci]? = some q)
    (hM : Ct Γ.1.2.1 y ws rmc Λ (.ref (Λ.2.2.2.1 key) :: As) v (some x) v') (hT : GoodIn Ts (wsV own index q.1 y ws)) (hw : ws = Cond.code y bytes maxL ret :: ws') (hd : y.cls = q.1 ∧ y.cls ≠ "java/lang/invoke/MethodHandle" ∧ y.cls ≠ "java/lang/invoke/VarHandle" ∧ (parseMethodDescriptor y.desc).map (fun d => d.parameters.length) = some n) (hRm : rmc.frames + 1 ≤ rm.frames ∧ 8 + (maxL + 11) + rmc.locals ≤ rm.locals) (hn : As.length = n) (hst : (st.map fun v => v.category).sum ≤ 8) (hz : rmc.cells = 0 ∧ rmc.slots = 0) (hcs : cs.1 ≤ rm.cells ∧ cs.2 ≤ rm.slots) (hstk : As.reverse ++ .ref (Λ.2.2.2.1 key) :: st = stk) (d : decode cc pc = .ok (.invokevirtual index, 3))
    (k : Sm Γ Λ cs pc2 ls (x :: st) v' ex) : Sm Γ Λ cs pc ls stk v ex :=
  sm_callV hG (F := some ()) (e2 := fun _ => ex) (fun _ => (some x, v')) key As pc2 hp hok he hc (fun _ _ => hM) hT hw hd hRm hn hst hz hcs hstk d (fun _ => k)
theorem sl_callS {Λ : jL κ} {v v' : κ → Nat → Int32} (hG : jOk Γ Λ cc own Ts rm) {y : MethodName} {ws ws' : List Cond} {bytes : ByteArray} {maxL n index : Nat} {ret : Option FieldType} {rmc : Room} {x : Value} (As : List Value) {stk : List Value} (pc2 : Nat) (hp : pc + 3 = pc2)
    (hM : Ct Γ.1.2.1 y ws rmc Λ As v (some x) v') (hT : GoodIn Ts (va_wsS own index y ws)) (hw : ws = Cond.code y bytes maxL ret :: ws') (hd : y.cls ≠ "java/lang/invoke/MethodHandle" ∧ y.cls ≠ "java/lang/invoke/VarHandle" ∧ (parseMethodDescriptor y.desc).map (fun d => d.parameters.length) = some n) (hRm : rmc.frames + 1 ≤ rm.frames ∧ 8 + (maxL + 11) + rmc.locals ≤ rm.locals) (hn : As.length = n) (hst : (st.map fun v => v.category).sum ≤ 8) (cs2 : Nat × Nat) (hz : cs.1 + rmc.cells = cs2.1 ∧ cs.2 + rmc.slots = cs2.2) (hcs : cs2.1 ≤ rm.cells ∧ cs2.2 ≤ rm.slots) (hstk : As.reverse ++ st = stk) (d : decode cc pc = .ok (.invokestatic index, 3))
    (k : Sm Γ Λ cs2 pc2 ls (x :: st) v' ex) : Sm Γ Λ cs pc ls stk v ex :=
  sm_callS2 hG (F := some ()) (e2 := fun _ => ex) (fun _ => (some x, v')) As pc2 hp (fun _ _ => hM) hT hw hd hRm hn hst cs2 hz hcs hstk d (fun _ => k)
variable {Λ : jL κ} {v : κ → Nat → Int32}
theorem sl_wide {cs2 : Nat × Nat} (h : cs.1 ≤ cs2.1 ∧ cs.2 ≤ cs2.2) (k : Sm Γ Λ cs2 pc ls st v ex) : Sm Γ Λ cs pc ls st v ex := fun r hr a H locs ha hR hS => W.widen h.1 h.2 (k r hr a H locs ha hR hS)
theorem sl_ine (hG : jOk Γ Λ cc own Ts rm) {x y : Int32} {off : Int} (tgt pc2 : Nat) (hp : pc + 3 = pc2) (d : decode cc pc = .ok (.if_icmp .ne off, 3)) (ht : (pc : Int) + off = (tgt : Int)) (k1 : ¬ x = y → Sm Γ Λ cs tgt ls st v ex) (k2 : x = y → Sm Γ Λ cs pc2 ls st v ex) : Sm Γ Λ cs pc ls (.int y :: .int x :: st) v ex := by
  subst hp; intro r hr a H locs ha hR hS; exact lv_icmp_ne hG.1 hG.2.1 d ht (fun q => k1 q r hr a H locs ha hR hS) (fun q => k2 q r hr a H locs ha hR hS)
theorem sl_ieq2 (hG : jOk Γ Λ cc own Ts rm) {x y : Int32} {off : Int} (tgt pc2 : Nat) (hp : pc + 3 = pc2) (d : decode cc pc = .ok (.if_icmp .eq off, 3)) (ht : (pc : Int) + off = (tgt : Int)) (k1 : x = y → Sm Γ Λ cs tgt ls st v ex) (k2 : ¬ x = y → Sm Γ Λ cs pc2 ls st v ex) : Sm Γ Λ cs pc ls (.int y :: .int x :: st) v ex := by
  subst hp; intro r hr a H locs ha hR hS; exact lv_icmp_eq hG.1 hG.2.1 d ht (fun q => k1 q r hr a H locs ha hR hS) (fun q => k2 q r hr a H locs ha hR hS)
theorem sl_le (hG : jOk Γ Λ cc own Ts rm) {x : Int32} {off : Int} (tgt pc2 : Nat) (hp : pc + 3 = pc2) (d : decode cc pc = .ok (.ifCond .le off, 3)) (ht : (pc : Int) + off = (tgt : Int)) (k1 : x ≤ 0 → Sm Γ Λ cs tgt ls st v ex) (k2 : ¬ x ≤ 0 → Sm Γ Λ cs pc2 ls st v ex) : Sm Γ Λ cs pc ls (.int x :: st) v ex := by
  subst hp; intro r hr a H locs ha hR hS; exact lv_if_le hG.1 hG.2.1 d ht (fun q => k1 q r hr a H locs ha hR hS) (fun q => k2 q r hr a H locs ha hR hS)
theorem sl_gez (hG : jOk Γ Λ cc own Ts rm) {x : Int32} {off : Int} (tgt pc2 : Nat) (hp : pc + 3 = pc2) (d : decode cc pc = .ok (.ifCond .ge off, 3)) (ht : (pc : Int) + off = (tgt : Int)) (k1 : 0 ≤ x → Sm Γ Λ cs tgt ls st v ex) (k2 : ¬ 0 ≤ x → Sm Γ Λ cs pc2 ls st v ex) : Sm Γ Λ cs pc ls (.int x :: st) v ex := by
  subst hp; intro r hr a H locs ha hR hS; exact lv_if_ge hG.1 hG.2.1 d ht (fun q => k1 q r hr a H locs ha hR hS) (fun q => k2 q r hr a H locs ha hR hS)
end LR
section LP
variable {ρ : Type} {Γ : jG ρ} {P : pS} {cs : Nat × Nat} {pc : Nat} {ls : List (Nat × Value)} {st : List Value} {v : mC} {m : mS} {o : Nat → Int32} {ex : Option ρ} {cc : ByteArray} {own : String} {Ts : List Cond} {rm : Room}
/-- the row with a long laid -/
def oL (o : Nat → Int32) (i : Nat) (x : Int64) : Nat → Int32 := enc (fun j => if j = i then x else dec o j)
theorem oL_at (o : Nat → Int32) (i : Nat) (x : Int64) (j : Nat) : dec (oL o i x) j = if j = i then x else dec o j := dec_enc _ j
theorem row_in {n : Nat} (h : n < 64) : vp_in (nI n) 64 ∧ ix (nI n) = n := ⟨inb_in (qi_inb h (by omega)), qi_ix (by omega)⟩
theorem sl_out (hG : jOk Γ (lS P) cc own Ts rm) {n : Nat} (hn : n < 64) {x : Int64} (pc2 : Nat) (hp : pc + 1 = pc2) (d : decode cc pc = .ok (.lastore, 1)) (k : Sm Γ (lS P) cs pc2 ls st (m2 v (oL o n x)) ex) : Sm Γ (lS P) cs pc ls (.long x :: .int (nI n) :: .ref P.2.2.2.1 :: st) (m2 v o) ex := by
  refine sl_last hG (.inr ()) (i := nI n) (f := dec o) (n := 64) pc2 hp (row_in hn).1 trivial rfl d (m2 v (oL o n x)) (fun z _ hz => ?_) ?_ k
  · rcases z with z | z
    · rfl
    · exact absurd rfl hz
  · show (Sum.inl (P.2.1 4, 64, Sum.inr (Sum.inl (dec (oL o n x)))) : va_E) = _
    have e : dec (oL o n x) = vp_updL (dec o) (ix (nI n)) x := funext fun j => by
      rw [oL_at, (row_in hn).2]
      rfl
    rw [e]
    rfl
theorem sl_in (hG : jOk Γ (lS P) cc own Ts rm) {n : Nat} (hn : n < 64) (pc2 : Nat) (hp : pc + 1 = pc2) (d : decode cc pc = .ok (.laload, 1)) (k : Sm Γ (lS P) cs pc2 ls (.long (dec o n) :: st) (m2 v o) ex) : Sm Γ (lS P) cs pc ls (.int (nI n) :: .ref P.2.2.2.1 :: st) (m2 v o) ex := by
  refine sl_lald hG (.inr ()) (i := nI n) (f := dec o) (n := 64) pc2 hp (row_in hn).1 trivial rfl d ?_
  rw [(row_in hn).2]
  exact k
theorem sl_sld (hG : jOk Γ (lS P) cc own Ts rm) {i : Int32} (pc2 : Nat) (hp : pc + 1 = pc2) (hi : vp_in i P.2.2.2.2.2.2.1) (d : decode cc pc = .ok (.iaload, 1)) (k : Sm Γ (lS P) cs pc2 ls (.int (P.2.2.2.2.2.2.2 (ix i)) :: st) m ex) : Sm Γ (lS P) cs pc ls (.int i :: .ref P.2.2.2.2.2.1 :: st) m ex := by
  subst hp; intro r hr a H locs ha hR hS
  have hX : XS P _ _ := hG.2.2.2.2.2.2.2.2.2
  exact va_sld hG.1 hG.2.1 hX.2.1 (Nat.lt_of_lt_of_le hX.2.2.1 hX.2.2.2) (Nat.not_le.mpr hX.2.2.1) hS hi d (k r hr a H locs ha hR hS)
theorem sl_slen (hG : jOk Γ (lS P) cc own Ts rm) (pc2 : Nat) (hp : pc + 1 = pc2) (d : decode cc pc = .ok (.arraylength, 1)) (k : Sm Γ (lS P) cs pc2 ls (.int (nI P.2.2.2.2.2.2.1) :: st) m ex) : Sm Γ (lS P) cs pc ls (.ref P.2.2.2.2.2.1 :: st) m ex := by
  subst hp; intro r hr a H locs ha hR hS
  have hX : XS P _ _ := hG.2.2.2.2.2.2.2.2.2
  exact va_slen hG.1 hG.2.1 hX.2.1 (Nat.lt_of_lt_of_le hX.2.2.1 hX.2.2.2) (Nat.not_le.mpr hX.2.2.1) hS d (k r hr a H locs ha hR hS)
theorem ceS_0 : (lS P).2.2.2.2.1 (.inl (0, 0, 0)) (m2 v o (.inl (0, 0, 0))) = .inr (6, [.ref (P.2.2.1 (1, 0, 0)), .ref (P.2.2.1 (1, 1, 0)), .ref (P.2.2.1 (1, 2, 0)), .int (v (0, 0, 0) 3), .ref (P.2.2.1 (31, 0, 0)), .int (v (0, 0, 0) 5), .ref (P.2.2.1 (32, 0, 0)), .ref (P.2.2.1 (35, 0, 0))]) := rfl
theorem okS_0 : (lS P).2.2.1 (.inl (0, 0, 0)) := Or.inl ⟨rfl, rfl, rfl⟩
end LP
