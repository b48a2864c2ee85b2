/-! BOTH SIDES AND THE LAW'S ROW OF ONE LONG, AS ONE WORLD -/
theorem met_mono {l : Launch} {y : MethodName} {ws : List Cond} {rm : Room} {P P' : Array Value → State → Prop} {Q Q' : Array Value → State → Outcome → State → Prop} {mc ms : Nat} {A A' : Addr → Prop} (hM : Met l y ws rm P Q mc ms A) (hP : ∀ a U, P' a U → P a U) (hQ : ∀ a st o t, P' a st → Q a st o t → Q' a st o t) (hA : ∀ q, A q → A' q) : Met l y ws rm P' Q' mc ms A' := by
  intro p e h1 h2 h3 s m args below hfr happ hp hk
  obtain ⟨n, o, a1, a2, a3, a4, L, b1, b2⟩ := hM p e h1 h2 h3 s m args below hfr happ (hP _ _ hp) hk
  exact ⟨n, o, a1, a2, a3, hQ _ _ _ _ hp a4, L, b1, fun q hq => hA _ (b2 q hq)⟩
theorem vx_mono {l : Launch} {y : MethodName} {ws : List Cond} {rm : Room} {P P' : Array Value → State → Prop} {Q Q' : Array Value → State → Outcome → State → Prop} {X X' : String → State → State → Prop} {mc ms : Nat} {A A' : Addr → Prop} (hM : vx_Met l y ws rm P Q X mc ms A) (hP : ∀ a U, P' a U → P a U) (hQ : ∀ a st o t, P' a st → Q a st o t → Q' a st o t) (hX : ∀ a E st t, P' a st → X E st t → X' E st t) (hA : ∀ q, A q → A' q) : vx_Met l y ws rm P' Q' X' mc ms A' := by
  intro p e h1 h2 h3 s m args below hfr happ hp hk
  obtain ⟨n, o, a1, a2, a3, a4⟩ := hM p e h1 h2 h3 s m args below hfr happ (hP _ _ hp) hk
  refine ⟨n, o, a1, a2, a3, ?_⟩
  rcases a4 with ⟨q, L, b1, b2⟩ | ⟨q, ho, E, ce, L, x1, x2, x3, x4, x5, x6, x7⟩
  · exact Or.inl ⟨hQ _ _ _ _ hp q, L, b1, fun z hz => hA _ (b2 z hz)⟩
  · exact Or.inr ⟨q, ho, E, ce, L, hX _ E s _ hp x1, x2, x3, x4, x5, x6, fun z hz => hA _ (x7 z hz)⟩
theorem faceW_warm {u U : State} (hW : u.WarmedH U.vm) (h : ∀ w ∈ faceW, va_Nw w u) : ∀ w ∈ faceW, va_Nw w U := fun w hw => Cond.onTables_warmFace (args' := #[]) (T := U) (vm₁ := U.vm) hW (faceW_ot w hw) (faceW_kf w hw) (h w hw)
theorem XCC_keep {A : Nat → Prop} {u U : State} {H H1 : Heap} (hW : u.WarmedH U.vm) (hq : ∀ q : Nat, q < H.size → ¬ A q → H1[q]? = H[q]?) (h : XCC A u H) : XCC A U H1 := by
  obtain ⟨⟨h1, h2, h3⟩, ⟨⟨a1, r1⟩, ⟨a2, r2⟩, ⟨a3, r3⟩⟩, ⟨⟨t1, z1, y1⟩, ⟨t2, z2, y2⟩, ⟨t3, z3, y3⟩⟩, ⟨adK, adV, s1, s2, s3⟩, z4, tS, z5⟩ := h
  have hv := hW.alike
  exact ⟨⟨(h1.moved hv).kept hq, (h2.moved hv).kept hq, faceW_warm hW h3⟩, ⟨⟨a1, r1.warm hW⟩, ⟨a2, r2.warm hW⟩, ⟨a3, r3.warm hW⟩⟩, ⟨⟨t1, (z1.moved hv).kept hq, (y1.moved hv).kept hq⟩, ⟨t2, (z2.moved hv).kept hq, (y2.moved hv).kept hq⟩, ⟨t3, (z3.moved hv).kept hq, (y3.moved hv).kept hq⟩⟩, ⟨adK, adV, (s1.moved hv).kept hq, s2.warm hW, s3.warm hW⟩, (z4.moved hv).kept hq, tS, z5.1, (z5.2.moved hv).kept hq⟩
theorem XCC_narrow {A B : Nat → Prop} {U : State} {H : Heap} (hAB : ∀ q, B q → A q) (h : XCC A U H) : XCC B U H := by
  obtain ⟨⟨h1, h2, h3⟩, hR, ⟨⟨t1, z1, y1⟩, ⟨t2, z2, y2⟩, ⟨t3, z3, y3⟩⟩, ⟨adK, adV, s1, s2, s3⟩, z4, tS, z5⟩ := h
  exact ⟨⟨h1.narrow hAB, h2.narrow hAB, h3⟩, hR, ⟨⟨t1, z1.narrow hAB, y1.narrow hAB⟩, ⟨t2, z2.narrow hAB, y2.narrow hAB⟩, ⟨t3, z3.narrow hAB, y3.narrow hAB⟩⟩, ⟨adK, adV, s1.narrow hAB, s2, s3⟩, z4.narrow hAB, tS, z5.1, z5.2.narrow hAB⟩
abbrev kS : Type := kC ⊕ (Nat ⊕ Unit)
abbrev mS : Type := kS → Nat → Int32
def m3 (v : mC) (w : mM) (o : Nat → Int32) : mS
  | .inl k => v k
  | .inr (.inl k) => w k
  | .inr (.inr _) => o
/-- where all lies: the classes, the array classes, the cells of the class and of the reference, the row, the first young cell, the script, its length, its ints -/
abbrev pS : Type := va_G × (Nat → ClassId) × (kC → Nat) × (Nat → Nat) × Nat × Nat × Nat × Nat × (Nat → Int32)
def okS : kS → Prop
  | .inl k => okC k
  | .inr (.inl k) => k < 11
  | .inr (.inr _) => True
def adS (P : pS) : kS → Nat
  | .inl k => P.2.2.1 k
  | .inr (.inl k) => P.2.2.2.1 k
  | .inr (.inr _) => P.2.2.2.2.1
def ceS (P : pS) : kS → (Nat → Int32) → va_E
  | .inl k, f => ceC P.2.1 P.2.2.1 k f
  | .inr (.inl k), f => ceM P.2.1 P.2.2.2.1 k f
  | .inr (.inr _), f => .inl (P.2.1 4, 1, .inr (.inl (fun i => (f i).toInt64)))
/-- pairs of classes that the law's handlers tell apart -/
def ncW : List (String × String) := [(exN 1, exN 2), (exN 1, exN 3), (exN 2, exN 1), (exN 2, exN 3), (exN 3, exN 1), (exN 3, exN 2)]
def XS (P : pS) (U : State) (H : Heap) : Prop := ((∀ w ∈ nestW, va_Nw w U) ∧ XCC (fun q => P.2.2.2.2.2.1 ≤ q) U H) ∧ (va_X P.2.2.2.2.2.2.1 P.2.2.2.2.2.2.2.1 P.2.2.2.2.2.2.2.2 U H ∧ P.2.2.2.2.2.2.1 < P.2.2.2.2.2.1 ∧ P.2.2.2.2.2.1 ≤ H.size) ∧ ∀ q ∈ ncW, va_Nc q.1 q.2 U
def aCf (P : pS) (q : Nat) : Prop := (∃ k, okC k ∧ q = P.2.2.1 k) ∨ P.2.2.2.2.1 < q
def aMf (P : pS) (q : Nat) : Prop := (∃ k, k < 11 ∧ q = P.2.2.2.1 k) ∨ P.2.2.2.2.1 < q
def lS (P : pS) : jL kS := (P.1, P.2.1, okS, adS P, ceS P, (fun q => P.2.2.2.2.2.1 ≤ q), P.2.2.2.2.2.1, XS P)
def lC (P : pS) : jL kC := (P.1, P.2.1, okC, P.2.2.1, ceC P.2.1 P.2.2.1, aCf P, P.2.2.2.2.1 + 1, fun U H => (∀ w ∈ nestW, va_Nw w U) ∧ XCC (aCf P) U H)
def lM (P : pS) : jL Nat := (P.1, P.2.1, (fun k => k < 11), P.2.2.2.1, ceM P.2.1 P.2.2.2.1, aMf P, P.2.2.2.2.1 + 1, fun _ _ => True)
def Ap (P : pS) : Prop := (∀ a b, okC a → okC b → P.2.2.1 a = P.2.2.1 b → a = b) ∧ (∀ a b, a < 11 → b < 11 → P.2.2.2.1 a = P.2.2.2.1 b → a = b) ∧ (∀ a b, okC a → b < 11 → P.2.2.1 a ≠ P.2.2.2.1 b) ∧ (∀ a, okC a → P.2.2.2.2.2.1 ≤ P.2.2.1 a ∧ P.2.2.1 a < P.2.2.2.2.1) ∧ (∀ b, b < 11 → P.2.2.2.2.2.1 ≤ P.2.2.2.1 b ∧ P.2.2.2.1 b < P.2.2.2.2.1) ∧ P.2.2.2.2.2.1 ≤ P.2.2.2.2.1
theorem okC_fin : ∃ ks : List kC, ∀ k, okC k ↔ k ∈ ks := by
  refine ⟨((List.range 41).flatMap fun a => (List.range 7).flatMap fun b => (List.range 20).map fun c => (a, b, c)).filter (fun k => @decide (okC k) (Classical.propDecidable _)), fun k => ?_⟩
  rw [List.mem_filter]
  constructor
  · intro h
    refine ⟨?_, @decide_eq_true _ (Classical.propDecidable _) h⟩
    obtain ⟨a, b, c⟩ := k
    have h2 : a < 41 ∧ b < 7 ∧ c < 20 := by
      unfold okC at h
      dsimp only at h
      omega
    rw [List.mem_flatMap]
    refine ⟨a, List.mem_range.mpr h2.1, ?_⟩
    rw [List.mem_flatMap]
    exact ⟨b, List.mem_range.mpr h2.2.1, List.mem_map.mpr ⟨c, List.mem_range.mpr h2.2.2, rfl⟩⟩
  · intro h
    exact @of_decide_eq_true _ (Classical.propDecidable _) h.2
theorem aC_le {P : pS} (hP : Ap P) : ∀ q, aCf P q → P.2.2.2.2.2.1 ≤ q := fun q h => by
  rcases h with ⟨k, h1, h2⟩ | h
  · rw [h2]; exact (hP.2.2.2.1 k h1).1
  · have := hP.2.2.2.2.2; omega
theorem aM_le {P : pS} (hP : Ap P) : ∀ q, aMf P q → P.2.2.2.2.2.1 ≤ q := fun q h => by
  rcases h with ⟨k, h1, h2⟩ | h
  · rw [h2]; exact (hP.2.2.2.2.1 k h1).1
  · have := hP.2.2.2.2.2; omega
theorem lC_ok {P : pS} (hP : Ap P) : LC (lC P) := by
  refine ⟨⟨okC_fin, hP.1, fun k hk => Or.inl ⟨k, hk, rfl⟩, fun q hq => Or.inr hq, fun u U H H1 hW hX _ hq => ⟨nest_warm hW hX.1, XCC_keep hW hq hX.2⟩⟩, fun k => Iff.rfl, rfl, fun U H h => h⟩
theorem lM_ok {P : pS} (hP : Ap P) : LM (lM P) := by
  refine ⟨⟨⟨List.range 11, fun k => List.mem_range.symm⟩, hP.2.1, fun k hk => Or.inl ⟨k, hk, rfl⟩, fun q hq => Or.inr hq, fun _ _ _ _ _ _ _ _ => trivial⟩, fun k => Iff.rfl, rfl⟩
theorem XS_keep {P : pS} {u U : State} {H H1 : Heap} (hW : u.WarmedH U.vm) (hz : H.size ≤ H1.size) (hq : ∀ q : Nat, q < H.size → ¬ P.2.2.2.2.2.1 ≤ q → H1[q]? = H[q]?) (h : XS P u H) : XS P U H1 := by
  obtain ⟨⟨h1, h2⟩, ⟨h3, h4, h5⟩, h6⟩ := h
  exact ⟨⟨nest_warm hW h1, XCC_keep hW hq h2⟩, ⟨(h3.moved hW.alike).kept (hq _ (by omega) (by omega)), h4, Nat.le_trans h5 hz⟩, fun q hq => (h6 q hq).moved hW.alike⟩
theorem lS_ok {P : pS} (hP : Ap P) : jLok (lS P) := by
  obtain ⟨ks, hks⟩ := okC_fin
  refine ⟨⟨ks.map .inl ++ ((List.range 11).map (fun k => .inr (.inl k)) ++ [.inr (.inr ())]), fun k => ?_⟩, fun a b ha hb e => ?_, fun k hk => ?_, fun q hq => hq, fun u U H H1 hW hX hz hq => XS_keep hW hz hq hX⟩
  · rcases k with k | k | k
    · constructor
      · intro h
        exact List.mem_append_left _ (List.mem_map.mpr ⟨k, (hks k).mp h, rfl⟩)
      · intro h
        rcases List.mem_append.mp h with h | h
        · obtain ⟨k', h1, h2⟩ := List.mem_map.mp h
          cases h2
          exact (hks k).mpr h1
        · rcases List.mem_append.mp h with h | h
          · obtain ⟨k', h1, h2⟩ := List.mem_map.mp h
            cases h2
          · cases List.mem_singleton.mp h
    · constructor
      · intro h
        exact List.mem_append_right _ (List.mem_append_left _ (List.mem_map.mpr ⟨k, List.mem_range.mpr h, rfl⟩))
      · intro h
        rcases List.mem_append.mp h with h | h
        · obtain ⟨k', h1, h2⟩ := List.mem_map.mp h
          cases h2
        · rcases List.mem_append.mp h with h | h
          · obtain ⟨k', h1, h2⟩ := List.mem_map.mp h
            cases h2
            exact List.mem_range.mp h1
          · cases List.mem_singleton.mp h
    · exact ⟨fun _ => List.mem_append_right _ (List.mem_append_right _ (List.mem_singleton.mpr rfl)), fun _ => trivial⟩
  · rcases a with a | a | a <;> rcases b with b | b | b
    · exact congrArg _ (hP.1 a b ha hb e)
    · exact absurd e (hP.2.2.1 a b ha hb)
    · exact absurd e (Nat.ne_of_lt (hP.2.2.2.1 a ha).2)
    · exact absurd e.symm (hP.2.2.1 b a hb ha)
    · exact congrArg _ (congrArg _ (hP.2.1 a b ha hb e))
    · exact absurd e (Nat.ne_of_lt (hP.2.2.2.2.1 a ha).2)
    · exact absurd e.symm (Nat.ne_of_lt (hP.2.2.2.1 b hb).2)
    · exact absurd e.symm (Nat.ne_of_lt (hP.2.2.2.2.1 b hb).2)
    · rfl
  · rcases k with k | k | k
    · exact (hP.2.2.2.1 k hk).1
    · exact (hP.2.2.2.2.1 k hk).1
    · exact hP.2.2.2.2.2
section LF
variable {P : pS} {v v' : mC} {w w' : mM} {o o' : Nat → Int32} {H H1 : Heap}
theorem rp_C (h : Rp (lS P) (m3 v w o) H) : Rp (lC P) v H := fun k hk => h (.inl k) hk
theorem rp_M (h : Rp (lS P) (m3 v w o) H) : Rp (lM P) w H := fun k hk => h (.inr (.inl k)) hk
theorem rp_O (h : Rp (lS P) (m3 v w o) H) : va_at P.1 vwCl (P.2.2.2.2.1, .inl (P.2.1 4, 1, .inr (.inl (fun i => (o i).toInt64)))) H := h (.inr (.inr ())) trivial
theorem rp_S (h1 : Rp (lC P) v H) (h2 : Rp (lM P) w H) (h3 : va_at P.1 vwCl (P.2.2.2.2.1, .inl (P.2.1 4, 1, .inr (.inl (fun i => (o i).toInt64)))) H) : Rp (lS P) (m3 v w o) H := fun k hk => by
  rcases k with k | k | k
  · exact h1 k hk
  · exact h2 k hk
  · exact h3
theorem st_C (hP : Ap P) {U : State} (h : St (lS P) (m3 v w o) U) : St (lC P) v U := by
  obtain ⟨h1, h2, h3, h4⟩ := h
  exact ⟨(rp_O h2).lt, rp_C h2, h3, h4.1.1, XCC_narrow (aC_le hP) h4.1.2⟩
theorem st_M (hP : Ap P) {U : State} (h : St (lS P) (m3 v w o) U) : St (lM P) w U := by
  obtain ⟨h1, h2, h3, h4⟩ := h
  exact ⟨(rp_O h2).lt, rp_M h2, h3, trivial⟩
theorem fr_C (hP : Ap P) (h : Rp (lS P) (m3 v w o) H) (hk : ∀ q : Nat, q < H.size → ¬ aCf P q → H1[q]? = H[q]?) (h1 : Rp (lC P) v' H1) : Rp (lS P) (m3 v' w o) H1 := by
  refine rp_S h1 (fun k hk2 => ?_) ?_
  · have a := rp_M h k hk2
    refine a.kept (hk _ a.lt (fun q => ?_))
    rcases q with ⟨k', g1, g2⟩ | q
    · exact hP.2.2.1 k' k g1 hk2 g2.symm
    · exact absurd q (Nat.not_lt.mpr (Nat.le_of_lt (hP.2.2.2.2.1 k hk2).2))
  · have a := rp_O h
    refine a.kept (hk _ a.lt (fun q => ?_))
    rcases q with ⟨k', g1, g2⟩ | q
    · exact absurd g2.symm (Nat.ne_of_lt (hP.2.2.2.1 k' g1).2)
    · exact Nat.lt_irrefl _ q
theorem fr_M (hP : Ap P) (h : Rp (lS P) (m3 v w o) H) (hk : ∀ q : Nat, q < H.size → ¬ aMf P q → H1[q]? = H[q]?) (h1 : Rp (lM P) w' H1) : Rp (lS P) (m3 v w' o) H1 := by
  refine rp_S (fun k hk2 => ?_) h1 ?_
  · have a := rp_C h k hk2
    refine a.kept (hk _ a.lt (fun q => ?_))
    rcases q with ⟨k', g1, g2⟩ | q
    · exact hP.2.2.1 k k' hk2 g1 g2
    · exact absurd q (Nat.not_lt.mpr (Nat.le_of_lt (hP.2.2.2.1 k hk2).2))
  · have a := rp_O h
    refine a.kept (hk _ a.lt (fun q => ?_))
    rcases q with ⟨k', g1, g2⟩ | q
    · exact absurd g2.symm (Nat.ne_of_lt (hP.2.2.2.2.1 k' g1).2)
    · exact Nat.lt_irrefl _ q
theorem f_up {A B : Nat → Prop} (hAB : ∀ q, A q → B q) {st t : State} (h : va_F A st t) : va_F B st t := ⟨h.1, fun q h1 h2 => h.2 q h1 (fun z => h2 (hAB q z))⟩
variable {l : Launch} {y : MethodName} {ws : List Cond} {rm : Room} {args : List Value} {ov : Option Value}
theorem lift_C (hP : Ap P) (h : Ct l y ws rm (lC P) args v ov v') : Ct l y ws rm (lS P) args (m3 v w o) ov (m3 v' w o) :=
  met_mono h (fun a U q => ⟨q.1, st_C hP q.2⟩) (fun a st z t hp hq => ⟨hq.1, fr_C hP hp.2.2.1 hq.2.2.2 hq.2.1, f_up (aC_le hP) hq.2.2⟩) (aC_le hP)
theorem lift_M (hP : Ap P) (h : Ct l y ws rm (lM P) args w ov w') : Ct l y ws rm (lS P) args (m3 v w o) ov (m3 v w' o) :=
  met_mono h (fun a U q => ⟨q.1, st_M hP q.2⟩) (fun a st z t hp hq => ⟨hq.1, fr_M hP hp.2.2.1 hq.2.2.2 hq.2.1, f_up (aM_le hP) hq.2.2⟩) (aM_le hP)
theorem lift_X {k : Nat} (hP : Ap P) (h : Cx l y ws rm (lC P) args v ov k v') : Cx l y ws rm (lS P) args (m3 v w o) ov k (m3 v' w o) :=
  vx_mono h (fun a U q => ⟨q.1, st_C hP q.2⟩) (fun a st z t hp hq => ⟨hq.1, hq.2.1, fr_C hP hp.2.2.1 hq.2.2.2.2 hq.2.2.1, f_up (aC_le hP) hq.2.2.2⟩) (fun a E st t hp hq => ⟨hq.1, hq.2.1, fr_C hP hp.2.2.1 hq.2.2.2.2 hq.2.2.1, f_up (aC_le hP) hq.2.2.2⟩) (aC_le hP)
end LF
