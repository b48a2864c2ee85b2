/-! THE LETTER: what is read of an order, plainly -/
theorem pt_s : ∀ i, i < 20 → ¬ sgN i = 59 := by decide
theorem po_0 (T : Nat → Nat) (len i a : Nat) : po T len 0 i a = (true, a, fun _ => 0) := rfl
theorem po_b {T : Nat → Nat} {len r i a : Nat} (p : i = 4 ∧ ¬ (a < len ∧ T a = 98)) : po T len (r + 1) i a = ((po T len r (i + 1) a).1, (po T len r (i + 1) a).2.1, fun j => if j = i then 0 else (po T len r (i + 1) a).2.2 j) := if_pos p
theorem po_y {T : Nat → Nat} {len r i a : Nat} (p : ¬ (i = 4 ∧ ¬ (a < len ∧ T a = 98))) (p2 : a < len ∧ T a = sgN i) (p3 : okN T len i a = true) : po T len (r + 1) i a = ((po T len r (i + 1) (scN T len i a).1).1, (po T len r (i + 1) (scN T len i a).1).2.1, fun j => if j = i then (scN T len i a).2.1 else (po T len r (i + 1) (scN T len i a).1).2.2 j) :=
  (if_neg p).trans ((if_pos p2).trans (if_pos p3))
theorem po_n {T : Nat → Nat} {len r i a : Nat} (p : ¬ (i = 4 ∧ ¬ (a < len ∧ T a = 98))) (p2 : a < len ∧ T a = sgN i) (p3 : ¬ okN T len i a = true) : po T len (r + 1) i a = (false, (scN T len i a).1, fun _ => 0) :=
  (if_neg p).trans ((if_pos p2).trans (if_neg p3))
theorem po_x {T : Nat → Nat} {len r i a : Nat} (p : ¬ (i = 4 ∧ ¬ (a < len ∧ T a = 98))) (p2 : ¬ (a < len ∧ T a = sgN i)) : po T len (r + 1) i a = (false, a, fun _ => 0) :=
  (if_neg p).trans (if_neg p2)
theorem okN_e {T : Nat → Nat} {len i a : Nat} : okN T len i a = true ↔ ¬ isF T len (scN T len i a).1 ∧ 0 < (scN T len i a).2.2 ∧ loN i ≤ (scN T len i a).2.1 ∧ (scN T len i a).2.1 ≤ hiN i := by
  unfold okN isF
  rw [Bool.and_eq_true, decide_eq_true_eq, decide_eq_true_eq]
/-- figures alone are read -/
theorem sc_fig (T : Nat → Nat) (len lo hi : Nat) : ∀ (n a val d : Nat), (sc T len lo hi n a val d).1 + d = (sc T len lo hi n a val d).2.2 + a ∧ ∀ t, a ≤ t → t < (sc T len lo hi n a val d).1 → 48 ≤ T t ∧ T t ≤ 57
  | 0, a, val, d => ⟨Nat.add_comm a d, fun t h1 h2 => absurd h2 (by show ¬ t < a; omega)⟩
  | n + 1, a, val, d => by
    by_cases tb1 : tkB T len lo hi a val d = true
    · have es : sc T len lo hi (n + 1) a val d = sc T len lo hi n (a + 1) (10 * val + (T a - 48)) (d + 1) := if_pos tb1
      rw [es]
      obtain ⟨h1, h2⟩ := sc_fig T len lo hi n (a + 1) (10 * val + (T a - 48)) (d + 1)
      refine ⟨by omega, fun t t1 t2 => ?_⟩
      by_cases e : t = a
      · have hf := (of_decide_eq_true ((Bool.and_eq_true _ _).mp tb1).1).1
        rw [e]
        exact hf.2
      · exact h2 t (by omega) t2
    · have es : sc T len lo hi (n + 1) a val d = (a, val, d) := if_neg tb1
      rw [es]
      exact ⟨Nat.add_comm a d, fun t h1 h2 => absurd h2 (by show ¬ t < a; omega)⟩
theorem scN_b {T : Nat → Nat} {len i a : Nat} (ha : a < len) : a + 1 ≤ (scN T len i a).1 ∧ (scN T len i a).1 ≤ len := sc_le T len (loN i) (hiN i) (len - (a + 1)) (a + 1) 0 0 (by omega)
theorem scN_d {T : Nat → Nat} {len i a : Nat} : (scN T len i a).1 = (scN T len i a).2.2 + (a + 1) ∧ ∀ t, a + 1 ≤ t → t < (scN T len i a).1 → 48 ≤ T t ∧ T t ≤ 57 := sc_fig T len (loN i) (hiN i) (len - (a + 1)) (a + 1) 0 0
/-- place, numbers and signs of what was read -/
theorem po_f (T : Nat → Nat) (len : Nat) : ∀ (r i a : Nat), a ≤ len → i + r ≤ 20 → (a ≤ (po T len r i a).2.1 ∧ (po T len r i a).2.1 ≤ len) ∧
    ((po T len r i a).1 = true → (∀ j, i ≤ j → j < i + r → (j = 4 ∧ (po T len r i a).2.2 j = 0) ∨ (loN j ≤ (po T len r i a).2.2 j ∧ (po T len r i a).2.2 j ≤ hiN j)) ∧ ∀ t, a ≤ t → t < (po T len r i a).2.1 → ¬ T t = 59)
  | 0, i, a, ha, hr => ⟨⟨Nat.le_refl _, ha⟩, fun _ => ⟨fun j h1 h2 => absurd h2 (by omega), fun t h1 h2 => absurd h2 (by show ¬ t < a; omega)⟩⟩
  | r + 1, i, a, ha, hr => by
    by_cases p : i = 4 ∧ ¬ (a < len ∧ T a = 98)
    · rw [po_b p]
      obtain ⟨h1, h2⟩ := po_f T len r (i + 1) a ha (by omega)
      refine ⟨h1, fun ok => ⟨fun j j1 j2 => ?_, (h2 ok).2⟩⟩
      show (j = 4 ∧ (if j = i then 0 else _) = 0) ∨ (loN j ≤ (if j = i then 0 else _) ∧ (if j = i then 0 else _) ≤ hiN j)
      by_cases e : j = i
      · rw [if_pos e]
        exact Or.inl ⟨e.trans p.1, rfl⟩
      · rw [if_neg e]
        exact (h2 ok).1 j (by omega) (by omega)
    · by_cases p2 : a < len ∧ T a = sgN i
      · have hb := scN_b (T := T) (i := i) p2.1
        have hd := scN_d (T := T) (len := len) (i := i) (a := a)
        by_cases p3 : okN T len i a = true
        · rw [po_y p p2 p3]
          obtain ⟨h1, h2⟩ := po_f T len r (i + 1) (scN T len i a).1 hb.2 (by omega)
          refine ⟨⟨Nat.le_trans (by omega) h1.1, h1.2⟩, fun ok => ⟨fun j j1 j2 => ?_, fun t t1 t2 => ?_⟩⟩
          · show (j = 4 ∧ (if j = i then _ else _) = 0) ∨ (loN j ≤ (if j = i then _ else _) ∧ (if j = i then _ else _) ≤ hiN j)
            by_cases e : j = i
            · rw [if_pos e, e]
              exact Or.inr (okN_e.mp p3).2.2
            · rw [if_neg e]
              exact (h2 ok).1 j (by omega) (by omega)
          · by_cases e : t = a
            · rw [e, p2.2]
              exact pt_s i (by omega)
            · by_cases e2 : t < (scN T len i a).1
              · have := hd.2 t (by omega) e2
                omega
              · exact (h2 ok).2 t (by omega) t2
        · rw [po_n p p2 p3]
          exact ⟨⟨by show a ≤ (scN T len i a).1; omega, hb.2⟩, fun ok => absurd ok Bool.false_ne_true⟩
      · rw [po_x p p2]
        exact ⟨⟨Nat.le_refl _, ha⟩, fun ok => absurd ok Bool.false_ne_true⟩
theorem po_2 {T : Nat → Nat} {len r i a : Nat} (ha : a ≤ len) (hr : i + (r + 1) ≤ 20) (h4 : ¬ i = 4) (ok : (po T len (r + 1) i a).1 = true) : a + 2 ≤ (po T len (r + 1) i a).2.1 := by
  have p : ¬ (i = 4 ∧ ¬ (a < len ∧ T a = 98)) := fun q => h4 q.1
  by_cases p2 : a < len ∧ T a = sgN i
  · by_cases p3 : okN T len i a = true
    · rw [po_y p p2 p3]
      have hb := scN_b (T := T) (i := i) p2.1
      have hd := (scN_d (T := T) (len := len) (i := i) (a := a)).1
      have hq := (okN_e.mp p3).2.1
      have h1 := (po_f T len r (i + 1) (scN T len i a).1 hb.2 (by omega)).1.1
      show a + 2 ≤ (po T len r (i + 1) (scN T len i a).1).2.1
      omega
    · rw [po_n p p2 p3] at ok
      exact absurd ok Bool.false_ne_true
  · rw [po_x p p2] at ok
    exact absurd ok Bool.false_ne_true
/-- at a figure nothing more is read -/
theorem po_fig {T : Nat → Nat} {len a : Nat} (h : isF T len a) : ∀ (r i : Nat), i + r ≤ 20 → (po T len r i a).2.1 = a
  | 0, i, _ => rfl
  | r + 1, i, hr => by
    by_cases p : i = 4 ∧ ¬ (a < len ∧ T a = 98)
    · rw [po_b p]
      exact po_fig h r (i + 1) (by omega)
    · have p2 : ¬ (a < len ∧ T a = sgN i) := fun q => (pt_b i (by omega)).2.2.2 (by rw [← q.2]; exact h.2)
      rw [po_x p p2]
/-- the kinds of orders -/
def kd (c : Nat) : Nat := if c = 106 then 0 else if c = 102 then 1 else if c = 108 then 2 else if c = 110 then 3 else if c = 111 then 4 else if c = 120 then 5 else if c = 116 then 6 else 7
theorem kd_sg {c : Nat} (h : kd c < 7) : sgN (fpN (kd c)) = c := by
  unfold kd at h ⊢
  repeat' split at h
  all_goals first
    | (subst_vars; rfl)
    | omega
theorem fp_4 : ∀ k, k < 7 → ¬ fpN k = 4 := by decide
def OR (T : Nat → Nat) (len a : Nat) : Bool × Nat × (Nat → Nat) := if a < len ∧ kd (T a) < 7 then po T len (fpN (kd (T a) + 1) - fpN (kd (T a))) (fpN (kd (T a))) a else (false, a, fun _ => 0)
theorem OR_y {T : Nat → Nat} {len a : Nat} (h : a < len ∧ kd (T a) < 7) : OR T len a = po T len (fpN (kd (T a) + 1) - fpN (kd (T a))) (fpN (kd (T a))) a := if_pos h
theorem OR_n {T : Nat → Nat} {len a : Nat} (h : ¬ (a < len ∧ kd (T a) < 7)) : OR T len a = (false, a, fun _ => 0) := if_neg h
theorem OR_ok {T : Nat → Nat} {len a : Nat} (h : (OR T len a).1 = true) : a < len ∧ kd (T a) < 7 := by
  by_cases p : a < len ∧ kd (T a) < 7
  · exact p
  · rw [OR_n p] at h
    exact absurd h Bool.false_ne_true
theorem OR_f {T : Nat → Nat} {len a : Nat} (ha : a ≤ len) : (a ≤ (OR T len a).2.1 ∧ (OR T len a).2.1 ≤ len) ∧
    ((OR T len a).1 = true → a + 2 ≤ (OR T len a).2.1 ∧ (∀ j, fpN (kd (T a)) ≤ j → j < fpN (kd (T a) + 1) → (j = 4 ∧ (OR T len a).2.2 j = 0) ∨ (loN j ≤ (OR T len a).2.2 j ∧ (OR T len a).2.2 j ≤ hiN j)) ∧ ∀ t, a ≤ t → t < (OR T len a).2.1 → ¬ T t = 59) := by
  by_cases p : a < len ∧ kd (T a) < 7
  · rw [OR_y p]
    obtain ⟨f1, f2, f3⟩ := pt_f (kd (T a)) p.2
    obtain ⟨r, hr⟩ : ∃ r, fpN (kd (T a) + 1) - fpN (kd (T a)) = r + 1 := ⟨fpN (kd (T a) + 1) - fpN (kd (T a)) - 1, by omega⟩
    obtain ⟨g1, g2⟩ := po_f T len (fpN (kd (T a) + 1) - fpN (kd (T a))) (fpN (kd (T a))) a ha (by omega)
    refine ⟨g1, fun ok => ⟨?_, fun j j1 j2 => (g2 ok).1 j j1 (by omega), (g2 ok).2⟩⟩
    rw [hr] at ok ⊢
    exact po_2 ha (by omega) (fp_4 _ p.2) ok
  · rw [OR_n p]
    exact ⟨⟨Nat.le_refl _, ha⟩, fun q => absurd q Bool.false_ne_true⟩
theorem OR_fig {T : Nat → Nat} {len a : Nat} (h : isF T len a) : (OR T len a) = (false, a, fun _ => 0) := by
  refine OR_n (fun q => ?_)
  have e := kd_sg q.2
  have g := (pt_f _ q.2)
  exact (pt_b _ (show fpN (kd (T a)) < 20 by omega)).2.2.2 (by rw [e]; exact h.2)
