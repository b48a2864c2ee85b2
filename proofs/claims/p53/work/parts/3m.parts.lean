/-! THE LETTER: the parts of the orders -/
def sgN : Nat → Nat := fun i => [106, 104, 114, 45, 98, 102, 42, 108, 46, 61, 114, 45, 110, 58, 45, 111, 62, 43, 120, 116].getD i 0
def loN : Nat → Nat := fun i => [7, 90, 0, 0, 12, 1, 1, 0, 0, 0, 0, 0, 0, 1, 1, 0, 0, 1, 0, 1].getD i 0
def hiN : Nat → Nat := fun i => [70, 210, 48, 48, 17, 9999, 3, 19, 3, 6, 48, 48, 29, 9999, 9999, 29, 4, 90, 29, 99].getD i 0
def fpN : Nat → Nat := fun k => [0, 5, 7, 12, 15, 18, 19, 20].getD k 0
theorem pt_sg : ∀ i, i < 20 → S_PS.getD i 0 = nI (sgN i) := by decide
theorem pt_lo : ∀ i, i < 20 → T_LN i = nI (loN i) := by decide
theorem pt_hi : ∀ i, i < 20 → T_GN i = nI (hiN i) := by decide
theorem pt_fp : ∀ k, k < 8 → T_FP k = nI (fpN k) := by decide
theorem pt_b : ∀ i, i < 20 → loN i ≤ 9999 ∧ hiN i ≤ 9999 ∧ sgN i ≤ 65535 ∧ ¬ (48 ≤ sgN i ∧ sgN i ≤ 57) := by decide
theorem pt_f : ∀ k, k < 7 → fpN k < fpN (k + 1) ∧ fpN (k + 1) ≤ 20 ∧ fpN (k + 1) ≤ fpN k + 5 := by decide
/-- what is left of an order, r parts from part i on, read from a place a: whether it stands, the place, the numbers by part -/
def scN (T : Nat → Nat) (len i a : Nat) : Nat × Nat × Nat := sc T len (loN i) (hiN i) (len - (a + 1)) (a + 1) 0 0
def okN (T : Nat → Nat) (len i a : Nat) : Bool := decide (¬ ((scN T len i a).1 < len ∧ 48 ≤ T (scN T len i a).1 ∧ T (scN T len i a).1 ≤ 57)) && decide (0 < (scN T len i a).2.2 ∧ loN i ≤ (scN T len i a).2.1 ∧ (scN T len i a).2.1 ≤ hiN i)
def po (T : Nat → Nat) (len : Nat) : Nat → Nat → Nat → Bool × Nat × (Nat → Nat)
  | 0, _, a => (true, a, fun _ => 0)
  | r + 1, i, a =>
    if i = 4 ∧ ¬ (a < len ∧ T a = 98) then ((po T len r (i + 1) a).1, (po T len r (i + 1) a).2.1, fun j => if j = i then 0 else (po T len r (i + 1) a).2.2 j)
    else if a < len ∧ T a = sgN i then
      (if okN T len i a = true then ((po T len r (i + 1) (scN T len i a).1).1, (po T len r (i + 1) (scN T len i a).1).2.1, fun j => if j = i then (scN T len i a).2.1 else (po T len r (i + 1) (scN T len i a).1).2.2 j)
       else (false, (scN T len i a).1, fun _ => 0))
    else (false, a, fun _ => 0)
