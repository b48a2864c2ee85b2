/-! PLAIN FACTS for the pure half: int32 numbers as naturals -/
theorem qi_inb {k n : Nat} (h : k < n) (hn : n < 2147483648) : inb (nI k) n = true := by
  unfold inb
  rw [nI_toInt (by omega)]
  simp
  omega
theorem qi_ix {k : Nat} (h : k < 2147483648) : ix (nI k) = k := nI_clamp h
theorem qi_of {x : Int32} {n : Nat} (h : inb x n = true) (hn : n < 2147483648) : ∃ k, k < n ∧ x = nI k := vp_in_of (inb_in h) hn
theorem qi_lit (n : Nat) : (OfNat.ofNat n : Int32) = nI n := rfl
theorem qi_m1 : (-1 : Int32) = -nI 1 := rfl
theorem qi_le (a b : Int32) : a ≤ b ↔ a.toInt ≤ b.toInt := Int32.le_iff_toInt_le
theorem qi_lt (a b : Int32) : a < b ↔ a.toInt < b.toInt := Int32.lt_iff_toInt_lt
theorem qi_eq (a b : Int32) : a = b ↔ a.toInt = b.toInt := ⟨fun h => by rw [h], fun h => Int32.toInt_inj.mp h⟩
theorem qi_I {k : Nat} (h : k < 2147483648) : (nI k).toInt = (k : Int) := nI_toInt (by omega)
theorem qi_nle {a b : Nat} (ha : a < 2147483648) (hb : b < 2147483648) : nI a ≤ nI b ↔ a ≤ b := by rw [qi_le, qi_I ha, qi_I hb]; omega
theorem qi_nlt {a b : Nat} (ha : a < 2147483648) (hb : b < 2147483648) : nI a < nI b ↔ a < b := by rw [qi_lt, qi_I ha, qi_I hb]; omega
theorem qi_neq {a b : Nat} (ha : a < 2147483648) (hb : b < 2147483648) : nI a = nI b ↔ a = b := by rw [qi_eq, qi_I ha, qi_I hb]; omega
theorem qi_add (a b : Nat) : nI a + nI b = nI (a + b) := nI_add a b
theorem qi_mul (a b : Nat) : nI a * nI b = nI (a * b) := pk_mul a b
theorem qi_sub {a b : Nat} (h : b ≤ a) : nI a - nI b = nI (a - b) := pk_sub h
theorem qi_m1I : (-1 : Int32).toInt = -1 := rfl
theorem qi_neM (k : Nat) (h : k < 2147483648) : ¬ nI k = (-1 : Int32) := by rw [qi_eq, qi_I h, qi_m1I]; omega
/-- tests of the style -/
theorem zt_its {s j : Nat} (hs : s < 30) (hj : j < 13) (w : mM) : f_X7_its (nI s) (nI j) w = some (w 1 (13 + 13 * s + j)) := by
  simp (disch := omega) only [f_X7_its, lt, qi_lit, qi_mul, qi_add, qi_inb, qi_ix, ck_t]
theorem zt_held (o : Nat) {f : Nat} (hf : f < 20) (v : mC) : f_X0_hasHeld o (nI f) v = some (if v (1, o, 0) 0 < v (19, o, 0) f then 0 else 1) := by
  simp (disch := omega) only [f_X0_hasHeld, qi_inb, qi_ix, ck_t]
  split <;> rfl
