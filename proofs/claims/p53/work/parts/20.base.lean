/-! PLAIN FACTS for the pure half: int32 numbers as naturals, truth values, counts, loops -/
theorem qi_inb {k n : Nat} (h : k < n) (hn : n < 2147483648) : inb (nI k) n = true := by
  unfold inb
  rw [nI_toInt (by omega)]
  simp
  omega
theorem qi_ix {k : Nat} (h : k < 2147483648) : ix (nI k) = k := nI_clamp h
theorem qi_of {x : Int32} {n : Nat} (h : inb x n = true) (hn : n < 2147483648) : ∃ k, k < n ∧ x = nI k := vp_in_of (inb_in h) hn
theorem qi_lit (n : Nat) : (OfNat.ofNat n : Int32) = nI n := rfl
theorem qi_le (a b : Int32) : a ≤ b ↔ a.toInt ≤ b.toInt := Int32.le_iff_toInt_le
theorem qi_lt (a b : Int32) : a < b ↔ a.toInt < b.toInt := Int32.lt_iff_toInt_lt
theorem qi_eq (a b : Int32) : a = b ↔ a.toInt = b.toInt := ⟨fun h => by rw [h], fun h => Int32.toInt_inj.mp h⟩
theorem qi_I {k : Nat} (h : k < 2147483648) : (nI k).toInt = (k : Int) := nI_toInt (by omega)
theorem qi_nle {a b : Nat} (ha : a < 2147483648) (hb : b < 2147483648) : nI a ≤ nI b ↔ a ≤ b := by rw [qi_le, qi_I ha, qi_I hb]; omega
theorem qi_nlt {a b : Nat} (ha : a < 2147483648) (hb : b < 2147483648) : nI a < nI b ↔ a < b := by rw [qi_lt, qi_I ha, qi_I hb]; omega
theorem qi_neq {a b : Nat} (ha : a < 2147483648) (hb : b < 2147483648) : nI a = nI b ↔ a = b := by rw [qi_eq, qi_I ha, qi_I hb]; omega
theorem qi_add (a b : Nat) : nI a + nI b = nI (a + b) := nI_add a b
theorem qi_mul (a b : Nat) : nI a * nI b = nI (a * b) := pk_mul a b
theorem qi_sub {a b : Nat} (h : b ≤ a) : nI a - nI b = nI (a - b) := pk_sub h
theorem qi_m1I : (-1 : Int32).toInt = -1 := rfl
theorem qi_neM {k : Nat} (h : k < 2147483648) : (nI k = (-1 : Int32)) = False := by exact propext ⟨fun q => by rw [qi_eq, qi_I h, qi_m1I] at q; omega, fun q => q.elim⟩
theorem qi_nM {k : Nat} (h : k < 2147483648) : ¬ nI k = (-1 : Int32) := by rw [qi_eq, qi_I h, qi_m1I]; omega
theorem qi_n0 (k : Nat) (h : k < 2147483648) : nI k = 0 ↔ k = 0 := qi_neq (b := 0) h (by omega)
/-- x lies between 0 and n -/
theorem qi_in {x : Int32} {n : Nat} (h0 : ¬ x < 0) (h1 : ¬ nI n ≤ x) (hn : n < 2147483648) : ∃ k, k < n ∧ x = nI k := by
  obtain ⟨j, hj, rfl⟩ := nI_of h0
  exact ⟨j, by rw [qi_nle hn (by omega)] at h1; omega, rfl⟩
/-- a truth value -/
def b2 (P : Prop) [Decidable P] : Int32 := if P then 1 else 0
theorem b2_if {P : Prop} [Decidable P] {α : Type} (a b : α) : (if b2 P = 0 then a else b) = if P then b else a := by
  unfold b2
  by_cases h : P <;> simp [h]
theorem b2_t {P : Prop} [Decidable P] (h : P) : b2 P = 1 := if_pos h
theorem b2_f {P : Prop} [Decidable P] (h : ¬ P) : b2 P = 0 := if_neg h
theorem b2_1 {P : Prop} [Decidable P] : b2 P = 1 ↔ P := by unfold b2; by_cases h : P <;> simp [h]
theorem b2_z {P : Prop} [Decidable P] : b2 P = 0 ↔ ¬ P := by unfold b2; by_cases h : P <;> simp [h]
theorem b2_c {P Q : Prop} [Decidable P] [Decidable Q] (h : P ↔ Q) : b2 P = b2 Q := by unfold b2; by_cases p : P <;> simp [p, h.symm, h.mp] <;> simp_all
theorem zb_0 : zb 0 = true := rfl
theorem zb_1 : zb 1 = true := rfl
theorem zb_b {P : Prop} [Decidable P] : zb (b2 P) = true := by unfold b2; by_cases h : P <;> simp [h, zb]
theorem som_b2 {P : Prop} [Decidable P] : (if P then some (1 : Int32) else some 0) = some (b2 P) := by unfold b2; by_cases h : P <;> simp [h]
theorem som_b2n {P : Prop} [Decidable P] : (if P then some (0 : Int32) else some 1) = some (b2 (¬ P)) := by unfold b2; by_cases h : P <;> simp [h]
theorem bnd_s {α β : Type} (a : α) (f : α → Option β) : (some a).bind f = f a := rfl
theorem lt_e {X ρ : Type} (x : X) (f : X → Option ρ) : lt x f = f x := rfl
theorem jn_e {X ρ : Type} (t : X) (b : X → Option ρ) : jn t b = b t := rfl
/-- counts -/
def qc (p : Nat → Bool) : Nat → Nat
  | 0 => 0
  | n + 1 => qc p n + (if p n then 1 else 0)
theorem qc_le (p : Nat → Bool) : ∀ n, qc p n ≤ n
  | 0 => Nat.le_refl 0
  | n + 1 => by have := qc_le p n; show qc p n + _ ≤ _; split <;> omega
theorem qc_s (p : Nat → Bool) (n : Nat) : qc p (n + 1) = qc p n + (if p n then 1 else 0) := rfl
theorem qc_cong {p q : Nat → Bool} : ∀ {n : Nat}, (∀ k, k < n → p k = q k) → qc p n = qc q n
  | 0, _ => rfl
  | n + 1, h => by rw [qc_s, qc_s, qc_cong (fun k hk => h k (by omega)), h n (by omega)]
theorem qc_0 {p : Nat → Bool} : ∀ {n : Nat}, qc p n = 0 ↔ ∀ k, k < n → p k = false
  | 0 => ⟨fun _ k h => absurd h (Nat.not_lt_zero k), fun _ => rfl⟩
  | n + 1 => by
    rw [qc_s]
    constructor
    · intro h k hk
      by_cases e : k = n
      · subst e
        cases hp : p k
        · rfl
        · rw [hp] at h; simp at h
      · exact (qc_0 (n := n)).mp (by omega) k (by omega)
    · intro h
      rw [qc_0.mpr (fun k hk => h k (by omega)), h n (by omega)]
      rfl
theorem qc_pos {p : Nat → Bool} {n : Nat} : 0 < qc p n ↔ ∃ k, k < n ∧ p k = true := by
  constructor
  · intro h
    refine Classical.byContradiction fun q => ?_
    have : qc p n = 0 := qc_0.mpr (fun k hk => by
      cases e : p k
      · rfl
      · exact absurd ⟨k, hk, e⟩ q)
    omega
  · intro ⟨k, hk, hp⟩
    refine Classical.byContradiction fun q => ?_
    have h := qc_0.mp (show qc p n = 0 by omega) k hk
    rw [hp] at h
    cases h
/-- the first place below n where p holds; n if there is none -/
def qf (p : Nat → Bool) : Nat → Nat
  | 0 => 0
  | n + 1 => if qf p n < n then qf p n else if p n then n else n + 1
theorem qf_le (p : Nat → Bool) : ∀ n, qf p n ≤ n
  | 0 => Nat.le_refl 0
  | n + 1 => by
    have h := qf_le p n
    unfold qf
    by_cases a : qf p n < n
    · rw [if_pos a]; omega
    · rw [if_neg a]
      by_cases b : p n = true
      · rw [if_pos b]; omega
      · rw [if_neg b]; omega
theorem qf_no (p : Nat → Bool) : ∀ n k, k < qf p n → p k = false
  | 0, k, h => absurd h (Nat.not_lt_zero k)
  | n + 1, k, h => by
    unfold qf at h
    have h1 := qf_le p n
    split at h
    · exact qf_no p n k h
    · split at h
      · by_cases e : k < qf p n
        · exact qf_no p n k e
        · omega
      · by_cases e : k < qf p n
        · exact qf_no p n k e
        · have : k = n := by omega
          subst this
          cases hp : p k
          · rfl
          · simp_all
theorem qf_yes (p : Nat → Bool) : ∀ n, qf p n < n → p (qf p n) = true
  | 0, h => absurd h (Nat.not_lt_zero _)
  | n + 1, h => by
    unfold qf at h ⊢
    split
    · exact qf_yes p n ‹_›
    · split
      · assumption
      · simp_all
theorem qf_c (p : Nat → Bool) (n : Nat) : qf p n < n ↔ 0 < qc p n := by
  rw [qc_pos]
  constructor
  · exact fun h => ⟨_, h, qf_yes p n h⟩
  · intro ⟨k, hk, hp⟩
    have h1 := qf_le p n
    refine Classical.byContradiction fun q => ?_
    have h := qf_no p n k (by omega)
    rw [hp] at h
    cases h
/-! a loop that goes through states told ahead: ev k says how the loop is asked at its k-th round -/
theorem lp_at {X R : Type} {bot : X} {F : X → X} (ev : Nat → X → R) (n : Nat) (res : R) (hs : ∀ k, k < n → ∀ self, ev k (F self) = ev (k + 1) self) (he : ∀ self, ev n (F self) = res) : ∀ d k fuel, k + d = n → d < fuel → ev k (lp bot F fuel) = res
  | 0, k, fuel, h, hf => by
    obtain ⟨m, rfl⟩ : ∃ m, fuel = m + 1 := ⟨fuel - 1, by omega⟩
    have : k = n := by omega
    subst this
    exact he _
  | d + 1, k, fuel, h, hf => by
    obtain ⟨m, rfl⟩ : ∃ m, fuel = m + 1 := ⟨fuel - 1, by omega⟩
    exact (hs k (by omega) _).trans (lp_at ev n res hs he d (k + 1) m (by omega) (by omega))
theorem lp_go {X R : Type} {bot : X} {F : X → X} (ev : Nat → X → R) (n : Nat) {res : R} {fuel : Nat} (hf : n < fuel) (hs : ∀ k, k < n → ∀ self, ev k (F self) = ev (k + 1) self) (he : ∀ self, ev n (F self) = res) : ev 0 (lp bot F fuel) = res := lp_at ev n res hs he n 0 fuel (by omega) hf
/-- a loop with a state that an invariant tells: J k s holds at the k-th round -/
theorem lp_iv {X R S : Type} {bot : X} {F : X → X} (ev : S → X → R) (J : Nat → S → Prop) (P : R → Prop) (n : Nat) (hs : ∀ k s, k < n → J k s → ∀ self, P (ev s (F self)) ∨ ∃ s', J (k + 1) s' ∧ ev s (F self) = ev s' self) (he : ∀ s self, J n s → P (ev s (F self))) : ∀ d k fuel s, k + d = n → d < fuel → J k s → P (ev s (lp bot F fuel))
  | 0, k, fuel, s, h, hf, hj => by
    obtain ⟨m, rfl⟩ : ∃ m, fuel = m + 1 := ⟨fuel - 1, by omega⟩
    have : k = n := by omega
    subst this
    exact he s _ hj
  | d + 1, k, fuel, s, h, hf, hj => by
    obtain ⟨m, rfl⟩ : ∃ m, fuel = m + 1 := ⟨fuel - 1, by omega⟩
    rcases hs k s (by omega) hj (lp bot F m) with q | ⟨s', h1, h2⟩
    · exact q
    · have e : ev s (lp bot F (m + 1)) = ev s' (lp bot F m) := h2
      rw [e]
      exact lp_iv ev J P n hs he d (k + 1) m s' (by omega) (by omega) h1
/-! memory -/
theorem up_r {κ : Type} [DecidableEq κ] (v : κ → Nat → Int32) (k0 : κ) (i0 : Nat) (x : Int32) (k : κ) (i : Nat) : up v k0 i0 x k i = if k = k0 ∧ i = i0 then x else v k i := rfl
theorem upA_r {κ : Type} [DecidableEq κ] (v : κ → Nat → Int32) (k0 : κ) (f : Nat → Int32) (k : κ) (i : Nat) : upA v k0 f k i = if k = k0 then f i else v k i := by unfold upA; split <;> rfl
theorem cpy_r {α : Type} (f g : Nat → α) (n k : Nat) : va_cpy f g 0 0 n k = if k < n then f k else g k := by unfold va_cpy; simp
