/-! LEAVES: what the small methods of the class and of the reference answer -/
theorem b2_and {P Q : Prop} [Decidable P] [Decidable Q] : (if P then (if Q then some (1 : Int32) else some 0) else some 0) = some (b2 (P ∧ Q)) := by
  unfold b2; by_cases p : P <;> by_cases q : Q <;> simp [p, q]
theorem b2_or {P Q : Prop} [Decidable P] [Decidable Q] : (if P then some (1 : Int32) else if Q then some 1 else some 0) = some (b2 (P ∨ Q)) := by
  unfold b2; by_cases p : P <;> by_cases q : Q <;> simp [p, q]
theorem i2b {α : Type} {P Q : Prop} [Decidable P] [Decidable Q] (a b : α) (h : P ↔ Q) : (if P then a else b) = if Q then a else b := by
  by_cases p : P
  · rw [if_pos p, if_pos (h.mp p)]
  · rw [if_neg p, if_neg (fun q => p (h.mpr q))]
/-- x is a place below n -/
abbrev isI (x : Int32) (n : Nat) : Prop := 0 ≤ x.toInt ∧ x.toInt < n
theorem isI_of {x : Int32} {n : Nat} (h : isI x n) : ∃ k, k < n ∧ x = nI k := by
  have h0 : ¬ x < 0 := by rw [qi_lt]; have := h.1; show ¬ x.toInt < 0; omega
  obtain ⟨j, hj, rfl⟩ := nI_of h0
  have h1 := h.2
  rw [qi_I (by omega)] at h1
  exact ⟨j, by omega, rfl⟩
theorem isI_n {k n : Nat} (h : k < n) (hk : k < 2147483648) : isI (nI k) n := by
  show 0 ≤ (nI k).toInt ∧ (nI k).toInt < n
  rw [qi_I hk]
  omega
theorem s_within (a b c : Int32) (v : mC) : f_X6_isWithin a b c v = some (b2 (b ≤ a ∧ a ≤ c)) := by
  unfold f_X6_isWithin
  by_cases h1 : a < b
  · rw [if_pos h1, b2_f (by rw [qi_le, qi_le]; rw [qi_lt] at h1; omega)]; rfl
  · rw [if_neg h1]
    by_cases h2 : c < a
    · rw [if_pos h2, b2_f (by rw [qi_le, qi_le]; rw [qi_lt] at h2; omega)]; rfl
    · rw [if_neg h2, b2_t (by rw [qi_le, qi_le]; rw [qi_lt] at h1 h2; omega)]; rfl
theorem m_in (a b c : Int32) (w : mM) : f_X7_in a b c w = some (b2 (b ≤ a ∧ a ≤ c)) := by
  unfold f_X7_in
  by_cases h1 : a < b
  · rw [if_pos h1, b2_f (by rw [qi_le, qi_le]; rw [qi_lt] at h1; omega)]; rfl
  · rw [if_neg h1]
    by_cases h2 : c < a
    · rw [if_pos h2, b2_f (by rw [qi_le, qi_le]; rw [qi_lt] at h2; omega)]; rfl
    · rw [if_neg h2, b2_t (by rw [qi_le, qi_le]; rw [qi_lt] at h1 h2; omega)]; rfl
/-- notes of a range -/
abbrev pN (lo hi : Int32) : Prop := (0 ≤ lo ∧ lo ≤ 48) ∧ lo ≤ hi ∧ hi ≤ 48
abbrev pH (h : Int32) : Prop := 90 ≤ h ∧ h ≤ 210
theorem s_isRange (lo hi : Int32) (v : mC) : f_X6_isRange lo hi v = some (b2 (pN lo hi)) := by
  simp only [f_X6_isRange, s_within, bnd_s, b2_if, ck_t, zb_0, zb_1]
  exact b2_and
theorem s_isHR (h lo hi : Int32) (v : mC) : f_X6_isHeightAndRange h lo hi v = some (b2 (pH h ∧ pN lo hi)) := by
  simp only [f_X6_isHeightAndRange, s_within, s_isRange, bnd_s, b2_if, ck_t, zb_0, zb_1]
  exact b2_and
theorem s_isLine (x : Int32) (v : mC) : f_X6_isLine x v = some (b2 (0 ≤ x ∧ x ≤ 3)) := by
  simp only [f_X6_isLine, s_within, bnd_s, zb_b, ck_t]
theorem m_areNotes (lo hi : Int32) (w : mM) : f_X7_areNotes lo hi w = some (b2 (pN lo hi)) := by
  simp only [f_X7_areNotes, m_in, bnd_s, b2_if, ck_t, zb_0, zb_1]
  exact b2_and
theorem m_isHigh (h : Int32) (w : mM) : f_X7_isHigh h w = some (b2 (pH h)) := by
  simp only [f_X7_isHigh, m_in, bnd_s, zb_b, ck_t]
theorem m_isLine (x : Int32) (w : mM) : f_X7_isLine x w = some (b2 (0 ≤ x ∧ x ≤ 3)) := by
  simp only [f_X7_isLine, m_in, bnd_s, zb_b, ck_t]
theorem m_isChoir (x : Int32) (w : mM) : f_X7_isChoir x w = some (b2 (0 ≤ x ∧ x ≤ 4)) := by
  simp only [f_X7_isChoir, m_in, bnd_s, zb_b, ck_t]
theorem m_isBreakAge (x : Int32) (w : mM) : f_X7_isBreakAge x w = some (b2 (x = 0 ∨ (12 ≤ x ∧ x ≤ 17))) := by
  simp only [f_X7_isBreakAge, m_in, bnd_s, b2_if, ck_t, zb_0, zb_1]
  exact b2_or
theorem m_isOwn (y h b : Int32) (w : mM) : f_X7_isOwn y h b w = some (b2 ((7 ≤ y ∧ y ≤ 70) ∧ pH h ∧ (b = 0 ∨ (12 ≤ b ∧ b ≤ 17)))) := by
  simp only [f_X7_isOwn, m_in, m_isHigh, m_isBreakAge, bnd_s, b2_if, ck_t, zb_0, zb_1]
  rw [b2_and (P := pH h)]
  unfold b2
  by_cases p : (7 ≤ y ∧ y ≤ 70) <;> by_cases q : pH h <;> by_cases r : (b = 0 ∨ (12 ≤ b ∧ b ≤ 17)) <;> simp [p, q, r]
theorem ix_1 : ix (1 : Int32) = 1 := rfl
theorem ix_0 : ix (0 : Int32) = 0 := rfl
theorem ix_2 : ix (2 : Int32) = 2 := rfl
theorem ix_3 : ix (3 : Int32) = 3 := rfl
theorem inb_0 : inb 0 1483 = true := rfl
theorem inb_1 : inb 1 1483 = true := rfl
theorem inb_2 : inb 2 1483 = true := rfl
theorem inb_3 : inb 3 1483 = true := rfl
theorem b2_isI {x : Int32} {n : Nat} (hn : n ≤ 1000) : b2 (0 ≤ x ∧ x ≤ nI n - 1) = b2 (isI x n) := by
  have e : (nI n - 1 : Int32).toInt = (n : Int) - 1 := by
    rw [Int32.toInt_sub, qi_I (by omega)]
    show ((n : Int) - 1).bmod _ = _
    rw [Int.bmod_eq_of_le] <;> simp <;> omega
  have h : (0 ≤ x ∧ x ≤ nI n - 1) ↔ isI x n := by
    rw [qi_le, qi_le, e]
    show 0 ≤ x.toInt ∧ _ ↔ 0 ≤ x.toInt ∧ x.toInt < n
    omega
  exact b2_c h
theorem m_isSinger {n : Nat} {w : mM} (h : w 1 1 = nI n) (hn : n ≤ 30) (x : Int32) : f_X7_isSinger x w = some (b2 (isI x n)) := by
  simp only [f_X7_isSinger, m_in, bnd_s, zb_b, ck_t, inb_1, ix_1, h]
  rw [b2_isI (by omega)]
theorem m_isFeast {n : Nat} {w : mM} (h : w 1 3 = nI n) (hn : n ≤ 20) (x : Int32) : f_X7_isFeast x w = some (b2 (isI x n)) := by
  simp only [f_X7_isFeast, m_in, bnd_s, zb_b, ck_t, inb_3, ix_3, h]
  rw [b2_isI (by omega)]
theorem has_x {x : Int32} {n : Nat} (hn : n ≤ 1000) : (if x < 0 then some (0 : Int32) else if nI n ≤ x then some 0 else some 1) = some (b2 (isI x n)) := by
  have e : (0 : Int32).toInt = 0 := rfl
  by_cases p : isI x n
  · have e2 : b2 (isI x n) = 1 := if_pos p
    rw [e2, if_neg (by rw [qi_lt, e]; have := p.1; omega), if_neg (by rw [qi_le, qi_I (by omega)]; have := p.2; omega)]
  · have e2 : b2 (isI x n) = 0 := if_neg p
    rw [e2]
    by_cases h1 : x < 0
    · rw [if_pos h1]
    · rw [if_neg h1]
      by_cases h2 : nI n ≤ x
      · rw [if_pos h2]
      · exfalso
        apply p
        rw [qi_lt, e] at h1
        rw [qi_le, qi_I (by omega)] at h2
        exact ⟨by omega, by omega⟩
theorem s_has {n o : Nat} {v : mC} (h : v (2, o, 0) 0 = nI n) (hn : n ≤ 30) (x : Int32) : f_X5_has o x v = some (b2 (isI x n)) := by
  simp only [f_X5_has, ck_t, zb_0, zb_1, h]
  exact has_x (by omega)
theorem s_hasF {n o : Nat} {v : mC} (h : v (18, o, 0) 0 = nI n) (hn : n ≤ 20) (x : Int32) : f_X1_has o x v = some (b2 (isI x n)) := by
  simp only [f_X1_has, ck_t, zb_0, zb_1, h]
  exact has_x (by omega)
theorem s_isFull {n o : Nat} {v : mC} (h : v (2, o, 0) 0 = nI n) (hn : n ≤ 30) : f_X5_isFull o v = some (b2 (n = 30)) := by
  simp only [f_X5_isFull, ck_t, zb_0, zb_1, h]
  rw [show (30 : Int32) = nI 30 from rfl]
  by_cases p : n = 30
  · rw [if_neg (by rw [qi_nlt (by omega) (by omega)]; omega), b2_t p]
  · rw [if_pos (by rw [qi_nlt (by omega) (by omega)]; omega), b2_f p]
theorem s_isFullF {n o : Nat} {v : mC} (h : v (18, o, 0) 0 = nI n) (hn : n ≤ 20) : f_X1_isFull o v = some (b2 (n = 20)) := by
  simp only [f_X1_isFull, ck_t, zb_0, zb_1, h]
  rw [show (20 : Int32) = nI 20 from rfl]
  by_cases p : n = 20
  · rw [if_neg (by rw [qi_nlt (by omega) (by omega)]; omega), b2_t p]
  · rw [if_pos (by rw [qi_nlt (by omega) (by omega)]; omega), b2_f p]
theorem s_areFull {n o : Nat} {v : mC} (h : v (14, o, 0) 0 = nI n) (hn : n ≤ 60) : f_X4_areFull o v = some (b2 (n = 60)) := by
  simp only [f_X4_areFull, ck_t, zb_0, zb_1, h]
  rw [show (60 : Int32) = nI 60 from rfl]
  by_cases p : n = 60
  · rw [if_neg (by rw [qi_nlt (by omega) (by omega)]; omega), b2_t p]
  · rw [if_pos (by rw [qi_nlt (by omega) (by omega)]; omega), b2_f p]
theorem s_hasLeft (o : Nat) {s : Nat} (hs : s < 30) (d : Int32) (v : mC) : f_X5_hasLeftBy o (nI s) d v = some (b2 (¬ d ≤ v (10, o, 0) s)) := by
  simp (disch := omega) only [f_X5_hasLeftBy, qi_inb, qi_ix, ck_t, zb_0, zb_1]
  exact som_b2n
theorem s_isAway (o : Nat) {s : Nat} (hs : s < 30) (d : Int32) (v : mC) : f_X5_isAwayOn o (nI s) d v = some (b2 (¬ v (11, o, 0) s < d)) := by
  simp (disch := omega) only [f_X5_isAwayOn, qi_inb, qi_ix, ck_t, zb_0, zb_1]
  exact som_b2n
theorem s_held (o : Nat) {f : Nat} (hf : f < 20) (v : mC) : f_X0_hasHeld o (nI f) v = some (b2 (¬ v (1, o, 0) 0 < v (19, o, 0) f)) := by
  simp (disch := omega) only [f_X0_hasHeld, qi_inb, qi_ix, ck_t, zb_0, zb_1]
  exact som_b2n
theorem s_breaking (o : Nat) {s : Nat} (hs : s < 30) (d : Int32) (v : mC) : f_X5_isBreakingOn o (nI s) d v = some (b2 (¬ v (7, o, 0) s = -1 ∧ ¬ d < v (7, o, 0) s ∧ ¬ v (7, o, 0) s + 90 ≤ d)) := by
  simp (disch := omega) only [f_X5_isBreakingOn, qi_inb, qi_ix, ck_t, zb_0, zb_1]
  unfold b2
  by_cases p : v (7, o, 0) s = -1 <;> by_cases q : d < v (7, o, 0) s <;> by_cases r : v (7, o, 0) s + 90 ≤ d <;> simp [p, q, r]
/-- what becomes of a told note -/
def nlow (b d told : Int32) : Int32 := if b = -1 then told else if b + 90 ≤ d then (if 12 ≤ told then told - 12 else 0) else told
theorem s_noteOn (o : Nat) {s : Nat} (hs : s < 30) (d t : Int32) (v : mC) : f_X5_noteOn o (nI s) d t v = some (nlow (v (7, o, 0) s) d t) := by
  simp (disch := omega) only [f_X5_noteOn, qi_inb, qi_ix, ck_t]
  unfold nlow
  split
  · rfl
  · split
    · split <;> rfl
    · rfl
/-- the reference's fields of singers -/
theorem m_its {s j : Nat} (hs : s < 30) (hj : j < 13) (w : mM) : f_X7_its (nI s) (nI j) w = some (w 1 (13 + 13 * s + j)) := by
  simp (disch := omega) only [f_X7_its, lt_e, qi_lit, qi_mul, qi_add, qi_inb, qi_ix, ck_t]
theorem m_lay {s j : Nat} (hs : s < 30) (hj : j < 13) (x : Int32) (w : mM) : f_X7_lay (nI s) (nI j) x w = some (up w 1 (13 + 13 * s + j) x) := by
  simp (disch := omega) only [f_X7_lay, lt_e, qi_lit, qi_mul, qi_add, qi_inb, qi_ix, ck_t]
theorem m_dayAt {j : Nat} (hj : j < 20) (w : mM) : f_X7_dayAt (nI j) w = some (w 1 (583 + 45 * j)) := by
  simp (disch := omega) only [f_X7_dayAt, lt_e, qi_lit, qi_mul, qi_add, qi_inb, qi_ix, ck_t]
theorem m_held {j : Nat} (hj : j < 20) (w : mM) : f_X7_held (nI j) w = some (b2 (¬ w 1 0 < w 1 (583 + 45 * j))) := by
  simp only [f_X7_held, m_dayAt hj, bnd_s, inb_0, ix_0, ck_t, zb_0, zb_1]
  exact som_b2n
theorem m_places {j l : Nat} (hj : j < 20) (hl : l < 4) (w : mM) : f_X7_places (nI j) (nI l) w = some (w 1 (585 + 45 * j + 3 * l)) := by
  have e : 583 + 45 * j + 2 + 3 * l = 585 + 45 * j + 3 * l := by omega
  simp (disch := omega) only [f_X7_places, lt_e, qi_lit, qi_mul, qi_add, qi_inb, qi_ix, ck_t, e]
