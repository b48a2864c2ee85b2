/-! THE LETTER: a sign is skipped, or taken -/
theorem s_stands {v : mC} {T : Nat → Nat} {len a c : Nat} (hT : TX v T len) (h2 : v (32, 0, 0) 2 = nI a) (ha : a ≤ len) (hc : c ≤ 65535) : f_X2_stands (nI c) v = some (b2 (a < len ∧ T a = c)) := by
  have hlen := hT.1
  unfold f_X2_stands
  rw [hT.2.1, h2, zb_0, zb_1, ck_t, ck_t]
  by_cases p : a < len
  · obtain ⟨t1, t2⟩ := hT.2.2 a p
    rw [if_neg (show ¬ nI len ≤ nI a from nI_ge p (by omega)), qi_inb (show a < 80 by omega) (by omega), ck_t, qi_ix (by omega), t1, i2b _ _ (qi_neq (a := T a) (b := c) (by omega) (by omega))]
    by_cases q : T a = c
    · rw [if_pos q, b2_t ⟨p, q⟩]
    · rw [if_neg q, b2_f (fun z => q z.2)]
  · rw [if_pos (show nI len ≤ nI a from nI_le (by omega) (by omega)), b2_f (fun z => p z.1)]
theorem s_skip {v : mC} {T : Nat → Nat} {len a c : Nat} (hT : TX v T len) (h2 : v (32, 0, 0) 2 = nI a) (ha : a ≤ len) (hc : c ≤ 65535) : f_X2_skip (nI c) v = if a < len ∧ T a = c then some (1, up v (32, 0, 0) 2 (nI (a + 1))) else some (0, v) := by
  unfold f_X2_skip
  rw [s_stands hT h2 ha hc, bnd_s, b2_if, zb_0, zb_1, ck_t, lt_e, ck_t, h2, nI_1]
theorem m_takes {w : mM} {T : Nat → Nat} {len a c : Nat} (hT : TXm w T len) (h2 : w 0 13 = nI a) (ha : a ≤ len) (hc : c ≤ 65535) : f_X7_takes (nI c) w = if a < len ∧ T a = c then some (1, up w 0 13 (nI (a + 1))) else some (0, w) := by
  have hlen := hT.1
  have n10 : ¬ (1 : Int32) = 0 := by decide
  have e0 : up w 0 13 (nI a + 0) = w := up_self _ _ _ _ (by rw [h2, qi_add0])
  unfold f_X7_takes
  simp only [jn_e, hT.2.1, h2, zb_0, zb_1, ck_t, lt_e, n10, if_true, if_false, e0, nI_1]
  by_cases p : a < len
  · obtain ⟨t1, t2⟩ := hT.2.2 a p
    rw [if_neg (show ¬ nI len ≤ nI a from nI_ge p (by omega)), qi_inb (show a < 80 by omega) (by omega), ck_t, qi_ix (by omega), t1, i2b _ _ (qi_neq (a := T a) (b := c) (by omega) (by omega))]
    by_cases q : T a = c
    · rw [if_pos q, if_pos ⟨p, q⟩]
    · rw [if_neg q, if_neg (fun z => q z.2)]
  · rw [if_pos (show nI len ≤ nI a from nI_le (by omega) (by omega)), if_neg (fun z => p z.1)]
/-- the place to which reading comes never lies behind the end -/
theorem sc_le (T : Nat → Nat) (len lo hi : Nat) : ∀ (n a val d : Nat), a + n = len → a ≤ (sc T len lo hi n a val d).1 ∧ (sc T len lo hi n a val d).1 ≤ len
  | 0, a, val, d, h => ⟨Nat.le_refl _, by show a ≤ len; omega⟩
  | n + 1, a, val, d, h => by
    by_cases tb1 : tkB T len lo hi a val d = true
    · have es : sc T len lo hi (n + 1) a val d = sc T len lo hi n (a + 1) (10 * val + (T a - 48)) (d + 1) := if_pos tb1
      rw [es]
      have := sc_le T len lo hi n (a + 1) (10 * val + (T a - 48)) (d + 1) (by omega)
      omega
    · have es : sc T len lo hi (n + 1) a val d = (a, val, d) := if_neg tb1
      rw [es]
      exact ⟨Nat.le_refl _, by show a ≤ len; omega⟩
/-- a number read from a place on, on both sides: the same place and the same number; where no figure stands behind it, the same answer; where one does, the class says no -/
theorem s_read {v : mC} {T : Nat → Nat} {len lo hi a : Nat} (hT : TX v T len) (h2 : v (32, 0, 0) 2 = nI a) (ha : a ≤ len) (hl : lo ≤ 9999) (hh : hi ≤ 9999) :
    ∃ r : Int32, f_X2_readNumber (nI lo) (nI hi) v = some (r, st v (sc T len lo hi (len - a) a 0 0).1 (sc T len lo hi (len - a) a 0 0).2.1) ∧
    (isF T len (sc T len lo hi (len - a) a 0 0).1 → r = 0) ∧ (¬ isF T len (sc T len lo hi (len - a) a 0 0).1 → r = b2 (0 < (sc T len lo hi (len - a) a 0 0).2.2 ∧ lo ≤ (sc T len lo hi (len - a) a 0 0).2.1 ∧ (sc T len lo hi (len - a) a 0 0).2.1 ≤ hi)) := by
  have hlen := hT.1
  obtain ⟨r, h1, h3, h4⟩ := s_num hT hl hh (len - a) a 0 0 8192 (by omega) (by omega) (by omega) (by omega)
  refine ⟨r, ?_, h3, h4⟩
  have e : up v (32, 0, 0) 5 0 = st v a 0 := by
    unfold st
    exact (up_self _ _ _ _ (by rw [up_r, if_neg (fun q => absurd q.2 (by decide)), h2])).symm
  unfold f_X2_readNumber
  rw [lt_e, e]
  exact h1
theorem m_read {w : mM} {T : Nat → Nat} {len lo hi tm p a : Nat} (hT : TXm w T len) (h2 : w 0 13 = nI a) (ha : a ≤ len) (ht : w 0 15 = nI tm) (hp : 6 * tm + p < 168) (hl : lo ≤ 9999) (hh : hi ≤ 9999) :
    f_X7_isNumber (nI p) (nI lo) (nI hi) w = some (b2 (0 < (sc T len lo hi (len - a) a 0 0).2.2 ∧ lo ≤ (sc T len lo hi (len - a) a 0 0).2.1 ∧ (sc T len lo hi (len - a) a 0 0).2.1 ≤ hi), up (stm w (sc T len lo hi (len - a) a 0 0).1) 10 (6 * tm + p) (nI (sc T len lo hi (len - a) a 0 0).2.1)) := by
  have hlen := hT.1
  have e : stm w a = w := by
    unfold stm
    exact up_self _ _ _ _ h2.symm
  have h1 := m_num hT ht hp hl hh (len - a) a 0 0 8192 (by omega) (by omega) (by omega) (by omega)
  rw [e] at h1
  exact h1
