/-! THE LETTER: the reference reads a number -/
def TXm (w : mM) (T : Nat → Nat) (len : Nat) : Prop := len ≤ 80 ∧ w 0 11 = nI len ∧ ∀ i, i < len → w 9 i = nI (T i) ∧ T i ≤ 65535
def stm (w : mM) (a : Nat) : mM := up w 0 13 (nI a)
theorem stm_13 (w : mM) (a : Nat) : stm w a 0 13 = nI a := by unfold stm; rw [up_r, if_pos ⟨rfl, rfl⟩]
theorem stm_0 (w : mM) (a i : Nat) (h : i ≠ 13) : stm w a 0 i = w 0 i := by unfold stm; rw [up_r, if_neg (fun q => h q.2)]
theorem stm_o (w : mM) (a : Nat) {z : Nat} (h : z ≠ 0) : stm w a z = w z := funext fun i => by unfold stm; rw [up_r, if_neg (fun q => h q.1)]
theorem stm_u (w : mM) (a a' : Nat) : up (stm w a) 0 13 (nI a') = stm w a' := by unfold stm; rw [up_up]
theorem m_fin {w : mM} {tm p : Nat} {lo hi : Nat} (ht : w 0 15 = nI tm) (hp : 6 * tm + p < 168) (hl : lo ≤ 9999) (hh : hi ≤ 9999) (a val d : Nat) (hv : val ≤ 9999) (hd : d ≤ 100) (self : Int32 → Int32 → Int32 → mM → Option (Int32 × mM)) : L_X7_isNumber_9 (nI p) (nI lo) (nI hi) self (nI val) (nI d) 0 (stm w a) = some (b2 (0 < d ∧ lo ≤ val ∧ val ≤ hi), up (stm w a) 10 (6 * tm + p) (nI val)) := by
  have e6 : (6 : Int32) * nI tm + nI p = nI (6 * tm + p) := by rw [show (6 : Int32) = nI 6 from rfl, qi_mul, qi_add]
  unfold L_X7_isNumber_9
  rw [if_pos rfl, stm_0 w a 15 (by omega), ht, e6, qi_inb hp (by omega), ck_t, qi_ix (by omega), lt_e, m_in, bnd_s, b2_if, zb_0, zb_1, ck_t, ck_t]
  by_cases p1 : 0 < d
  · rw [if_neg (show ¬ nI d ≤ 0 from nI_ge (a := 0) p1 (by omega))]
    by_cases p2 : lo ≤ val ∧ val ≤ hi
    · rw [if_pos (show nI lo ≤ nI val ∧ nI val ≤ nI hi from ⟨nI_le p2.1 (by omega), nI_le p2.2 (by omega)⟩), b2_t ⟨p1, p2⟩]
    · rw [if_neg (show ¬ (nI lo ≤ nI val ∧ nI val ≤ nI hi) from fun q => p2 ⟨(qi_nle (by omega) (by omega)).mp q.1, (qi_nle (by omega) (by omega)).mp q.2⟩), b2_f (fun q => p2 q.2)]
  · rw [if_pos (show nI d ≤ 0 from nI_le (b := 0) (by omega) (by omega)), b2_f (fun q => p1 q.1)]
theorem m_body {w : mM} {T : Nat → Nat} {len p lo hi : Nat} (hT : TXm w T len) (hl : lo ≤ 9999) (hh : hi ≤ 9999) (a val d : Nat) (ha : a ≤ len) (hv : val ≤ 9999) (hd : d ≤ 100) (self : Int32 → Int32 → Int32 → mM → Option (Int32 × mM)) :
    L_X7_isNumber_9 (nI p) (nI lo) (nI hi) self (nI val) (nI d) 1 (stm w a) = if tkB T len lo hi a val d = true then self (nI (10 * val + (T a - 48))) (nI (d + 1)) 1 (stm w (a + 1)) else self (nI val) (nI d) 0 (stm w a) := by
  have hlen := hT.1
  have n10 : ¬ (1 : Int32) = 0 := by decide
  have z13 : nI a + 0 = nI a := qi_add0 a
  have zd : nI d + 0 = nI d := qi_add0 d
  have t0 : ∀ {b : Bool}, b = tkB T len lo hi a val d → ∀ (X Y : Option (Int32 × mM)), b = false → (if tkB T len lo hi a val d = true then X else Y) = Y := fun hb X Y h0 => by rw [← hb, h0]; rfl
  unfold L_X7_isNumber_9
  simp only [jn_e, n10, if_true, if_false, stm_0 w a 11 (by omega), hT.2.1, stm_13, z13, zd, stm_u, nI_1, lt_e, stm_o w a (show 9 ≠ 0 by omega)]
  by_cases p1 : a < len
  · obtain ⟨t1, t2⟩ := hT.2.2 a p1
    have ex : 10 * nI val + nI (T a) - 48 = nI (10 * val + T a) - 48 := by rw [show (10 : Int32) = nI 10 from rfl, qi_mul, qi_add]
    rw [if_neg (show ¬ nI len ≤ nI a from nI_ge p1 (by omega))]
    simp (disch := omega) only [qi_inb, qi_ix, ck_t, t1, m_in, bnd_s, b2_if]
    by_cases p2 : 48 ≤ T a ∧ T a ≤ 57
    · have hx : 10 * val + (T a - 48) ≤ 99999 := by omega
      have ey : 10 * nI val + nI (T a) - 48 = nI (10 * val + (T a - 48)) := by
        rw [ex, show (48 : Int32) = nI 48 from rfl, qi_sub (by omega)]
        exact congrArg nI (by omega)
      obtain ⟨cr, hcr, cr1, cr2⟩ := m_begins (lo := lo) (hi := hi) hx hl hh (stm w a)
      rw [if_pos (show (48 : Int32) ≤ nI (T a) ∧ nI (T a) ≤ 57 from ⟨nI_le (a := 48) p2.1 (by omega), nI_le (b := 57) p2.2 (by omega)⟩)]
      simp only [ey, hcr, bnd_s]
      by_cases q : d = 0 ∨ 0 < val
      · have go : (if cr = 0 then self (nI val) (nI d) 0 (stm w a) else self (nI (10 * val + (T a - 48))) (nI (d + 1)) 1 (stm w (a + 1))) = if tkB T len lo hi a val d = true then self (nI (10 * val + (T a - 48))) (nI (d + 1)) 1 (stm w (a + 1)) else self (nI val) (nI d) 0 (stm w a) := by
          by_cases c : CB0 (10 * val + (T a - 48)) lo hi
          · have tb1 : tkB T len lo hi a val d = true := by
              unfold tkB
              rw [decide_eq_true (show (a < len ∧ 48 ≤ T a ∧ T a ≤ 57) ∧ (d = 0 ∨ 0 < val) from ⟨⟨by omega, p2.1, p2.2⟩, q⟩), cb0_t.mpr c]
              rfl
            rw [if_pos tb1, if_neg (by rw [cr1 c]; decide)]
          · have tb0 : ¬ tkB T len lo hi a val d = true := by
              unfold tkB
              intro z
              exact c (cb0_t.mp ((Bool.and_eq_true _ _).mp z).2)
            rw [if_neg tb0, if_pos (cr2 c)]
        by_cases d0 : d = 0
        · rw [if_pos (show nI d = 0 from (qi_n0 d (by omega)).mpr d0)]
          exact go
        · rw [if_neg (show ¬ nI d = 0 from fun z => d0 ((qi_n0 d (by omega)).mp z)), if_neg (show ¬ nI val ≤ 0 from nI_ge (a := 0) (by omega) (by omega))]
          exact go
      · have tb0 : ¬ tkB T len lo hi a val d = true := by
          unfold tkB
          intro z
          exact q (of_decide_eq_true ((Bool.and_eq_true _ _).mp z).1).2
        rw [if_neg (show ¬ nI d = 0 from fun z => q (Or.inl ((qi_n0 d (by omega)).mp z))), if_pos (show nI val ≤ 0 from nI_le (b := 0) (by omega) (by omega)), if_neg tb0]
    · have tb0 : ¬ tkB T len lo hi a val d = true := by
        unfold tkB
        intro z
        exact p2 (of_decide_eq_true ((Bool.and_eq_true _ _).mp z).1).1.2
      rw [if_neg (show ¬ ((48 : Int32) ≤ nI (T a) ∧ nI (T a) ≤ 57) from fun q => p2 ⟨(qi_nle (a := 48) (by omega) (by omega)).mp q.1, (qi_nle (b := 57) (by omega) (by omega)).mp q.2⟩), if_neg tb0]
  · have tb0 : ¬ tkB T len lo hi a val d = true := by
      unfold tkB
      intro z
      exact p1 (of_decide_eq_true ((Bool.and_eq_true _ _).mp z).1).1.1
    rw [if_pos (show nI len ≤ nI a from nI_le (by omega) (by omega)), if_neg tb0]
theorem m_num {w : mM} {T : Nat → Nat} {len lo hi tm p : Nat} (hT : TXm w T len) (ht : w 0 15 = nI tm) (hp : 6 * tm + p < 168) (hl : lo ≤ 9999) (hh : hi ≤ 9999) : ∀ (n a val d fuel : Nat), a + n = len → n + 1 < fuel → val ≤ 9999 → d + n ≤ 80 →
    lp (fun _ _ _ _ => none) (L_X7_isNumber_9 (nI p) (nI lo) (nI hi)) fuel (nI val) (nI d) 1 (stm w a) = some (b2 (0 < (sc T len lo hi n a val d).2.2 ∧ lo ≤ (sc T len lo hi n a val d).2.1 ∧ (sc T len lo hi n a val d).2.1 ≤ hi), up (stm w (sc T len lo hi n a val d).1) 10 (6 * tm + p) (nI (sc T len lo hi n a val d).2.1))
  | 0, a, val, d, fuel, ha, hf, hv, hd => by
    obtain ⟨m, rfl⟩ : ∃ m, fuel = m + 1 + 1 := ⟨fuel - 2, by omega⟩
    have tb0 : ¬ tkB T len lo hi a val d = true := by
      unfold tkB
      intro z
      have := (of_decide_eq_true ((Bool.and_eq_true _ _).mp z).1).1.1
      omega
    have h1 := m_body (p := p) hT hl hh a val d (by omega) hv (by omega) (lp (fun _ _ _ _ => none) (L_X7_isNumber_9 (nI p) (nI lo) (nI hi)) (m + 1))
    rw [if_neg tb0] at h1
    exact (show _ = _ from h1).trans (m_fin ht hp hl hh a val d hv (by omega) _)
  | n + 1, a, val, d, fuel, ha, hf, hv, hd => by
    obtain ⟨m, rfl⟩ : ∃ m, fuel = m + 1 + 1 := ⟨fuel - 2, by omega⟩
    have h1 := m_body (p := p) hT hl hh a val d (by omega) hv (by omega) (lp (fun _ _ _ _ => none) (L_X7_isNumber_9 (nI p) (nI lo) (nI hi)) (m + 1))
    by_cases tb1 : tkB T len lo hi a val d = true
    · rw [if_pos tb1] at h1
      have c : CB0 (10 * val + (T a - 48)) lo hi := cb0_t.mp ((Bool.and_eq_true _ _).mp tb1).2
      have hv2 : 10 * val + (T a - 48) ≤ 9999 := by
        rcases cb0_le c with q | q <;> omega
      have es : sc T len lo hi (n + 1) a val d = sc T len lo hi n (a + 1) (10 * val + (T a - 48)) (d + 1) := if_pos tb1
      rw [es]
      exact (show _ = _ from h1).trans (m_num hT ht hp hl hh n (a + 1) (10 * val + (T a - 48)) (d + 1) (m + 1) (by omega) (by omega) hv2 (by omega))
    · rw [if_neg tb1] at h1
      have es : sc T len lo hi (n + 1) a val d = (a, val, d) := if_neg tb1
      rw [es]
      exact (show _ = _ from h1).trans (m_fin ht hp hl hh a val d hv (by omega) _)
