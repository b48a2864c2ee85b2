/-! THE LETTER: a number is read -/
def cb0 (x lo hi : Nat) : Bool := if x = 0 then decide (lo = 0) else decide (0 < qc (cbk x lo hi) 4)
theorem cb0_t {x lo hi : Nat} : cb0 x lo hi = true ↔ CB0 x lo hi := by
  unfold cb0 CB0
  by_cases e : x = 0
  · rw [if_pos e, if_pos e]; exact decide_eq_true_iff
  · rw [if_neg e, if_neg e]; exact decide_eq_true_iff
theorem cb0_le {x lo hi : Nat} (h : CB0 x lo hi) : x = 0 ∨ x ≤ hi := by
  unfold CB0 at h
  by_cases e : x = 0
  · exact Or.inl e
  · rw [if_neg e] at h
    obtain ⟨k, -, hk⟩ := qc_pos.mp h
    have h1 := (of_decide_eq_true hk).1
    have h2 := fr_mono x (Nat.zero_le k)
    exact Or.inr (Nat.le_trans h2 h1)
/-- a figure that is taken: at a place a, behind d figures that make val -/
def tkB (T : Nat → Nat) (len lo hi a val d : Nat) : Bool := decide ((a < len ∧ 48 ≤ T a ∧ T a ≤ 57) ∧ (d = 0 ∨ 0 < val)) && cb0 (10 * val + (T a - 48)) lo hi
/-- where the reading ends: place, number, figures -/
def sc (T : Nat → Nat) (len lo hi : Nat) : Nat → Nat → Nat → Nat → Nat × Nat × Nat
  | 0, a, val, d => (a, val, d)
  | n + 1, a, val, d => if tkB T len lo hi a val d = true then sc T len lo hi n (a + 1) (10 * val + (T a - 48)) (d + 1) else (a, val, d)
def isF (T : Nat → Nat) (len a : Nat) : Prop := a < len ∧ 48 ≤ T a ∧ T a ≤ 57
/-- the class's text -/
def TX (v : mC) (T : Nat → Nat) (len : Nat) : Prop := len ≤ 80 ∧ v (32, 0, 0) 1 = nI len ∧ ∀ i, i < len → v (33, 0, 0) i = nI (T i) ∧ T i ≤ 65535
def st (v : mC) (a x : Nat) : mC := up (up v (32, 0, 0) 5 (nI x)) (32, 0, 0) 2 (nI a)
theorem st_1 (v : mC) (a x : Nat) : st v a x (32, 0, 0) 1 = v (32, 0, 0) 1 := by unfold st; rw [up_r, if_neg (fun q => absurd q.2 (by decide)), up_r, if_neg (fun q => absurd q.2 (by decide))]
theorem st_2 (v : mC) (a x : Nat) : st v a x (32, 0, 0) 2 = nI a := by unfold st; rw [up_r, if_pos ⟨rfl, rfl⟩]
theorem st_5 (v : mC) (a x : Nat) : st v a x (32, 0, 0) 5 = nI x := by unfold st; rw [up_r, if_neg (fun q => absurd q.2 (by decide)), up_r, if_pos ⟨rfl, rfl⟩]
theorem st_o (v : mC) (a x : Nat) {z : kC} (h : z ≠ (32, 0, 0)) : st v a x z = v z := funext fun i => by unfold st; rw [up_r, if_neg (fun q => h q.1), up_r, if_neg (fun q => h q.1)]
theorem st_u (v : mC) (a x a' x' : Nat) : up (up (st v a x) (32, 0, 0) 5 (nI x')) (32, 0, 0) 2 (nI a') = st v a' x' := by
  funext z i
  unfold st
  rw [up_r, up_r, up_r, up_r, up_r, up_r]
  by_cases h2 : z = (32, 0, 0) ∧ i = 2
  · simp only [if_pos h2]
  · by_cases h5 : z = (32, 0, 0) ∧ i = 5
    · simp only [if_neg h2, if_pos h5]
    · simp only [if_neg h2, if_neg h5]
theorem s_num {v : mC} {T : Nat → Nat} {len lo hi : Nat} (hT : TX v T len) (hl : lo ≤ 9999) (hh : hi ≤ 9999) : ∀ (n a val d fuel : Nat), a + n = len → n < fuel → val ≤ 9999 → d + n ≤ 80 →
    ∃ r : Int32, lp (fun _ _ => none) (L_X2_readNumber_7 (nI lo) (nI hi)) fuel (nI d) (st v a val) = some (r, st v (sc T len lo hi n a val d).1 (sc T len lo hi n a val d).2.1) ∧
    (isF T len (sc T len lo hi n a val d).1 → r = 0) ∧ (¬ isF T len (sc T len lo hi n a val d).1 → r = b2 (0 < (sc T len lo hi n a val d).2.2 ∧ lo ≤ (sc T len lo hi n a val d).2.1 ∧ (sc T len lo hi n a val d).2.1 ≤ hi))
  | 0, a, val, d, fuel, ha, hf, hv, hd => by
    obtain ⟨m, rfl⟩ : ∃ m, fuel = m + 1 := ⟨fuel - 1, by omega⟩
    have hlen := hT.1
    refine ⟨b2 (0 < d ∧ lo ≤ val ∧ val ≤ hi), ?_, fun q => absurd q.1 (by show ¬ a < len; omega), fun _ => rfl⟩
    show L_X2_readNumber_7 (nI lo) (nI hi) _ (nI d) (st v a val) = some (_, st v a val)
    simp only [L_X2_readNumber_7, jn_e, st_1, hT.2.1, st_2, s_within, st_5, bnd_s, b2_if, zb_0, zb_1, ck_t]
    rw [if_pos (nI_le (by omega) (by omega))]
    by_cases p : 0 < d
    · rw [if_neg (show ¬ nI d ≤ 0 from nI_ge (a := 0) p (by omega))]
      by_cases p2 : lo ≤ val ∧ val ≤ hi
      · rw [if_pos (show nI lo ≤ nI val ∧ nI val ≤ nI hi from ⟨nI_le p2.1 (by omega), nI_le p2.2 (by omega)⟩), b2_t ⟨p, p2⟩]
      · rw [if_neg (show ¬ (nI lo ≤ nI val ∧ nI val ≤ nI hi) from fun q => p2 ⟨(qi_nle (by omega) (by omega)).mp q.1, (qi_nle (by omega) (by omega)).mp q.2⟩), b2_f (fun q => p2 q.2)]
    · rw [if_pos (show nI d ≤ 0 from nI_le (b := 0) (by omega) (by omega)), b2_f (fun q => p q.1)]
  | n + 1, a, val, d, fuel, ha, hf, hv, hd => by
    obtain ⟨m, rfl⟩ : ∃ m, fuel = m + 1 := ⟨fuel - 1, by omega⟩
    have hlen := hT.1
    obtain ⟨t1, t2⟩ := hT.2.2 a (by omega)
    have n10 : ¬ (1 : Int32) = 0 := by decide
    have e33 : st v a val (33, 0, 0) a = nI (T a) := by rw [st_o v a val (by decide)]; exact t1
    by_cases hfig : 48 ≤ T a ∧ T a ≤ 57
    · have hx : 10 * val + (T a - 48) ≤ 99999 := by omega
      have ex : nI val * 10 + nI (T a) - 48 = nI (10 * val + (T a - 48)) := by
        rw [show (10 : Int32) = nI 10 from rfl, show (48 : Int32) = nI 48 from rfl, qi_mul, qi_add, qi_sub (by omega)]
        exact congrArg nI (by omega)
      obtain ⟨cr, hcr, cr1, cr2⟩ := s_canBegin (lo := lo) (hi := hi) hx hl hh (st v a val)
      have hwin : (48 : Int32) ≤ nI (T a) ∧ nI (T a) ≤ 57 := ⟨nI_le (a := 48) hfig.1 (by omega), nI_le (b := 57) hfig.2 (by omega)⟩
      have body : lp (fun _ _ => none) (L_X2_readNumber_7 (nI lo) (nI hi)) (m + 1) (nI d) (st v a val) = if tkB T len lo hi a val d = true then lp (fun _ _ => none) (L_X2_readNumber_7 (nI lo) (nI hi)) m (nI (d + 1)) (st v (a + 1) (10 * val + (T a - 48))) else some (0, st v a val) := by
        show L_X2_readNumber_7 (nI lo) (nI hi) (lp (fun _ _ => none) (L_X2_readNumber_7 (nI lo) (nI hi)) m) (nI d) (st v a val) = _
        generalize lp (fun _ _ => none) (L_X2_readNumber_7 (nI lo) (nI hi)) m = self
        have e2 : up (st v a val) (32, 0, 0) 5 (nI (10 * val + (T a - 48))) (32, 0, 0) 2 = nI a := by rw [up_r, if_neg (fun q => absurd q.2 (by decide)), st_2]
        simp (disch := omega) only [L_X2_readNumber_7, jn_e, st_1, hT.2.1, st_2, st_5, s_within, bnd_s, b2_if, zb_0, ck_t, qi_inb, qi_ix, e33, lt_e, ex, hcr, e2, nI_1, st_u, n10, if_true, if_false]
        rw [if_neg (show ¬ nI len ≤ nI a from nI_ge (by omega) (by omega)), if_pos hwin]
        by_cases p : d = 0 ∨ 0 < val
        · have go : (if cr = 0 then some ((0 : Int32), st v a val) else self (nI (d + 1)) (st v (a + 1) (10 * val + (T a - 48)))) = if tkB T len lo hi a val d = true then self (nI (d + 1)) (st v (a + 1) (10 * val + (T a - 48))) else some (0, st v a val) := by
            by_cases c : CB0 (10 * val + (T a - 48)) lo hi
            · have tb1 : tkB T len lo hi a val d = true := by
                unfold tkB
                rw [decide_eq_true (show (a < len ∧ 48 ≤ T a ∧ T a ≤ 57) ∧ (d = 0 ∨ 0 < val) from ⟨⟨by omega, hfig.1, hfig.2⟩, p⟩), cb0_t.mpr c]
                rfl
              rw [if_pos tb1, if_neg (by rw [cr1 c]; decide)]
            · have tb0 : ¬ tkB T len lo hi a val d = true := by
                unfold tkB
                intro q
                have q2 := (Bool.and_eq_true _ _).mp q
                exact c (cb0_t.mp q2.2)
              rw [if_neg tb0, if_pos (cr2 c)]
          by_cases d0 : d = 0
          · rw [if_pos (show nI d ≤ 0 by rw [d0]; decide)]
            exact go
          · rw [if_neg (show ¬ nI d ≤ 0 from nI_ge (a := 0) (by omega) (by omega)), if_neg (show ¬ nI val = 0 from fun q => by
              have := (qi_n0 val (by omega)).mp q
              omega)]
            exact go
        · have tb0 : ¬ tkB T len lo hi a val d = true := by
            unfold tkB
            intro q
            have q2 := (Bool.and_eq_true _ _).mp q
            exact p (of_decide_eq_true q2.1).2
          rw [if_neg (show ¬ nI d ≤ 0 from nI_ge (a := 0) (by omega) (by omega)), if_pos (show nI val = 0 from (qi_n0 val (by omega)).mpr (by omega)), if_neg tb0]
      rw [body]
      by_cases tb1 : tkB T len lo hi a val d = true
      · rw [if_pos tb1]
        have c : CB0 (10 * val + (T a - 48)) lo hi := cb0_t.mp ((Bool.and_eq_true _ _).mp tb1).2
        have hv2 : 10 * val + (T a - 48) ≤ 9999 := by
          rcases cb0_le c with q | q <;> omega
        have es : sc T len lo hi (n + 1) a val d = sc T len lo hi n (a + 1) (10 * val + (T a - 48)) (d + 1) := if_pos tb1
        rw [es]
        exact s_num hT hl hh n (a + 1) (10 * val + (T a - 48)) (d + 1) m (by omega) (by omega) hv2 (by omega)
      · rw [if_neg tb1]
        have es : sc T len lo hi (n + 1) a val d = (a, val, d) := if_neg tb1
        rw [es]
        exact ⟨0, rfl, fun _ => rfl, fun q => absurd ⟨by show a < len; omega, hfig.1, hfig.2⟩ q⟩
    · have tb0 : ¬ tkB T len lo hi a val d = true := by
        unfold tkB
        intro q
        have q2 := (Bool.and_eq_true _ _).mp q
        exact hfig (of_decide_eq_true q2.1).1.2
      have es : sc T len lo hi (n + 1) a val d = (a, val, d) := if_neg tb0
      rw [es]
      have hwin : ¬ ((48 : Int32) ≤ nI (T a) ∧ nI (T a) ≤ 57) := fun q => hfig ⟨(qi_nle (a := 48) (by omega) (by omega)).mp q.1, (qi_nle (b := 57) (by omega) (by omega)).mp q.2⟩
      refine ⟨b2 (0 < d ∧ lo ≤ val ∧ val ≤ hi), ?_, fun q => absurd q.2 hfig, fun _ => rfl⟩
      show L_X2_readNumber_7 (nI lo) (nI hi) (lp (fun _ _ => none) (L_X2_readNumber_7 (nI lo) (nI hi)) m) (nI d) (st v a val) = some (_, st v a val)
      generalize lp (fun _ _ => none) (L_X2_readNumber_7 (nI lo) (nI hi)) m = self
      unfold L_X2_readNumber_7
      rw [jn_e, st_1, hT.2.1, st_2, if_neg (show ¬ nI len ≤ nI a from nI_ge (by omega) (by omega)), qi_inb (show a < 80 by omega) (by omega), ck_t, qi_ix (by omega), e33, s_within, bnd_s, b2_if, if_neg hwin]
      simp only [st_5, s_within, bnd_s, b2_if, zb_0, zb_1, ck_t]
      by_cases p : 0 < d
      · rw [if_neg (show ¬ nI d ≤ 0 from nI_ge (a := 0) p (by omega))]
        by_cases p2 : lo ≤ val ∧ val ≤ hi
        · rw [if_pos (show nI lo ≤ nI val ∧ nI val ≤ nI hi from ⟨nI_le p2.1 (by omega), nI_le p2.2 (by omega)⟩), b2_t ⟨p, p2⟩]
        · rw [if_neg (show ¬ (nI lo ≤ nI val ∧ nI val ≤ nI hi) from fun q => p2 ⟨(qi_nle (by omega) (by omega)).mp q.1, (qi_nle (by omega) (by omega)).mp q.2⟩), b2_f (fun q => p2 q.2)]
      · rw [if_pos (show nI d ≤ 0 from nI_le (b := 0) (by omega) (by omega)), b2_f (fun q => p q.1)]
