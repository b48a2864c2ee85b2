/-! THE LETTER: whether a number can begin with figures -/
/-- the least and the greatest number that k more figures make -/
def fr (x : Nat) : Nat → Nat × Nat
  | 0 => (x, x)
  | k + 1 => (10 * (fr x k).1, 10 * (fr x k).2 + 9)
theorem fr_s (x k : Nat) : fr x (k + 1) = (10 * (fr x k).1, 10 * (fr x k).2 + 9) := rfl
theorem fr_b {x : Nat} (hx : x ≤ 99999) {k : Nat} (hk : k ≤ 4) : (fr x k).1 ≤ 999990000 ∧ (fr x k).2 ≤ 999999999 := by
  have e0 : fr x 0 = (x, x) := rfl
  have e1 : fr x 1 = (10 * x, 10 * x + 9) := rfl
  have e2 : fr x 2 = (10 * (10 * x), 10 * (10 * x + 9) + 9) := rfl
  have e3 : fr x 3 = (10 * (10 * (10 * x)), 10 * (10 * (10 * x + 9) + 9) + 9) := rfl
  have e4 : fr x 4 = (10 * (10 * (10 * (10 * x))), 10 * (10 * (10 * (10 * x + 9) + 9) + 9) + 9) := rfl
  rcases (show k = 0 ∨ k = 1 ∨ k = 2 ∨ k = 3 ∨ k = 4 by omega) with e | e | e | e | e <;> subst e
  · rw [e0]; exact ⟨by show x ≤ _; omega, by show x ≤ _; omega⟩
  · rw [e1]; exact ⟨by show 10 * x ≤ _; omega, by show 10 * x + 9 ≤ _; omega⟩
  · rw [e2]; exact ⟨by show 10 * (10 * x) ≤ _; omega, by show 10 * (10 * x + 9) + 9 ≤ _; omega⟩
  · rw [e3]; exact ⟨by show 10 * (10 * (10 * x)) ≤ _; omega, by show 10 * (10 * (10 * x + 9) + 9) + 9 ≤ _; omega⟩
  · rw [e4]; exact ⟨by show 10 * (10 * (10 * (10 * x))) ≤ _; omega, by show 10 * (10 * (10 * (10 * x + 9) + 9) + 9) + 9 ≤ _; omega⟩
theorem fr_mono (x : Nat) {i : Nat} : ∀ {k : Nat}, i ≤ k → (fr x i).1 ≤ (fr x k).1
  | 0, h => by
    have : i = 0 := by omega
    rw [this]
    exact Nat.le_refl _
  | k + 1, h => by
    by_cases e : i = k + 1
    · rw [e]; exact Nat.le_refl _
    · have := fr_mono x (i := i) (k := k) (by omega)
      rw [fr_s]
      show _ ≤ 10 * (fr x k).1
      omega
def cbk (x lo hi : Nat) (k : Nat) : Bool := decide ((fr x k).1 ≤ hi ∧ lo ≤ (fr x k).2)
def CB0 (x lo hi : Nat) : Prop := if x = 0 then lo = 0 else 0 < qc (cbk x lo hi) 4
theorem s_canBegin {x lo hi : Nat} (hx : x ≤ 99999) (hl : lo ≤ 9999) (hh : hi ≤ 9999) (v : mC) : ∃ r : Int32, f_X2_canBegin (nI x) (nI lo) (nI hi) v = some r ∧ (CB0 x lo hi → r = 1) ∧ (¬ CB0 x lo hi → r = 0) := by
  unfold f_X2_canBegin CB0
  by_cases e : x = 0
  · rw [if_pos (show nI x = 0 by rw [e]; rfl), if_pos e, zb_0, zb_1, ck_t, ck_t]
    by_cases e2 : lo = 0
    · rw [if_pos (show nI lo = 0 by rw [e2]; rfl)]
      exact ⟨1, rfl, fun _ => rfl, fun q => absurd e2 q⟩
    · rw [if_neg (show ¬ nI lo = 0 from fun q => e2 ((qi_n0 lo (by omega)).mp q))]
      exact ⟨0, rfl, fun q => absurd q e2, fun _ => rfl⟩
  · rw [if_neg (show ¬ nI x = 0 from fun q => e ((qi_n0 x (by omega)).mp q)), if_neg e]
    generalize hs : (fun k => decide (hi < (fr x k).1 ∨ ¬ (fr x k).2 < lo)) = s
    have hq := qf_le s 4
    refine ⟨b2 (0 < qc (cbk x lo hi) 4), ?_, fun q => b2_t q, fun q => b2_f q⟩
    refine lp_go (fuel := 8192) (ev := fun k (X : Int32 → Int32 → Int32 → Option Int32) => X (nI (fr x k).1) (nI (fr x k).2) (nI k)) (qf s 4) (by omega) (fun k hk self => ?_) (fun self => ?_)
    · show L_X2_canBegin_22 (nI lo) (nI hi) self (nI (fr x k).1) (nI (fr x k).2) (nI k) = self (nI (10 * (fr x k).1)) (nI (10 * (fr x k).2 + 9)) (nI (k + 1))
      have hno := qf_no s 4 k hk
      rw [← hs] at hno
      have hno2 := of_decide_eq_false hno
      obtain ⟨f1, f2⟩ := fr_b hx (show k ≤ 4 by omega)
      have e1 : nI (fr x k).1 * 10 = nI (10 * (fr x k).1) := by rw [show (10 : Int32) = nI 10 from rfl, qi_mul, Nat.mul_comm]
      have e2 : nI (fr x k).2 * 10 + 9 = nI (10 * (fr x k).2 + 9) := by rw [show (10 : Int32) = nI 10 from rfl, show (9 : Int32) = nI 9 from rfl, qi_mul, qi_add, Nat.mul_comm]
      unfold L_X2_canBegin_22
      rw [if_neg (show ¬ (4 : Int32) ≤ nI k from nI_ge (b := 4) (by omega) (by omega)), if_neg (nI_nlt (by omega) (by omega)), if_pos (nI_lt (by omega) (by omega)), e1, e2, nI_1]
    · show L_X2_canBegin_22 (nI lo) (nI hi) self (nI (fr x (qf s 4)).1) (nI (fr x (qf s 4)).2) (nI (qf s 4)) = _
      have hbel : ∀ k, k < qf s 4 → cbk x lo hi k = false := fun k hk => by
        have hno := qf_no s 4 k hk
        rw [← hs] at hno
        have hno2 := of_decide_eq_false hno
        exact decide_eq_false (by omega)
      by_cases e4 : qf s 4 < 4
      · have hy := qf_yes s 4 e4
        obtain ⟨f1, f2⟩ := fr_b hx (show qf s 4 ≤ 4 by omega)
        generalize hQ : qf s 4 = q at *
        rw [← hs] at hy
        have hy2 := of_decide_eq_true hy
        unfold L_X2_canBegin_22
        rw [if_neg (show ¬ (4 : Int32) ≤ nI q from nI_ge (b := 4) e4 (by omega)), zb_0, zb_1, ck_t, ck_t]
        by_cases g : hi < (fr x q).1
        · rw [if_pos (nI_lt g (by omega)), b2_f]
          intro z
          obtain ⟨k, k4, hk⟩ := qc_pos.mp z
          have hk2 := of_decide_eq_true hk
          by_cases kq : k < q
          · rw [hbel k kq] at hk
            exact absurd hk (by decide)
          · have := fr_mono x (show q ≤ k by omega)
            omega
        · rw [if_neg (nI_nlt (by omega) (by omega)), if_neg (nI_nlt (by omega) (by omega)), b2_t (qc_pos.mpr ⟨q, e4, decide_eq_true (by omega)⟩)]
      · have e5 : qf s 4 = 4 := by omega
        rw [e5] at hbel ⊢
        unfold L_X2_canBegin_22
        rw [if_pos (show (4 : Int32) ≤ nI 4 by decide), zb_0, ck_t, b2_f]
        intro z
        obtain ⟨k, k4, hk⟩ := qc_pos.mp z
        rw [hbel k k4] at hk
        exact absurd hk (by decide)
theorem m_begins {x lo hi : Nat} (hx : x ≤ 99999) (hl : lo ≤ 9999) (hh : hi ≤ 9999) (w : mM) : ∃ r : Int32, f_X7_begins (nI x) (nI lo) (nI hi) w = some r ∧ (CB0 x lo hi → r = 1) ∧ (¬ CB0 x lo hi → r = 0) := by
  have hf : f_X7_begins (nI x) (nI lo) (nI hi) w = (if nI x = 0 then (if nI lo = 0 then some 1 else some 0) else some (b2 (0 < qc (cbk x lo hi) 4))) := by
    have key : lp (fun _ _ _ _ => none) (L_X7_begins_11 (nI x) (nI lo) (nI hi)) 8192 (b2 (0 < qc (cbk x lo hi) 0)) (nI (fr x 0).1) (nI (fr x 0).2) (nI 0) = (if nI x = 0 then (if nI lo = 0 then some 1 else some 0) else some (b2 (0 < qc (cbk x lo hi) 4))) := by
      refine lp_go (fuel := 8192) (ev := fun k (X : Int32 → Int32 → Int32 → Int32 → Option Int32) => X (b2 (0 < qc (cbk x lo hi) k)) (nI (fr x k).1) (nI (fr x k).2) (nI k)) 4 (by omega) (fun k hk self => ?_) (fun self => ?_)
      · show L_X7_begins_11 (nI x) (nI lo) (nI hi) self (b2 (0 < qc (cbk x lo hi) k)) (nI (fr x k).1) (nI (fr x k).2) (nI k) = self (b2 (0 < qc (cbk x lo hi) (k + 1))) (nI (10 * (fr x k).1)) (nI (10 * (fr x k).2 + 9)) (nI (k + 1))
        obtain ⟨f1, f2⟩ := fr_b hx (show k ≤ 4 by omega)
        have e1 : 10 * nI (fr x k).1 = nI (10 * (fr x k).1) := by rw [show (10 : Int32) = nI 10 from rfl, qi_mul]
        have e2 : 10 * nI (fr x k).2 + 9 = nI (10 * (fr x k).2 + 9) := by rw [show (10 : Int32) = nI 10 from rfl, show (9 : Int32) = nI 9 from rfl, qi_mul, qi_add]
        have hq : qc (cbk x lo hi) (k + 1) = qc (cbk x lo hi) k + (if (fr x k).1 ≤ hi ∧ lo ≤ (fr x k).2 then 1 else 0) := by
          rw [qc_s]
          unfold cbk
          simp only [decide_eq_true_eq]
        simp only [L_X7_begins_11, jn_e, b2_if, e1, e2, nI_1]
        rw [if_neg (show ¬ (4 : Int32) ≤ nI k from nI_ge (b := 4) hk (by omega))]
        by_cases p : 0 < qc (cbk x lo hi) k
        · have z : 0 < qc (cbk x lo hi) (k + 1) := by omega
          rw [if_pos p, b2_t z]
        · rw [if_neg p]
          by_cases p1 : (fr x k).1 ≤ hi
          · rw [if_neg (show ¬ nI hi < nI (fr x k).1 from nI_nlt p1 (by omega))]
            by_cases p2 : lo ≤ (fr x k).2
            · rw [if_pos ⟨p1, p2⟩] at hq
              have z : 0 < qc (cbk x lo hi) (k + 1) := by omega
              rw [if_neg (show ¬ nI (fr x k).2 < nI lo from nI_nlt p2 (by omega)), b2_t z]
            · rw [if_neg (fun q => p2 q.2)] at hq
              have z : ¬ 0 < qc (cbk x lo hi) (k + 1) := by omega
              rw [if_pos (show nI (fr x k).2 < nI lo from nI_lt (by omega) (by omega)), b2_f z]
          · rw [if_neg (fun q => p1 q.1)] at hq
            have z : ¬ 0 < qc (cbk x lo hi) (k + 1) := by omega
            rw [if_pos (show nI hi < nI (fr x k).1 from nI_lt (by omega) (by omega)), b2_f z]
      · show L_X7_begins_11 (nI x) (nI lo) (nI hi) self (b2 (0 < qc (cbk x lo hi) 4)) _ _ (nI 4) = _
        simp only [L_X7_begins_11, zb_0, zb_1, zb_b, ck_t]
        rw [if_pos (show (4 : Int32) ≤ nI 4 by decide)]
    exact key
  rw [hf]
  unfold CB0
  by_cases e : x = 0
  · rw [if_pos (show nI x = 0 by rw [e]; rfl), if_pos e]
    by_cases e2 : lo = 0
    · rw [if_pos (show nI lo = 0 by rw [e2]; rfl)]
      exact ⟨1, rfl, fun _ => rfl, fun q => absurd e2 q⟩
    · rw [if_neg (show ¬ nI lo = 0 from fun q => e2 ((qi_n0 lo (by omega)).mp q))]
      exact ⟨0, rfl, fun q => absurd q e2, fun _ => rfl⟩
  · rw [if_neg (show ¬ nI x = 0 from fun q => e ((qi_n0 x (by omega)).mp q)), if_neg e]
    exact ⟨_, rfl, fun q => b2_t q, fun q => b2_f q⟩
