/-! WHAT IS TOLD OF A LINEUP: counts, places, sums, the row of a held feast -/
theorem qi_add0 (a : Nat) : nI a + 0 = nI a := qi_add a 0
theorem qc_not (p : Nat → Bool) : ∀ n, qc p n + qc (fun k => !p k) n = n
  | 0 => rfl
  | n + 1 => by
    have := qc_not p n
    rw [qc_s, qc_s]
    cases p n <;> simp <;> omega
theorem qc_ext (p : Nat → Bool) {n : Nat} : ∀ {N : Nat}, n ≤ N → (∀ k, n ≤ k → k < N → p k = false) → qc p N = qc p n
  | 0, h, _ => by
    have : n = 0 := by omega
    rw [this]
  | N + 1, h, h2 => by
    by_cases e : n = N + 1
    · rw [e]
    · rw [qc_s, qc_ext p (N := N) (by omega) (fun k h3 h4 => h2 k h3 (by omega)), h2 N (by omega) (by omega)]
      rfl
theorem s_countIn (x : Int32) (v : mC) : f_X3_countIn x v = some (nI (qc (fun i => decide (v (36, 0, 0) i = x)) 30)) := by
  unfold f_X3_countIn
  refine lp_go (fuel := 8192) (ev := fun k (X : Int32 → Int32 → Option Int32) => X (nI (qc (fun i => decide (v (36, 0, 0) i = x)) k)) (nI k)) 30 (by omega) (fun k hk self => ?_) (fun self => ?_)
  · show L_X3_countIn_4 x v self (nI (qc (fun i => decide (v (36, 0, 0) i = x)) k)) (nI k) = self (nI (qc (fun i => decide (v (36, 0, 0) i = x)) (k + 1))) (nI (k + 1))
    simp (disch := omega) only [L_X3_countIn_4, qi_inb, qi_ix, ck_t, qc_s, nI_1]
    rw [if_neg (show ¬ (30 : Int32) ≤ nI k from nI_ge (b := 30) hk (by omega))]
    by_cases h : v (36, 0, 0) k = x
    · simp only [h, if_true, decide_true]
    · simp only [h, if_false, decide_false, Bool.false_eq_true, Nat.add_zero]
  · show L_X3_countIn_4 x v self _ (nI 30) = _
    simp only [L_X3_countIn_4]
    rw [if_pos (by decide)]
theorem s_countAll (v : mC) : f_X3_countAll v = some (nI (30 - qc (fun i => decide (v (36, 0, 0) i = -1)) 30)) := by
  have h := qc_le (fun i => decide (v (36, 0, 0) i = -1)) 30
  unfold f_X3_countAll
  rw [s_countIn, bnd_s]
  exact congrArg some (qi_sub (a := 30) h)
section Tell
variable {v : mC} {o : Nat} {w : mM} {D E n m f : Nat} {dd : Nat → Nat}
theorem s_allP (R : RlE v o (w 1) D E n m f dd) {j : Nat} (hj : j < f) : f_X1_allPlaces o (nI j) v = some (nI (qs (fP v o j) 4)) := by
  have hf := R.1.2.2.2
  unfold f_X1_allPlaces
  refine lp_go (fuel := 8192) (ev := fun k (X : Int32 → Int32 → Option Int32) => X (nI (qs (fP v o j) k)) (nI k)) 4 (by omega) (fun k hk self => ?_) (fun self => ?_)
  · show L_X1_allPlaces_4 o (nI j) v self (nI (qs (fP v o j) k)) (nI k) = self (nI (qs (fP v o j) (k + 1))) (nI (k + 1))
    simp (disch := omega) only [L_X1_allPlaces_4, qi_inb, qi_ix, ck_t, qs_s, nI_1, (fP_ok R hj hk).2.1, qi_add]
    rw [if_neg (show ¬ (4 : Int32) ≤ nI k from nI_ge (b := 4) hk (by omega))]
  · show L_X1_allPlaces_4 o (nI j) v self _ (nI 4) = _
    simp only [L_X1_allPlaces_4]
    rw [if_pos (by decide)]
theorem m_allP (R : RlE v o (w 1) D E n m f dd) {j : Nat} (hj : j < f) : f_X7_allPlaces (nI j) w = some (nI (qs (fP v o j) 4)) := by
  have hf := R.1.2.2.2
  have p0 : f_X7_places (nI j) 0 w = some (nI (fP v o j 0)) := (m_places (j := j) (l := 0) (by omega) (by omega) w).trans (congrArg some (fP_ok R hj (l := 0) (by omega)).2.2)
  have p1 : f_X7_places (nI j) 1 w = some (nI (fP v o j 1)) := (m_places (j := j) (l := 1) (by omega) (by omega) w).trans (congrArg some (fP_ok R hj (l := 1) (by omega)).2.2)
  have p2 : f_X7_places (nI j) 2 w = some (nI (fP v o j 2)) := (m_places (j := j) (l := 2) (by omega) (by omega) w).trans (congrArg some (fP_ok R hj (l := 2) (by omega)).2.2)
  have p3 : f_X7_places (nI j) 3 w = some (nI (fP v o j 3)) := (m_places (j := j) (l := 3) (by omega) (by omega) w).trans (congrArg some (fP_ok R hj (l := 3) (by omega)).2.2)
  simp only [f_X7_allPlaces, p0, p1, p2, p3, bnd_s, qi_add]
  show _ = some (nI (0 + fP v o j 0 + fP v o j 1 + fP v o j 2 + fP v o j 3))
  rw [Nat.zero_add]
theorem fC_eq (v : mC) (o n m j : Nat) (d : Int32) (hn : n ≤ 30) : fC v o n m j d + qc (fun i => decide (fL v o n m j d i = -1)) 30 = 30 := by
  have h := qc_not (fun i => decide (fL v o n m j d i = -1)) 30
  have e : qc (fun k => !(decide (fL v o n m j d k = -1))) 30 = fC v o n m j d := by
    rw [qc_ext _ hn (fun k h1 h2 => by unfold fL; rw [if_neg (by omega)]; rfl)]
    unfold fC luC
    refine qc_cong fun k hk => ?_
    unfold fL
    rw [if_pos hk]
    unfold luI
    by_cases p : luP (fM v o m j d) n (fP v o j) (fF v o n m j d) k < 4
    · rw [if_pos p, decide_eq_true p, decide_eq_false (qi_nM (by omega))]
      rfl
    · rw [if_neg p, decide_eq_false p]
      rfl
  omega
/-- the lines that are told of a feast: those sung, or those to come -/
def tL (v : mC) (o D n m j d : Nat) (i : Nat) : Int32 := if d ≤ D then v (29, o, j) i else fL v o n m j (nI d) i
theorem s_tell (R : Rl v o (w 1) D n m f dd) {j : Nat} (hj : j < f) : ∃ v', f_X3_tell o (nI j) v = some v' ∧ (∀ z, z.1 < 36 → v' z = v z) ∧ (∀ z, z.1 = 40 → v' z = v z) ∧ (∀ i, i < 30 → v' (36, 0, 0) i = tL v o D n m j (dd j) i) := by
  have hf := R.1.2.2.2
  have hdj := (R.2.2.2.2.1 j hj).1
  have hD := R.1.1
  obtain ⟨v', h1, h2, h3, h4⟩ := s_make R hj
  unfold f_X3_tell
  rw [s_held o (show j < 20 by omega), bnd_s, b2_if, R.2.1.1, hdj.2.2.2, i2b _ _ (not_congr (qi_nlt (a := D) (b := dd j) (by omega) (by omega)))]
  by_cases h : dd j ≤ D
  · have c30 : cpo (0 : Int32) (0 : Int32) (30 : Int32) 30 30 = true := by decide
    have i0 : ix (0 : Int32) = 0 := rfl
    have i30 : ix (30 : Int32) = 30 := rfl
    rw [if_pos (by omega)]
    simp (disch := omega) only [qi_inb, qi_ix, ck_t, lt_e, c30, i0, i30]
    refine ⟨_, rfl, fun z hz => funext fun i => ?_, fun z hz => funext fun i => ?_, fun i hi => ?_⟩
    · rw [upA_r, if_neg (fun e => by rw [e] at hz; exact absurd hz (by decide))]
    · rw [upA_r, if_neg (fun e => by rw [e] at hz; exact absurd hz (by decide))]
    · rw [upA_r, if_pos rfl, cpy_r, if_pos hi]
      unfold tL
      rw [if_pos h]
  · rw [if_neg (by omega), h1, bnd_s]
    refine ⟨v', rfl, h2, h3, fun i hi => ?_⟩
    unfold tL
    rw [if_neg h]
    exact h4 i hi
theorem m_tells (R : Rl v o (w 1) D n m f dd) {j : Nat} (hj : j < f) : ∃ w', f_X7_tells (nI j) w = some (nI (30 - qc (fun i => decide (tL v o D n m j (dd j) i = -1)) 30), w') ∧ (∀ z, z ≠ 5 → z ≠ 6 → z ≠ 7 → w' z = w z) ∧ (∀ i, i < 30 → w' 5 i = tL v o D n m j (dd j) i) := by
  have hn := R.1.2.1
  have hf := R.1.2.2.2
  have hF := R.2.2.2.2.1 j hj
  have hD := R.1.1
  obtain ⟨-, hd2, hd3, hd4⟩ := hF.1
  unfold f_X7_tells
  rw [m_held (show j < 20 by omega), bnd_s, b2_if, R.2.1.2.1, hd3, i2b _ _ (not_congr (qi_nlt (a := D) (b := dd j) (by omega) (by omega)))]
  by_cases h : dd j ≤ D
  · rw [if_pos (by omega)]
    have hq := qc_le (fun i => decide (tL v o D n m j (dd j) i = -1)) 30
    have key : lp (fun _ _ _ => none) (L_X7_tells_18 (nI j)) 8192 (nI (qc (fun i => !(decide (tL v o D n m j (dd j) i = -1))) 0)) (nI 0) (rowT w 5 (tL v o D n m j (dd j)) 0) = some (nI (30 - qc (fun i => decide (tL v o D n m j (dd j) i = -1)) 30), rowT w 5 (tL v o D n m j (dd j)) 30) := by
      refine lp_go (fuel := 8192) (ev := fun k (X : Int32 → Int32 → mM → Option (Int32 × mM)) => X (nI (qc (fun i => !(decide (tL v o D n m j (dd j) i = -1))) k)) (nI k) (rowT w 5 (tL v o D n m j (dd j)) k)) 30 (by omega) (fun k hk self => ?_) (fun self => ?_)
      · show L_X7_tells_18 (nI j) self (nI (qc (fun i => !(decide (tL v o D n m j (dd j) i = -1))) k)) (nI k) (rowT w 5 (tL v o D n m j (dd j)) k) = self (nI (qc (fun i => !(decide (tL v o D n m j (dd j) i = -1))) (k + 1))) (nI (k + 1)) (rowT w 5 (tL v o D n m j (dd j)) (k + 1))
        have e : 583 + 45 * j + 15 + k = 598 + 45 * j + k := by omega
        have e2 : rowT w 5 (tL v o D n m j (dd j)) k 1 (598 + 45 * j + k) = tL v o D n m j (dd j) k := by
          rw [rowT_ne _ _ k _ (by decide), (hF.2.2.2 h).2 k hk]
          unfold tL
          rw [if_pos h]
        have e3 : up (rowT w 5 (tL v o D n m j (dd j)) k) 5 k (tL v o D n m j (dd j) k) = rowT w 5 (tL v o D n m j (dd j)) (k + 1) := rowT_s _ _ _ _
        have e4 : rowT w 5 (tL v o D n m j (dd j)) (k + 1) 5 k = tL v o D n m j (dd j) k := rowT_in _ _ _ (by omega)
        have ea : ((583 : Int32) + 45 * nI j) + 15 + nI k = nI (598 + 45 * j + k) := by
          rw [show (583 : Int32) = nI 583 from rfl, show (45 : Int32) = nI 45 from rfl, show (15 : Int32) = nI 15 from rfl, qi_mul, qi_add, qi_add, qi_add, e]
        simp (disch := omega) only [L_X7_tells_18, lt_e, ea, qi_inb, qi_ix, ck_t, e2, e3, e4, nI_1, qc_s]
        rw [if_neg (show ¬ (30 : Int32) ≤ nI k from nI_ge (b := 30) hk (by omega))]
        by_cases q : tL v o D n m j (dd j) k = -1
        · simp only [q, if_true, decide_true, Bool.not_true, Bool.false_eq_true, if_false]
          rw [qi_add0]
          rfl
        · simp only [q, if_false, decide_false, Bool.not_false, if_true, nI_1]
      · show L_X7_tells_18 (nI j) self _ (nI 30) _ = _
        simp only [L_X7_tells_18]
        rw [if_pos (by decide)]
        have := qc_not (fun i => decide (tL v o D n m j (dd j) i = -1)) 30
        rw [show qc (fun i => !(decide (tL v o D n m j (dd j) i = -1))) 30 = 30 - qc (fun i => decide (tL v o D n m j (dd j) i = -1)) 30 by omega]
    rw [rowT_0] at key
    refine ⟨_, key, fun z h5 _ _ => funext fun i => rowT_ne _ _ _ _ h5, fun i hi => rowT_in _ _ _ hi⟩
  · rw [if_neg (by omega)]
    obtain ⟨w', h1, h2, h3⟩ := m_linesUp R hj (by omega)
    have e : ∀ i, tL v o D n m j (dd j) i = fL v o n m j (nI (dd j)) i := fun i => if_neg h
    rw [h1]
    refine ⟨w', ?_, h2, fun i hi => (h3 i hi).trans (e i).symm⟩
    have hc := fC_eq v o n m j (nI (dd j)) hn
    have e2 : qc (fun i => decide (tL v o D n m j (dd j) i = -1)) 30 = qc (fun i => decide (fL v o n m j (nI (dd j)) i = -1)) 30 := qc_cong fun i _ => by rw [e]
    rw [e2, show 30 - qc (fun i => decide (fL v o n m j (nI (dd j)) i = -1)) 30 = fC v o n m j (nI (dd j)) by omega]
    rfl
theorem m_inLine (R : Rl v o (w 1) D n m f dd) {j : Nat} (hj : j < f) (x : Int32) : ∃ w', f_X7_inLine (nI j) x w = some (nI (qc (fun i => decide (tL v o D n m j (dd j) i = x)) 30), w') ∧ (∀ z, z ≠ 5 → z ≠ 6 → z ≠ 7 → w' z = w z) := by
  obtain ⟨w', h1, h2, h3⟩ := m_tells R hj
  refine ⟨w', ?_, h2⟩
  unfold f_X7_inLine
  simp only [jn_e, h1, bnd_s]
  rw [if_pos (show (0 : Int32) ≤ nI (30 - _) from nI_le (a := 0) (Nat.zero_le _) (by omega))]
  refine lp_go (fuel := 8192) (ev := fun k (X : Int32 → Int32 → Option (Int32 × mM)) => X (nI (qc (fun i => decide (tL v o D n m j (dd j) i = x)) k)) (nI k)) 30 (by omega) (fun k hk self => ?_) (fun self => ?_)
  · show L_X7_inLine_17 x w' self (nI (qc (fun i => decide (tL v o D n m j (dd j) i = x)) k)) (nI k) = self (nI (qc (fun i => decide (tL v o D n m j (dd j) i = x)) (k + 1))) (nI (k + 1))
    simp (disch := omega) only [L_X7_inLine_17, qi_inb, qi_ix, ck_t, qc_s, nI_1, h3 k hk]
    rw [if_neg (show ¬ (30 : Int32) ≤ nI k from nI_ge (b := 30) hk (by omega))]
    by_cases h : tL v o D n m j (dd j) k = x
    · simp only [h, if_true, decide_true, nI_1]
    · simp only [h, if_false, decide_false, Bool.false_eq_true, Nat.add_zero]
      rw [qi_add0]
  · show L_X7_inLine_17 x w' self _ (nI 30) = _
    simp only [L_X7_inLine_17]
    rw [if_pos (by decide)]
/-- the feast to come next -/
def nx (dd : Nat → Nat) (d : Nat) : Nat → Nat
  | 0 => 99
  | k + 1 => if d < dd k ∧ (nx dd d k = 99 ∨ dd k < dd (nx dd d k)) then k else nx dd d k
theorem nx_spec (dd : Nat → Nat) (d : Nat) : ∀ k, k ≤ 20 → (nx dd d k = 99 ∧ ∀ i, i < k → dd i ≤ d) ∨ (nx dd d k < k ∧ d < dd (nx dd d k) ∧ ∀ i, i < k → d < dd i → dd (nx dd d k) ≤ dd i)
  | 0, _ => Or.inl ⟨rfl, fun i h => absurd h (Nat.not_lt_zero i)⟩
  | k + 1, hk => by
    have ih := nx_spec dd d k (by omega)
    show (nx dd d (k + 1) = 99 ∧ _) ∨ _
    have e : nx dd d (k + 1) = if d < dd k ∧ (nx dd d k = 99 ∨ dd k < dd (nx dd d k)) then k else nx dd d k := rfl
    rw [e]
    by_cases h : d < dd k ∧ (nx dd d k = 99 ∨ dd k < dd (nx dd d k))
    · rw [if_pos h]
      refine Or.inr ⟨by omega, h.1, fun i hi hdi => ?_⟩
      by_cases q : i = k
      · rw [q]; exact Nat.le_refl _
      · rcases ih with ⟨a1, a2⟩ | ⟨a1, a2, a3⟩
        · have := a2 i (by omega); omega
        · have := a3 i (by omega) hdi
          rcases h.2 with b | b <;> omega
    · rw [if_neg h]
      rcases ih with ⟨a1, a2⟩ | ⟨a1, a2, a3⟩
      · refine Or.inl ⟨a1, fun i hi => ?_⟩
        by_cases q : i = k
        · subst q
          refine Classical.byContradiction fun q2 => h ⟨by omega, Or.inl a1⟩
        · exact a2 i (by omega)
      · refine Or.inr ⟨by omega, a2, fun i hi hdi => ?_⟩
        by_cases q : i = k
        · subst q
          refine Classical.byContradiction fun q2 => h ⟨hdi, Or.inr (by omega)⟩
        · exact a3 i (by omega) hdi
def nxI (x : Nat) : Int32 := if x = 99 then -1 else nI x
theorem s_next (R : RlE v o (w 1) D E n m f dd) {d : Nat} (hd : d < 1000000) : f_X1_nextAfter o (nI d) v = some (nxI (nx dd d f)) := by
  have hf := R.1.2.2.2
  have hf1 := R.2.1.2.2.2.2.2.2.1
  unfold f_X1_nextAfter
  refine lp_go (fuel := 8192) (ev := fun k (X : Int32 → Int32 → Option Int32) => X (nxI (nx dd d k)) (nI k)) f (by omega) (fun k hk self => ?_) (fun self => ?_)
  · show L_X1_nextAfter_4 o (nI d) v self (nxI (nx dd d k)) (nI k) = self (nxI (nx dd d (k + 1))) (nI (k + 1))
    obtain ⟨b1, b2, b3, b4⟩ := (R.2.2.2.2.1 k hk).1
    have e : nx dd d (k + 1) = if d < dd k ∧ (nx dd d k = 99 ∨ dd k < dd (nx dd d k)) then k else nx dd d k := rfl
    have ek : nxI k = nI k := if_neg (by omega)
    simp (disch := omega) only [L_X1_nextAfter_4, hf1, qi_nle, qi_inb, qi_ix, ck_t, b4, nI_1]
    rw [if_neg (by omega), e]
    by_cases h1 : dd k ≤ d
    · rw [if_pos h1, if_neg (by omega)]
    · rw [if_neg h1]
      rcases nx_spec dd d k (by omega) with ⟨a1, a2⟩ | ⟨a1, a2, a3⟩
      · rw [a1, if_pos (show nxI 99 = -1 from rfl), if_pos (show d < dd k ∧ (99 = 99 ∨ dd k < dd 99) from ⟨by omega, Or.inl rfl⟩), ek]
      · have en : nxI (nx dd d k) = nI (nx dd d k) := if_neg (by omega)
        obtain ⟨c1, c2, c3, c4⟩ := (R.2.2.2.2.1 (nx dd d k) (by omega)).1
        rw [en, if_neg (qi_nM (by omega))]
        simp (disch := omega) only [qi_inb, qi_ix, ck_t, c4, qi_nle]
        by_cases h2 : dd (nx dd d k) ≤ dd k
        · rw [if_pos h2, if_neg (by omega), en]
        · rw [if_neg h2, if_pos ⟨by omega, Or.inr (by omega)⟩, ek]
  · show L_X1_nextAfter_4 o (nI d) v self _ (nI f) = _
    simp (disch := omega) only [L_X1_nextAfter_4, hf1, qi_nle]
    rw [if_pos (Nat.le_refl f)]
theorem m_next (R : RlE v o (w 1) D E n m f dd) {d : Nat} (hd : d < 1000000) : f_X7_nextFeast (nI d) w = some (nxI (nx dd d f)) := by
  have hf := R.1.2.2.2
  have hf1 := R.2.1.2.2.2.2.2.2.2
  unfold f_X7_nextFeast
  refine lp_go (fuel := 8192) (ev := fun k (X : Int32 → Int32 → Option Int32) => X (nxI (nx dd d k)) (nI k)) f (by omega) (fun k hk self => ?_) (fun self => ?_)
  · show L_X7_nextFeast_4 (nI d) w self (nxI (nx dd d k)) (nI k) = self (nxI (nx dd d (k + 1))) (nI (k + 1))
    obtain ⟨b1, b2, b3, b4⟩ := (R.2.2.2.2.1 k hk).1
    have e : nx dd d (k + 1) = if d < dd k ∧ (nx dd d k = 99 ∨ dd k < dd (nx dd d k)) then k else nx dd d k := rfl
    have ek : nxI k = nI k := if_neg (by omega)
    have n10 : ¬ (1 : Int32) = 0 := by decide
    simp (disch := omega) only [L_X7_nextFeast_4, inb_3, ix_3, ck_t, hf1, qi_nle, jn_e, m_dayAt (show k < 20 by omega), bnd_s, b3, nI_1, n10, if_true, if_false]
    rw [if_neg (by omega), e]
    by_cases h1 : dd k ≤ d
    · rw [if_pos h1, if_neg (by omega)]
    · rw [if_neg h1]
      rcases nx_spec dd d k (by omega) with ⟨a1, a2⟩ | ⟨a1, a2, a3⟩
      · rw [a1, if_pos (show nxI 99 = -1 from rfl), if_pos (show d < dd k ∧ (99 = 99 ∨ dd k < dd 99) from ⟨by omega, Or.inl rfl⟩), ek]
      · have en : nxI (nx dd d k) = nI (nx dd d k) := if_neg (by omega)
        obtain ⟨c1, c2, c3, c4⟩ := (R.2.2.2.2.1 (nx dd d k) (by omega)).1
        rw [en, if_neg (qi_nM (by omega))]
        simp (disch := omega) only [m_dayAt (show nx dd d k < 20 by omega), bnd_s, c3, qi_nle]
        by_cases h2 : dd (nx dd d k) ≤ dd k
        · rw [if_pos h2, if_neg (by omega), en]
        · rw [if_neg h2, if_pos ⟨by omega, Or.inr (by omega)⟩, ek]
  · show L_X7_nextFeast_4 (nI d) w self _ (nI f) = _
    simp (disch := omega) only [L_X7_nextFeast_4, inb_3, ix_3, ck_t, hf1, qi_nle]
    rw [if_pos (Nat.le_refl f)]
end Tell
