/-! CALLS: the rest, but for the letter's orders -/
section Rest
variable {v : mC} {w : mM} {D n m f : Nat} {dd : Nat → Nat}
theorem op_ageOf (h : IV v w) (x1 : Int32) : Op c1 (f_X6_ageOf x1 v) (f_X7_ageOf x1 w) := by
  obtain ⟨D, n, m, f, dd, R⟩ := h.1
  have hn := R.1.2.1
  have hD := R.1.1
  have R1 := th_R R 0
  refine op_one (n := n) h (fun p => ⟨reqS_f R p _, ?_⟩) (fun s hs e => ?_)
  · unfold f_X7_ageOf
    rw [lt_e, m_isSinger R1.2.1.2.2.2.1 hn, bnd_s, b2_if, if_neg p, m_ref]
    rfl
  · have p : isI x1 n := by rw [e]; exact isI_n hs (by omega)
    obtain ⟨y, B, y1, y2, hB, a1, a2, a3⟩ := (R1.2.2.1 s hs).2.1
    have w1 : f_X7_its (nI s) 1 (up w 0 12 0) = some (nI y) := (m_its (j := 1) (by omega) (by omega) _).trans (by rw [a1])
    have w2 : f_X7_its (nI s) 2 (up w 0 12 0) = some (nI B) := (m_its (j := 2) (by omega) (by omega) _).trans (by rw [a2])
    have e1 : nI D - (nI B - nI (y * 360)) = nI (D + y * 360 - B) := by
      rw [← qi_sub (show B ≤ D + y * 360 by omega), ← qi_add]
      simp only [Int32.sub_eq_add_neg, Int32.neg_add, Int32.neg_neg]
      ac_rfl
    have hdv : (D + y * 360 - B) / 360 = y + (D - B) / 360 := by omega
    refine ⟨nI (y + (D - B) / 360), ?_, ?_⟩
    · unfold f_X6_ageOf
      rw [reqS_t R p, e, qi_inb (show s < 30 by omega) (by omega), ck_t, qi_ix (by omega), lt_e, R.2.1.1, a3, e1, show (360 : Int32) = nI 360 from rfl, pk_div (by omega) (by omega) (by omega), hdv]
    · unfold f_X7_ageOf
      rw [lt_e, m_isSinger R1.2.1.2.2.2.1 hn, bnd_s, b2_if, if_pos p, e, w1, bnd_s, inb_0, ck_t, w2, bnd_s, ix_0, R1.2.1.2.1, qi_sub hB, show (360 : Int32) = nI 360 from rfl, pk_div (by omega) (by omega) (by omega), lt_e, qi_add]
/-- whose voice breaks next -/
def nbk (v : mC) (D : Nat) : Nat → Nat
  | 0 => 99
  | k + 1 => if (¬ v (7, 0, 0) k ≤ nI D ∧ nI D ≤ v (10, 0, 0) k) ∧ (nbk v D k = 99 ∨ ¬ v (7, 0, 0) (nbk v D k) ≤ v (7, 0, 0) k) then k else nbk v D k
theorem nbk_s (v : mC) (D k : Nat) : nbk v D (k + 1) = if (¬ v (7, 0, 0) k ≤ nI D ∧ nI D ≤ v (10, 0, 0) k) ∧ (nbk v D k = 99 ∨ ¬ v (7, 0, 0) (nbk v D k) ≤ v (7, 0, 0) k) then k else nbk v D k := rfl
theorem nbk_lt (v : mC) (D : Nat) : ∀ k, nbk v D k = 99 ∨ nbk v D k < k
  | 0 => Or.inl rfl
  | k + 1 => by
    rw [nbk_s]
    split
    · exact Or.inr (by omega)
    · rcases nbk_lt v D k with h | h
      · exact Or.inl h
      · exact Or.inr (by omega)
theorem op_nextToBreak (h : IV v w) : OpV (f_X6_nextToBreak v) v (f_X7_nextToBreak w) := by
  obtain ⟨D, n, m, f, dd, R⟩ := h.1
  have hn := R.1.2.1
  have R1 := th_R R 0
  have hn1 := R.2.1.2.2.1
  have hm1 : up w 0 12 0 1 1 = nI n := R1.2.1.2.2.2.1
  have n10 : ¬ (1 : Int32) = 0 := by decide
  refine ⟨nxI (nbk v D n), up w 0 12 0, ?_, ?_, IV_th 0 h⟩
  · have key : f_X5_nextBreakingAfter 0 (nI D) v = some (nxI (nbk v D n)) := by
      unfold f_X5_nextBreakingAfter
      refine lp_go (fuel := 8192) (ev := fun k (X : Int32 → Int32 → Option Int32) => X (nxI (nbk v D k)) (nI k)) n (by omega) (fun k hk self => ?_) (fun self => ?_)
      · show L_X5_nextBreakingAfter_4 0 (nI D) v self (nxI (nbk v D k)) (nI k) = self (nxI (nbk v D (k + 1))) (nI (k + 1))
        have ek : nxI k = nI k := if_neg (by omega)
        simp (disch := omega) only [L_X5_nextBreakingAfter_4, hn1, qi_nle, jn_e, qi_inb, qi_ix, ck_t, s_hasLeft 0 (show k < 30 by omega), bnd_s, b2_if, nI_1, n10, if_true, if_false]
        rw [if_neg (by omega), nbk_s]
        by_cases p1 : v (7, 0, 0) k ≤ nI D
        · rw [if_pos p1, if_neg (fun z => z.1.1 p1)]
        · rw [if_neg p1]
          by_cases p2 : nI D ≤ v (10, 0, 0) k
          · rw [if_neg (fun z => z p2)]
            rcases nbk_lt v D k with q | q
            · rw [q, if_pos (show nxI 99 = -1 from rfl), if_pos (show (¬ v (7, 0, 0) k ≤ nI D ∧ nI D ≤ v (10, 0, 0) k) ∧ (99 = 99 ∨ _) from ⟨⟨p1, p2⟩, Or.inl rfl⟩), ek]
            · generalize nbk v D k = b at q
              have eb : nxI b = nI b := if_neg (by omega)
              rw [eb, if_neg (qi_nM (by omega))]
              simp (disch := omega) only [qi_inb, qi_ix, ck_t]
              by_cases p3 : v (7, 0, 0) b ≤ v (7, 0, 0) k
              · rw [if_pos p3, if_neg (by
                  rintro ⟨-, z | z⟩
                  · omega
                  · exact z p3), eb]
              · rw [if_neg p3, if_pos ⟨⟨p1, p2⟩, Or.inr p3⟩, ek]
          · rw [if_pos p2, if_neg (fun z => p2 z.1.2)]
      · show L_X5_nextBreakingAfter_4 0 (nI D) v self _ (nI n) = _
        simp (disch := omega) only [L_X5_nextBreakingAfter_4, hn1, qi_nle]
        rw [if_pos (Nat.le_refl n)]
    unfold f_X6_nextToBreak
    rw [R.2.1.1, key, bnd_s]
  · unfold f_X7_nextToBreak
    rw [lt_e]
    refine lp_go (fuel := 8192) (ev := fun k (X : Int32 → Int32 → Option (Int32 × mM)) => X (nxI (nbk v D k)) (nI k)) n (by omega) (fun k hk self => ?_) (fun self => ?_)
    · show L_X7_nextToBreak_9 (up w 0 12 0) self (nxI (nbk v D k)) (nI k) = self (nxI (nbk v D (k + 1))) (nI (k + 1))
      have ek : nxI k = nI k := if_neg (by omega)
      have i7 : f_X7_its (nI k) 7 (up w 0 12 0) = some (up w 0 12 0 1 (13 + 13 * k + 7)) := m_its (j := 7) (by omega) (by omega) _
      have i6 : ∀ s, s < n → f_X7_its (nI s) 6 (up w 0 12 0) = some (v (7, 0, 0) s) := fun s hs => (m_its (j := 6) (by omega) (by omega) _).trans (by rw [(R1.2.2.1 s hs).2.2.2.2.2.1.1])
      simp (disch := omega) only [L_X7_nextToBreak_9, inb_1, ix_1, inb_0, ix_0, hm1, qi_nle, ck_t, jn_e, i7, i6 k hk, R1.2.1.2.1, bnd_s, nI_1, n10, if_true, if_false]
      rw [if_neg (by omega), nbk_s, i2b _ _ (left_iff R1 hk).2]
      by_cases p2 : nI D ≤ v (10, 0, 0) k
      · rw [if_pos p2]
        by_cases p1 : v (7, 0, 0) k ≤ nI D
        · rw [if_pos p1, if_neg (fun z => z.1.1 p1)]
        · rw [if_neg p1]
          rcases nbk_lt v D k with q | q
          · rw [q, if_pos (show nxI 99 = -1 from rfl), if_pos (show (¬ v (7, 0, 0) k ≤ nI D ∧ nI D ≤ v (10, 0, 0) k) ∧ (99 = 99 ∨ _) from ⟨⟨p1, p2⟩, Or.inl rfl⟩), ek]
          · generalize nbk v D k = b at q
            have eb : nxI b = nI b := if_neg (by omega)
            rw [eb, if_neg (qi_nM (by omega)), i6 b (by omega), bnd_s]
            by_cases p3 : v (7, 0, 0) b ≤ v (7, 0, 0) k
            · rw [if_pos p3, if_neg (by
                rintro ⟨-, z | z⟩
                · omega
                · exact z p3), eb]
            · rw [if_neg p3, if_pos ⟨⟨p1, p2⟩, Or.inr p3⟩, ek]
      · rw [if_neg p2, if_neg (fun z => p2 z.1.2)]
    · show L_X7_nextToBreak_9 (up w 0 12 0) self _ (nI n) = _
      simp (disch := omega) only [L_X7_nextToBreak_9, inb_1, ix_1, hm1, qi_nle, ck_t]
      rw [if_pos (Nat.le_refl n)]
theorem op_whyNot (h : IV v w) (x1 x2 x3 : Int32) : Op c13 (f_X6_whyNot x1 x2 x3 v) (f_X7_whyNot x1 x2 x3 w) := by
  obtain ⟨D, n, m, f, dd, R⟩ := h.1
  have hn := R.1.2.1
  have hm := R.1.2.2.1
  have hf := R.1.2.2.2
  have hD := R.1.1
  have R1 := th_R R 0
  have mF := fun x => m_isFeast (n := f) (w := up w 0 12 0) R1.2.1.2.2.2.2.2.2.2 hf x
  have mS := fun x => m_isSinger (n := n) (w := up w 0 12 0) R1.2.1.2.2.2.1 hn x
  by_cases p : isI x1 f
  · by_cases p2 : isI x2 n
    · by_cases p3 : 0 ≤ x3 ∧ x3 ≤ 3
      · obtain ⟨j, hj, rfl⟩ := isI_of p
        obtain ⟨s, hs, rfl⟩ := isI_of p2
        obtain ⟨l, -, hl, rfl⟩ := rg_of (a := 0) (b := 3) p3 (by omega) (by omega)
        have hd := (R.2.2.2.2.1 j hj).1
        have hd1 := (R1.2.2.2.2.1 j hj).1
        by_cases q : nI D < nI (dd j)
        · have q2 : D < dd j := (qi_nlt (by omega) (by omega)).mp q
          have hw := m_why R1 hj hs (show l < 4 by omega) (by omega)
          refine op_ask (x := if hnd v 0 s m (nI (dd j)) = 0 then mis v 0 j s l (nI (dd j)) else hnd v 0 s m (nI (dd j))) h ?_ ?_ rfl
          · unfold f_X6_whyNot
            rw [jn_e, reqF_t R p, reqS_t R p2, reqL_t v p3, s_held 0 (by omega), bnd_s, b2_if, R.2.1.1, hd.2.2.2, if_neg (fun z => z q)]
            simp only [rf0]
            rw [qi_inb (show j < 20 by omega) (by omega), ck_t, qi_ix (by omega), hd.2.2.2, s_hind R.2.1.2.2.2.2.1 hm (by omega), bnd_s]
            by_cases z : hnd v 0 s m (nI (dd j)) = 0
            · rw [if_pos z, if_pos z, s_misfit (by omega) (by omega) (by omega), bnd_s, hd.2.2.2]
            · rw [if_neg z, if_neg z]
          · simp only [f_X7_whyNot, jn_e, lt_e, mF, mS, m_isLine, bnd_s, b2_if, if_pos p, if_pos p2, if_pos p3, m_held (show j < 20 by omega), R1.2.1.2.1, hd1.2.2.1, q, not_true_eq_false, if_false, hw]
        · refine rf_3 h ?_ ?_ rfl
          · unfold f_X6_whyNot
            rw [jn_e, reqF_t R p, reqS_t R p2, reqL_t v p3, s_held 0 (by omega), bnd_s, b2_if, R.2.1.1, hd.2.2.2, if_pos q]
            simp only [rf3]
          · simp only [f_X7_whyNot, jn_e, lt_e, mF, mS, m_isLine, bnd_s, b2_if, if_pos p, if_pos p2, if_pos p3, m_held (show j < 20 by omega), R1.2.1.2.1, hd1.2.2.1, q, not_false_eq_true, if_true, m_ref]
      · refine rf_1 h ?_ ?_ rfl
        · unfold f_X6_whyNot
          rw [jn_e, reqF_t R p, reqS_t R p2]
          exact reqL_f v p3 _
        · simp only [f_X7_whyNot, jn_e, lt_e, mF, mS, m_isLine, bnd_s, b2_if, m_ref, if_pos p, if_pos p2, if_neg p3]
    · refine rf_1 h ?_ ?_ rfl
      · unfold f_X6_whyNot
        rw [jn_e, reqF_t R p]
        exact reqS_f R p2 _
      · simp only [f_X7_whyNot, jn_e, lt_e, mF, mS, bnd_s, b2_if, m_ref, if_pos p, if_neg p2]
  · refine rf_1 h ?_ ?_ rfl
    · unfold f_X6_whyNot
      rw [jn_e]
      exact reqF_f R p _
    · simp only [f_X7_whyNot, jn_e, lt_e, mF, bnd_s, b2_if, m_ref, if_neg p]
theorem op_isExcused (h : IV v w) (x1 x2 : Int32) : Op c12 (f_X6_isExcused x1 x2 v) (f_X7_isExcused x1 x2 w) := by
  obtain ⟨D, n, m, f, dd, R⟩ := h.1
  have hn := R.1.2.1
  have hm := R.1.2.2.1
  have R1 := th_R R 0
  have mS := fun x => m_isSinger (n := n) (w := up w 0 12 0) R1.2.1.2.2.2.1 hn x
  have z0 : (0 : Int32) ≤ 0 := by decide
  by_cases p : isI x1 n
  · by_cases p2 : 0 ≤ x2 ∧ x2 ≤ 9999
    · have hno := m_notes (w := up w 0 12 0) R1.2.1.2.2.2.2.2.1 hm x1 x2 x2
      rw [hit_eq R1] at hno
      have hq := qc_le (hitC v 0 x1 x2 x2) m
      refine op_ask (x := b2 (0 < qc (hitC v 0 x1 x2 x2) m)) h ?_ ?_ rfl
      · unfold f_X6_isExcused
        rw [jn_e, reqS_t R p, s_within, bnd_s, b2_if, if_pos p2]
        simp only [rf0, s_cover R.2.1.2.2.2.2.1 hm, bnd_s, zb_b, ck_t]
      · simp only [f_X7_isExcused, lt_e, mS, m_in, bnd_s, b2_if, if_pos p, if_pos p2, hno, zb_0, zb_1, ck_t]
        by_cases q : 0 < qc (hitC v 0 x1 x2 x2) m
        · rw [if_neg (show ¬ nI (qc (hitC v 0 x1 x2 x2) m) ≤ 0 from nI_ge (a := 0) q (by omega)), b2_t q]
        · rw [if_pos (show nI (qc (hitC v 0 x1 x2 x2) m) ≤ 0 from nI_le (b := 0) (by omega) (by omega)), b2_f q]
    · refine op_ref (k := 2) (c := 2) (y := 0) h ?_ ?_ (by omega) (by omega) rfl (by omega)
      · unfold f_X6_isExcused
        rw [jn_e, reqS_t R p, s_within, bnd_s, b2_if, if_neg p2]
        simp only [rf2]
      · simp only [f_X7_isExcused, lt_e, mS, m_in, bnd_s, b2_if, if_pos p, if_neg p2, m_ref, z0, if_true, zb_0, ck_t]
        rfl
  · refine rf_1 h ?_ ?_ rfl
    · unfold f_X6_isExcused
      rw [jn_e]
      exact reqS_f R p _
    · simp only [f_X7_isExcused, lt_e, mS, bnd_s, b2_if, if_neg p, m_ref, z0, if_true, zb_0, ck_t]
theorem op_undo (h : IV v w) : Op c3 (f_X6_undo v) (f_X7_undo w) := by
  have h0 := h
  obtain ⟨h1, ⟨k, bk, a1, a2, a3, a4, a5, a6⟩, h3, h4⟩ := h
  have e02 : up w 0 12 0 0 2 = nI k := by rw [up_r, if_neg (by omega), a3]
  by_cases p : k = 0
  · subst p
    refine op_ref (k := 3) (c := 1) (y := 0) h0 ?_ ?_ (by omega) (by omega) rfl (by omega)
    · unfold f_X6_undo
      rw [jn_e, a2, if_pos (show nI 0 ≤ 0 by decide)]
      simp only [rf3]
    · simp only [f_X7_undo, lt_e, e02, m_ref, bnd_s]
      rw [if_pos (show nI 0 = 0 from rfl)]
      rfl
  · obtain ⟨D, n, m, f, dd, R⟩ := a6 (k - 1) (by omega)
    obtain ⟨b1, b2, b3⟩ := a4 (k - 1) (by omega)
    obtain ⟨u, hu⟩ : ∃ u, u = up v (0, 0, 0) 5 (nI (k - 1)) := ⟨_, rfl⟩
    have uo : ∀ z, z ≠ (0, 0, 0) → u z = v z := fun z hz => by rw [hu]; exact funext fun i => by rw [up_r, if_neg (fun q => hz q.1)]
    have u5 : u (0, 0, 0) 5 = nI (k - 1) := by rw [hu, up_r, if_pos ⟨rfl, rfl⟩]
    have ui : ∀ i, i ≠ 5 → u (0, 0, 0) i = v (0, 0, 0) i := fun i hi => by rw [hu, up_r, if_neg (fun q => hi q.2)]
    have Ru : Rl u (bk (k - 1)) (fun t => w 2 (1483 * (k - 1) + t)) D n m f dd := Rl_x (Ag_eq fun k j i c1 c2 => by rw [uo _ (kn (by omega) _ _ _ _)]) (fun _ _ => rfl) R
    obtain ⟨v1, s1, s2, s3⟩ := s_copy (v := u) (o := 0) (o1 := bk (k - 1)) (n := n) (m := m) (f := f) (by omega) Ru.2.1.2.2.1 Ru.2.1.2.2.2.2.1 Ru.2.1.2.2.2.2.2.2.1 Ru.1.2.1 Ru.1.2.2.1 Ru.1.2.2.2
    have e0 : v1 (0, 0, 0) = u (0, 0, 0) := s3 _ (Or.inl rfl)
    obtain ⟨x, hx⟩ : ∃ x, x = up (up w 0 12 0) 0 2 (nI (k - 1)) := ⟨_, rfl⟩
    have xo : ∀ z, z ≠ 0 → x z = w z := fun z hz => by rw [hx]; exact funext fun i => by rw [up_r, if_neg (fun q => hz q.1), up_r, if_neg (fun q => hz q.1)]
    have x2 : x 0 2 = nI (k - 1) := by rw [hx, up_r, if_pos ⟨rfl, rfl⟩]
    have xi : ∀ i, i ≠ 2 → i ≠ 12 → x 0 i = w 0 i := fun i c1 c2 => by rw [hx, up_r, if_neg (fun q => c1 q.2), up_r, if_neg (fun q => c2 q.2)]
    have x12 : x 0 12 = 0 := by rw [hx, up_r, if_neg (by omega), up_r, if_pos ⟨rfl, rfl⟩]
    have hl := m_lays (n0 := 5932) (n1 := 1483) (k0 := 2) (k2 := 1) (x1 := 1483 * (k - 1)) (x3 := 0) (by omega) (by omega) (by omega) (by omega) (by omega) x
    generalize hw1 : (fun z i => if z = 1 ∧ 0 ≤ i ∧ i < 0 + 1483 then x 2 (1483 * (k - 1) + (i - 0)) else x z i) = w1 at hl
    have c1' : ∀ i, i < 1483 → w1 1 i = w 2 (1483 * (k - 1) + i) := fun i hi => by
      rw [← hw1]
      show (if 1 = 1 ∧ 0 ≤ i ∧ i < 0 + 1483 then x 2 (1483 * (k - 1) + (i - 0)) else _) = _
      rw [if_pos ⟨rfl, by omega, by omega⟩, xo 2 (by omega), Nat.sub_zero]
    have co : ∀ z, z ≠ 1 → w1 z = x z := fun z hz => by
      rw [← hw1]
      exact funext fun i => if_neg (fun q => hz q.1)
    have hvo : ∀ z : kC, z ≠ (0, 0, 0) → (z.1 = 0 ∨ 30 < z.1 ∨ z.2.1 ≠ 0) → v1 z = v z := fun z z0 hz => (s3 z hz).trans (uo z z0)
    have hb : ∀ o, o ≠ 0 → ∀ k j i, 1 ≤ k → k ≤ 30 → v1 (k, o, j) i = v (k, o, j) i := fun o ho k j i a b => by rw [hvo (k, o, j) (kn (by omega) _ _ _ _) (Or.inr (Or.inr ho))]
    refine op_ok (x := nI (k - 1)) (v' := v1) (w' := w1) ?_ ?_ rfl (by rw [co 0 (by omega), x12]) ⟨⟨D, n, m, f, dd, Rl_x s2 c1' Ru⟩, ⟨k - 1, bk, by omega, by rw [e0, u5], by rw [co 0 (by omega), x2], fun i hi => ?_, a5, fun i hi => ?_⟩, IVs_x (by rw [e0, ui 3 (by omega)]) (hb 2 (by omega)) (by rw [co 0 (by omega), xi 4 (by omega) (by omega)]) (by rw [co 3 (by omega), xo 3 (by omega)]) h3, IVl_x (by rw [hvo (32, 0, 0) (by decide) (Or.inr (Or.inl (by show 30 < 32; omega)))]) (hvo (33, 0, 0) (by decide) (Or.inr (Or.inl (by show 30 < 33; omega)))) (by rw [co 0 (by omega), xi 11 (by omega) (by omega)]) (by rw [co 9 (by omega), xo 9 (by omega)]) h4⟩
    · unfold f_X6_undo
      rw [jn_e, a2, if_neg (show ¬ nI k ≤ 0 from nI_ge (a := 0) (by omega) (by omega))]
      simp only [rf0, a2]
      rw [show nI k - 1 = nI (k - 1) from qi_sub (b := 1) (by omega), lt_e, ← hu, u5, qi_inb (show k - 1 < 4 by omega) (by omega), ck_t, qi_ix (by omega), uo (31, 0, 0) (by decide), b1, qi_ix (by omega), decide_eq_true (show bk (k - 1) < 7 by omega), ck_t, s1, bnd_s, e0, u5]
    · simp only [f_X7_undo, lt_e, e02]
      rw [if_neg (show ¬ nI k = 0 from fun q => p ((qi_n0 k (by omega)).mp q)), show nI k - 1 = nI (k - 1) from qi_sub (b := 1) (by omega), ← hx, x2, show (1483 : Int32) = nI 1483 from rfl, qi_mul]
      show (f_X7_lays 5932 1483 2 1 (nI (1483 * (k - 1))) (nI 0) x).bind _ = _
      rw [hl, bnd_s, co 0 (by omega), x2]
    · rw [hvo (31, 0, 0) (by decide) (Or.inr (Or.inl (by show 30 < 31; omega)))]
      exact a4 i hi
    · have := a4 i (by omega)
      refine BR_x (hb (bk i) (by omega)) (fun t ht => ?_) rfl (a6 i (by omega))
      show w1 2 _ = w 2 _
      rw [co 2 (by omega), xo 2 (by omega)]
theorem op_clearLetter (h : IV v w) : OpN (f_X6_clearLetter v) (f_X7_clearLetter w) := by
  obtain ⟨h1, ⟨k, bk, h2⟩, h3, len, l1, l2, l3, l4⟩ := h
  have hv : ∀ z, z ≠ (32, 0, 0) → up v (32, 0, 0) 1 0 z = v z := fun z hz => funext fun i => by rw [up_r, if_neg (fun q => hz q.1)]
  have hw : ∀ z, z ≠ 0 → up (up w 0 12 0) 0 11 0 z = w z := fun z hz => funext fun i => by rw [up_r, if_neg (fun q => hz q.1), up_r, if_neg (fun q => hz q.1)]
  have hw0 : ∀ i, i ≠ 11 → i ≠ 12 → up (up w 0 12 0) 0 11 0 0 i = w 0 i := fun i a b => by rw [up_r, if_neg (fun q => a q.2), up_r, if_neg (fun q => b q.2)]
  have hb : ∀ o k j i, 1 ≤ k → k ≤ 30 → up v (32, 0, 0) 1 0 (k, o, j) i = v (k, o, j) i := fun o k j i a b => by rw [hv _ (kn (by omega) _ _ _ _)]
  refine ⟨nI len, up v (32, 0, 0) 1 0, up (up w 0 12 0) 0 11 0, ?_, ?_, by rw [hw 1 (by omega)]; exact BR_x (hb 0) (fun _ _ => rfl) rfl h1, ⟨k, bk, IVr_x (by rw [hv _ (by decide)]) (hv _ (by decide)) (fun o _ _ => hb o) (hw0 2 (by omega) (by omega)) (hw 2 (by omega)) h2⟩, IVs_x (by rw [hv _ (by decide)]) (hb 2) (hw0 4 (by omega) (by omega)) (hw 3 (by omega)) h3, 0, by omega, by rw [up_r, if_pos ⟨rfl, rfl⟩]; rfl, by rw [up_r, if_pos ⟨rfl, rfl⟩]; rfl, fun i hi => absurd hi (Nat.not_lt_zero i)⟩
  · simp only [f_X6_clearLetter, f_X2_empty, lt_e, bnd_s, l2]
  · simp only [f_X7_clearLetter, lt_e]
    rw [up_r, if_neg (by omega), l3]
theorem op_type (h : IV v w) (x1 : Int32) (hx : vp_nar .char x1 = x1) (hc : ∃ c : Nat, c ≤ 65535 ∧ x1 = nI c) : Op c3 (f_X6_type x1 v) (f_X7_type x1 w) := by
  have h0 := h
  obtain ⟨h1, ⟨k, bk, h2⟩, h3, len, l1, l2, l3, l4⟩ := h
  have e11 : up w 0 12 0 0 11 = nI len := by rw [up_r, if_neg (by omega), l3]
  by_cases p : len = 80
  · refine op_ref (k := 3) (c := 1) (y := 0) h0 ?_ ?_ (by omega) (by omega) rfl (by omega)
    · simp only [f_X6_type, f_X2_isFull, jn_e, l2, p, zb_0, zb_1, ck_t]
      rw [if_neg (show ¬ nI 80 < 80 by decide), bnd_s, if_neg (show ¬ (1 : Int32) = 0 by decide)]
      simp only [rf3]
    · simp only [f_X7_type, lt_e, e11, p, m_ref, bnd_s]
      rw [if_pos (show nI 80 = 80 from rfl)]
      rfl
  · obtain ⟨u, hu⟩ : ∃ u, u = up (up v (33, 0, 0) len x1) (32, 0, 0) 1 (nI (len + 1)) := ⟨_, rfl⟩
    obtain ⟨x, hxx⟩ : ∃ x, x = up (up (up w 0 12 0) 9 len x1) 0 11 (nI (len + 1)) := ⟨_, rfl⟩
    have hv : ∀ z, z ≠ (32, 0, 0) → z ≠ (33, 0, 0) → u z = v z := fun z z1 z2 => by rw [hu]; exact funext fun i => by rw [up_r, if_neg (fun q => z1 q.1), up_r, if_neg (fun q => z2 q.1)]
    have hw : ∀ z, z ≠ 0 → z ≠ 9 → x z = w z := fun z z1 z2 => by rw [hxx]; exact funext fun i => by rw [up_r, if_neg (fun q => z1 q.1), up_r, if_neg (fun q => z2 q.1), up_r, if_neg (fun q => z1 q.1)]
    have hw0 : ∀ i, i ≠ 11 → i ≠ 12 → x 0 i = w 0 i := fun i a b => by rw [hxx, up_r, if_neg (fun q => a q.2), up_r, if_neg (by omega), up_r, if_neg (fun q => b q.2)]
    have hb : ∀ o k j i, 1 ≤ k → k ≤ 30 → u (k, o, j) i = v (k, o, j) i := fun o k j i a b => by rw [hv _ (kn (by omega) _ _ _ _) (kn (by omega) _ _ _ _)]
    have u32 : u (32, 0, 0) 1 = nI (len + 1) := by rw [hu, up_r, if_pos ⟨rfl, rfl⟩]
    have x11 : x 0 11 = nI (len + 1) := by rw [hxx, up_r, if_pos ⟨rfl, rfl⟩]
    refine op_ok (x := nI (len + 1)) (v' := u) (w' := x) ?_ ?_ rfl (by rw [hxx, up_r, if_neg (by omega), up_r, if_neg (by omega), up_r, if_pos ⟨rfl, rfl⟩]) ⟨by rw [hw 1 (by omega) (by omega)]; exact BR_x (hb 0) (fun _ _ => rfl) rfl h1, ⟨k, bk, IVr_x (by rw [hv _ (by decide) (by decide)]) (hv _ (by decide) (by decide)) (fun o _ _ => hb o) (hw0 2 (by omega) (by omega)) (hw 2 (by omega) (by omega)) h2⟩, IVs_x (by rw [hv _ (by decide) (by decide)]) (hb 2) (hw0 4 (by omega) (by omega)) (hw 3 (by omega) (by omega)) h3, len + 1, by omega, u32, x11, fun i hi => ?_⟩
    · have e1 : up v (33, 0, 0) len x1 (32, 0, 0) 1 = nI len := by rw [up_r, if_neg (fun q => absurd q.1 (by decide)), l2]
      simp (disch := omega) only [f_X6_type, f_X2_isFull, f_X2_append, jn_e, l2, zb_0, zb_1, ck_t, hx, qi_inb, qi_ix, lt_e, e1, nI_1, ← hu, u32]
      rw [if_pos (show nI len < 80 from nI_lt (b := 80) (by omega) (by omega)), bnd_s, if_pos (show (0 : Int32) = 0 from rfl)]
      simp (disch := omega) only [rf0, l2, qi_inb, qi_ix, ck_t, e1, nI_1, ← hu, u32, bnd_s]
    · have e1 : up (up w 0 12 0) 9 len x1 0 11 = nI len := by rw [up_r, if_neg (by omega), e11]
      simp (disch := omega) only [f_X7_type, lt_e, e11, qi_inb, qi_ix, ck_t, e1, nI_1, ← hxx, x11]
      rw [if_neg (show ¬ nI len = 80 from fun q => p ((qi_neq (b := 80) (by omega) (by omega)).mp q))]
    · have a33 : u (33, 0, 0) i = if i = len then x1 else v (33, 0, 0) i := by
        rw [hu, up_r, if_neg (fun q => absurd q.1 (by decide)), up_r]
        by_cases q : i = len
        · rw [if_pos ⟨rfl, q⟩, if_pos q]
        · rw [if_neg (fun e => q e.2), if_neg q]
      have a9 : x 9 i = if i = len then x1 else w 9 i := by
        rw [hxx, up_r, if_neg (fun q => absurd q.1 (by decide)), up_r]
        by_cases q : i = len
        · rw [if_pos ⟨rfl, q⟩, if_pos q]
        · rw [if_neg (fun e => q e.2), if_neg q, up_r, if_neg (fun q => absurd q.1 (by decide))]
      rw [a33, a9]
      by_cases q : i = len
      · rw [if_pos q, if_pos q]
        exact ⟨rfl, hc⟩
      · rw [if_neg q, if_neg q]
        exact l4 i (by omega)
end Rest
