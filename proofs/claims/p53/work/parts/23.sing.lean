/-! WHO CAN SING WHAT: on both sides -/
abbrev pHit (s d1 d2 : Int32) (x y z : Int32) : Prop := x = s ∧ ¬ d2 < y ∧ ¬ z < d1
def hitC (v : mC) (o : Nat) (x d1 d2 : Int32) (k : Nat) : Bool := decide (pHit x d1 d2 (v (15, o, 0) k) (v (16, o, 0) k) (v (17, o, 0) k))
def hitM (a : Nat → Int32) (x d1 d2 : Int32) (k : Nat) : Bool := decide (pHit x d1 d2 (a (403 + 3 * k)) (a (404 + 3 * k)) (a (405 + 3 * k)))
theorem s_cover {m o : Nat} {v : mC} (h : v (14, o, 0) 0 = nI m) (hm : m ≤ 60) (x d1 d2 : Int32) : f_X4_coverAnyOf o x d1 d2 v = some (b2 (0 < qc (hitC v o x d1 d2) m)) := by
  have hq := qf_le (hitC v o x d1 d2) m
  unfold f_X4_coverAnyOf
  refine lp_go (fuel := 8192) (ev := fun k (X : Int32 → Option Int32) => X (nI k)) (qf (hitC v o x d1 d2) m) (by omega) (fun k hk self => ?_) (fun self => ?_)
  · show L_X4_coverAnyOf_3 o x d1 d2 v self (nI k) = self (nI (k + 1))
    have hp := of_decide_eq_false (qf_no (hitC v o x d1 d2) m k hk)
    simp (disch := omega) only [L_X4_coverAnyOf_3, h, qi_nle, qi_inb, qi_ix, ck_t, nI_1]
    rw [if_neg (by omega)]
    by_cases h1 : v (15, o, 0) k = x
    · by_cases h2 : d2 < v (16, o, 0) k
      · simp only [h1, h2, if_true]
      · by_cases h3 : v (17, o, 0) k < d1
        · simp only [h1, h2, h3, if_true, if_false]
        · exact absurd ⟨h1, h2, h3⟩ hp
    · rw [if_neg h1]
  · show L_X4_coverAnyOf_3 o x d1 d2 v self (nI (qf (hitC v o x d1 d2) m)) = _
    generalize hQ : qf (hitC v o x d1 d2) m = q at hq
    simp (disch := omega) only [L_X4_coverAnyOf_3, h, qi_nle, qi_inb, qi_ix, ck_t, zb_0, zb_1]
    by_cases e : m ≤ q
    · rw [if_pos e, b2_f (by rw [← qf_c, hQ]; omega)]
    · have hy := of_decide_eq_true (qf_yes (hitC v o x d1 d2) m (by omega))
      rw [hQ] at hy
      obtain ⟨h1, h2, h3⟩ := hy
      rw [if_neg e, if_pos h1, if_neg h2, if_neg h3, b2_t (by rw [← qf_c, hQ]; omega)]
      simp (disch := omega) only [qi_inb, ck_t]
theorem m_notes {m : Nat} {w : mM} (h : w 1 2 = nI m) (hm : m ≤ 60) (x d1 d2 : Int32) : f_X7_notes x d1 d2 w = some (nI (qc (hitM (w 1) x d1 d2) m)) := by
  unfold f_X7_notes
  refine lp_go (fuel := 8192) (ev := fun k (X : Int32 → Int32 → Option Int32) => X (nI (qc (hitM (w 1) x d1 d2) k)) (nI k)) m (by omega) (fun k hk self => ?_) (fun self => ?_)
  · show L_X7_notes_6 x d1 d2 w self (nI (qc (hitM (w 1) x d1 d2) k)) (nI k) = self (nI (qc (hitM (w 1) x d1 d2) (k + 1))) (nI (k + 1))
    have e1 : 403 + 3 * k + 1 = 404 + 3 * k := by omega
    have e2 : 403 + 3 * k + 2 = 405 + 3 * k := by omega
    simp (disch := omega) only [L_X7_notes_6, lt_e, qi_lit, qi_mul, qi_add, qi_inb, qi_ix, ck_t, h, qi_nle, e1, e2, qc_s, hitM]
    rw [if_neg (by omega)]
    by_cases h1 : w 1 (403 + 3 * k) = x
    · by_cases h2 : d2 < w 1 (404 + 3 * k)
      · simp [h1, h2]
      · by_cases h3 : w 1 (405 + 3 * k) < d1
        · simp [h1, h2, h3]
        · simp [h1, h2, h3]
    · simp [h1]
  · show L_X7_notes_6 x d1 d2 w self _ (nI m) = _
    simp (disch := omega) only [L_X7_notes_6, qi_lit, qi_inb, qi_ix, ck_t, h, qi_nle]
    rw [if_pos (Nat.le_refl m)]
theorem hit_eq {v : mC} {o : Nat} {a : Nat → Int32} {D E n m f : Nat} {dd : Nat → Nat} (R : RlE v o a D E n m f dd) (x d1 d2 : Int32) : qc (hitM a x d1 d2) m = qc (hitC v o x d1 d2) m := by
  refine qc_cong fun k hk => ?_
  obtain ⟨h1, ⟨p, -, h2, h3⟩, ⟨q, -, h4, h5⟩⟩ := R.2.2.2.1 k hk
  unfold hitM hitC
  rw [h1, h2, h3, h4, h5]
abbrev pBrk (b d : Int32) : Prop := ¬ b = -1 ∧ ¬ d < b ∧ ¬ b + 90 ≤ d
/-- why a singer can sing nothing on a day; why not a line -/
def hnd (v : mC) (o s m : Nat) (d : Int32) : Int32 := if ¬ d ≤ v (10, o, 0) s then 1 else if ¬ v (11, o, 0) s < d then 2 else if 0 < qc (hitC v o (nI s) d d) m then 3 else if pBrk (v (7, o, 0) s) d then 4 else 0
def mis (v : mC) (o j s l : Nat) (d : Int32) : Int32 := if nlow (v (7, o, 0) s) d (v (4, o, 0) s) ≤ v (27, o, j) l then (if v (28, o, j) l ≤ nlow (v (7, o, 0) s) d (v (5, o, 0) s) then 0 else 6) else 5
theorem s_hind {m o s : Nat} {v : mC} (h : v (14, o, 0) 0 = nI m) (hm : m ≤ 60) (hs : s < 30) (d : Int32) : f_X0_hindrance o (nI s) d v = some (hnd v o s m d) := by
  simp only [f_X0_hindrance, s_hasLeft o hs, s_isAway o hs, s_cover h hm, s_breaking o hs, bnd_s, b2_if]
  unfold hnd
  by_cases p1 : ¬ d ≤ v (10, o, 0) s
  · simp only [p1, if_true, not_false_eq_true]
  · by_cases p2 : ¬ v (11, o, 0) s < d
    · simp only [p1, p2, if_true, if_false, not_false_eq_true]
    · by_cases p3 : 0 < qc (hitC v o (nI s) d d) m
      · simp only [p1, p2, p3, if_true, if_false]
      · by_cases p4 : pBrk (v (7, o, 0) s) d
        · simp only [p1, p2, p3, if_false]
          rw [if_pos p4, if_pos p4]
        · simp only [p1, p2, p3, if_false]
          rw [if_neg p4, if_neg p4]
theorem s_misfit {o j s l : Nat} (hj : j < 20) (hs : s < 30) (hl : l < 4) (v : mC) : f_X0_misfit o (nI j) (nI s) (nI l) v = some (mis v o j s l (v (19, o, 0) j)) := by
  simp (disch := omega) only [f_X0_misfit, s_noteOn o hs, bnd_s, qi_inb, qi_ix, ck_t]
  unfold mis
  split
  · split <;> rfl
  · rfl
section Why
variable {v : mC} {o : Nat} {w : mM} {D E n m f : Nat} {dd : Nat → Nat}
theorem m_will (R : RlE v o (w 1) D E n m f dd) {s : Nat} (hs : s < n) {d : Nat} (hd : D ≤ d) (hd2 : d < 1000000) : f_X7_willHaveLeft (nI s) (nI d) w = some (b2 (¬ nI d ≤ v (10, o, 0) s)) := by
  have hn := R.1.2.1
  obtain ⟨r0, -, -, -, -, -, r7, -⟩ := R.2.2.1 s hs
  have w7 : f_X7_its (nI s) 7 w = some (w 1 (13 + 13 * s + 7)) := m_its (j := 7) (by omega) (by omega) w
  have w0 : f_X7_its (nI s) 0 w = some (w 1 (13 + 13 * s + 0)) := m_its (j := 0) (by omega) (by omega) w
  have w8 : f_X7_its (nI s) 8 w = some (w 1 (13 + 13 * s + 8)) := m_its (j := 8) (by omega) (by omega) w
  simp only [f_X7_willHaveLeft, w7, w0, w8, bnd_s, ck_t, zb_0, zb_1]
  rcases r7 with ⟨e, h⟩ | ⟨e, h, h2⟩
  · rw [e, if_pos (show nI 1 = 1 from rfl), b2_t (by rw [qi_le, qi_I (by omega)]; omega)]
  · rw [e, if_neg (show ¬ nI 0 = 1 by decide), r0]
    rcases h2 with ⟨g1, g2⟩ | ⟨g1, g2⟩
    · rw [if_pos g1, g2, b2_f (by rw [qi_nle (by omega) (by omega)]; omega)]
    · rw [if_neg g1, g2]
      by_cases q : nI d ≤ v (10, o, 0) s
      · rw [if_pos q, b2_f (by simpa using q)]
      · rw [if_neg q, b2_t q]
theorem m_brk (R : RlE v o (w 1) D E n m f dd) {s : Nat} (hs : s < n) {d : Nat} (hd2 : d < 1000000) : f_X7_isBreaking (nI s) (nI d) w = some (b2 (pBrk (v (7, o, 0) s) (nI d))) := by
  have hn := R.1.2.1
  obtain ⟨-, -, -, -, -, ⟨r6, r6b⟩, -⟩ := R.2.2.1 s hs
  have w6 : f_X7_its (nI s) 6 w = some (w 1 (13 + 13 * s + 6)) := m_its (j := 6) (by omega) (by omega) w
  simp only [f_X7_isBreaking, w6, bnd_s, ck_t, zb_0, zb_1, m_in, b2_if]
  rw [r6]
  rcases r6b with e | ⟨b, hb, e⟩
  · rw [if_pos e, b2_f (fun q => q.1 e)]
  · rw [e, if_neg (qi_nM (by omega)), qi_lit 89, qi_add]
    by_cases q : nI b ≤ nI d ∧ nI d ≤ nI (b + 89)
    · rw [if_pos q, b2_t]
      · rw [qi_nle (by omega) (by omega), qi_nle (by omega) (by omega)] at q
        refine ⟨qi_nM (by omega), by rw [qi_nlt (by omega) (by omega)]; omega, ?_⟩
        rw [show (90 : Int32) = nI 90 from rfl, qi_add, qi_nle (by omega) (by omega)]
        omega
    · rw [if_neg q, b2_f]
      · intro ⟨q1, q2, q3⟩
        rw [qi_nlt (by omega) (by omega)] at q2
        rw [show (90 : Int32) = nI 90 from rfl, qi_add, qi_nle (by omega) (by omega)] at q3
        apply q
        rw [qi_nle (by omega) (by omega), qi_nle (by omega) (by omega)]
        omega
theorem m_note {s i t d : Nat} (hs : s < 30) (hi : i < 13) (hd : d < 1000000) (ht : t ≤ 48) (b : Int32) (hb : b = -1 ∨ ∃ q : Nat, q ≤ 13599 ∧ b = nI q) (h1 : w 1 (13 + 13 * s + i) = nI t) (h2 : w 1 (13 + 13 * s + 6) = b) : f_X7_note (nI s) (nI i) (nI d) w = some (nlow b (nI d) (nI t)) := by
  have w6 : f_X7_its (nI s) 6 w = some (w 1 (13 + 13 * s + 6)) := m_its (j := 6) (by omega) (by omega) w
  simp only [f_X7_note, f_X7_lower, w6, m_its (w := w) hs hi, bnd_s, h1, h2]
  unfold nlow
  rcases hb with e | ⟨q, hq, e⟩
  · rw [if_pos e, if_pos e]
    simp only [bnd_s]
    rw [qi_lit 0, qi_sub (by omega), if_pos (nI_le (by omega) (by omega)), Nat.sub_zero]
  · rw [e, if_neg (qi_nM (by omega)), if_neg (qi_nM (by omega)), qi_lit 89, qi_lit 90, qi_add, qi_add, qi_lit 12, qi_lit 0]
    by_cases p : d ≤ q + 89
    · rw [if_pos (by rw [qi_nle (by omega) (by omega)]; omega), if_neg (by rw [qi_nle (by omega) (by omega)]; omega)]
      simp only [bnd_s]
      rw [qi_sub (by omega), if_pos (nI_le (by omega) (by omega)), Nat.sub_zero]
    · rw [if_neg (by rw [qi_nle (by omega) (by omega)]; omega), if_pos (by rw [qi_nle (by omega) (by omega)]; omega)]
      simp only [bnd_s]
      by_cases p2 : 12 ≤ t
      · rw [qi_sub p2, if_pos (by rw [qi_nle (by omega) (by omega)]; omega), if_pos (by rw [qi_nle (by omega) (by omega)]; omega)]
      · rw [if_neg, if_neg (by rw [qi_nle (by omega) (by omega)]; omega)]
        rw [qi_le, qi_I (by omega), pk_sub_toInt (by omega) (by omega)]
        omega
theorem m_why (R : RlE v o (w 1) D E n m f dd) {j s l : Nat} (hj : j < f) (hs : s < n) (hl : l < 4) (hd : D ≤ dd j) : f_X7_why (nI j) (nI s) (nI l) w = some (if hnd v o s m (nI (dd j)) = 0 then mis v o j s l (nI (dd j)) else hnd v o s m (nI (dd j))) := by
  obtain ⟨⟨-, hn, hm, hf⟩, ⟨-, -, -, -, -, hm2, -, -⟩, -⟩ := id R
  obtain ⟨r0, -, -, ⟨lo, hlo, r4, r4'⟩, ⟨hi, hhi, r5, r5'⟩, ⟨r6, r6b⟩, -, -, r10, -⟩ := R.2.2.1 s hs
  obtain ⟨⟨d1, d2, d3, d4⟩, -, hL, -⟩ := R.2.2.2.2.1 j hj
  obtain ⟨-, l1, l2⟩ := hL l hl
  have e1 : 583 + 45 * j + 2 + 3 * l + 1 = 586 + 45 * j + 3 * l := by omega
  have e2 : 583 + 45 * j + 2 + 3 * l + 2 = 587 + 45 * j + 3 * l := by omega
  have w1 := m_will R hs hd (by omega)
  have w2 := m_brk R hs (d := dd j) (by omega)
  have w3 := m_notes hm2 hm (nI s) (nI (dd j)) (nI (dd j))
  rw [hit_eq R] at w3
  have w4 : f_X7_note (nI s) 4 (nI (dd j)) w = some _ := m_note (w := w) (s := s) (i := 4) (d := dd j) (by omega) (by omega) (by omega) hlo _ r6b r4 r6
  have w5 : f_X7_note (nI s) 5 (nI (dd j)) w = some _ := m_note (w := w) (s := s) (i := 5) (d := dd j) (by omega) (by omega) (by omega) hhi _ r6b r5 r6
  have w6 : f_X7_its (nI s) 10 w = some (w 1 (13 + 13 * s + 10)) := m_its (j := 10) (by omega) (by omega) w
  simp (disch := omega) only [f_X7_why, m_dayAt (show j < 20 by omega), bnd_s, lt_e, d3, w1, w6, w3, w2, b2_if, qi_lit 583, qi_lit 45, qi_lit 2, qi_lit 3, qi_lit 1, qi_mul, qi_add, e1, e2, qi_inb, qi_ix, ck_t, l1, l2, w4, w5, r10]
  have hms : mis v o j s l (nI (dd j)) = if nlow (v (7, o, 0) s) (nI (dd j)) (nI lo) ≤ v (27, o, j) l then (if v (28, o, j) l ≤ nlow (v (7, o, 0) s) (nI (dd j)) (nI hi) then 0 else 6) else 5 := by
    unfold mis
    rw [r4', r5']
  have hq := qc_le (hitC v o (nI s) (nI (dd j)) (nI (dd j))) m
  by_cases p1 : ¬ nI (dd j) ≤ v (10, o, 0) s
  · have e : hnd v o s m (nI (dd j)) = 1 := by unfold hnd; rw [if_pos p1]
    rw [e, if_pos p1, if_neg (show ¬ (1 : Int32) = 0 by decide)]
    rfl
  · rw [if_neg p1]
    by_cases p2 : v (11, o, 0) s < nI (dd j)
    · rw [if_pos p2]
      have p2' : ¬ ¬ v (11, o, 0) s < nI (dd j) := fun q => q p2
      by_cases p3 : 0 < qc (hitC v o (nI s) (nI (dd j)) (nI (dd j))) m
      · have e : hnd v o s m (nI (dd j)) = 3 := by unfold hnd; rw [if_neg p1, if_neg p2', if_pos p3]
        rw [e, if_neg (show ¬ nI (qc (hitC v o (nI s) (nI (dd j)) (nI (dd j))) m) ≤ 0 from nI_nle p3 (by omega)), if_neg (show ¬ (3 : Int32) = 0 by decide)]
        rfl
      · rw [if_pos (show nI (qc (hitC v o (nI s) (nI (dd j)) (nI (dd j))) m) ≤ 0 from nI_le (b := 0) (by omega) (by omega))]
        by_cases p4 : pBrk (v (7, o, 0) s) (nI (dd j))
        · have e : hnd v o s m (nI (dd j)) = 4 := by unfold hnd; rw [if_neg p1, if_neg p2', if_neg p3, if_pos p4]
          rw [e, if_pos p4, if_neg (show ¬ (4 : Int32) = 0 by decide)]
        · have e : hnd v o s m (nI (dd j)) = 0 := by unfold hnd; rw [if_neg p1, if_neg p2', if_neg p3, if_neg p4]
          rw [e, if_neg p4, if_pos rfl, hms]
          split
          · split <;> rfl
          · rfl
    · have e : hnd v o s m (nI (dd j)) = 2 := by unfold hnd; rw [if_neg p1, if_pos p2]
      rw [e, if_neg p2, if_neg (show ¬ (2 : Int32) = 0 by decide)]
      rfl
end Why
