/-! CALLS: borrow, lend, excuse, announce -/
section Ops2
variable {v : mC} {w : mM} {D n m f : Nat} {dd : Nat → Nat}
theorem op_borrow (h : IV v w) (x1 x2 x3 x4 x5 x6 : Int32) : Op c123 (f_X6_borrow x1 x2 x3 x4 x5 x6 v) (f_X7_borrow x1 x2 x3 x4 x5 x6 w) := by
  obtain ⟨D, n, m, f, dd, R⟩ := h.1
  have hn := R.1.2.1
  have e1 : up w 0 12 0 1 = w 1 := th_1 w 0 (by omega)
  have e11 : w 1 1 = nI n := R.2.1.2.2.2.1
  have n10 : ¬ (1 : Int32) = 0 := by decide
  unfold f_X6_borrow f_X7_borrow
  simp only [jn_e, lt_e, f_X0_refusalToHire, s_within, s_isHR, s_isFull R.2.1.2.2.1 hn, bnd_s, m_isChoir, m_in, m_isHigh, m_areNotes, b2_if, m_ref, inb_1, ix_1, ck_t, e1, e11, n10, if_true, if_false]
  by_cases p : 0 ≤ x1 ∧ x1 ≤ 4
  · rw [if_pos p, if_pos p]
    obtain ⟨c, -, hc, rfl⟩ := rg_of (a := 0) (b := 4) p (by omega) (by omega)
    have r2 : ∀ {F : Option (Int32 × Nat × mC)}, F = some (0, 2, v) → Op c123 F (some (0, up (up w 0 12 0) 0 12 2)) := fun hF => op_ref (k := 2) (c := 2) h hF rfl (by omega) (by omega) rfl (by omega)
    by_cases p2 : 0 ≤ x2 ∧ x2 ≤ 9
    · rw [if_pos p2, if_pos p2]
      by_cases p3 : pH x3
      · rw [if_pos p3]
        by_cases p4 : pN x4 x5
        · rw [if_pos p4]
          by_cases p6 : 1 ≤ x6 ∧ x6 ≤ 90
          · rw [if_pos p6, if_pos p6, if_pos (show pH x3 ∧ pN x4 x5 from ⟨p3, p4⟩)]
            have e8 : (8 : Int32) + nI c = nI (8 + c) := qi_add 8 c
            have ef : w 1 (8 + c) = v (30, 0, 0) c := R.2.2.2.2.2.2.2 c (by omega)
            by_cases p7 : n = 30
            · rw [if_pos p7, if_pos (by rw [p7]; rfl), bnd_s]
              exact op_ref (k := 3) (c := 3) h (rf3 _ _) rfl (by omega) (by omega) rfl (by omega)
            · rw [if_neg p7, if_neg (show ¬ nI n = 30 from fun q => p7 ((qi_neq (b := 30) (by omega) (by omega)).mp q))]
              simp (disch := omega) only [e8, qi_inb, qi_ix, ck_t, ef]
              have key : (-2 : Int32) ≤ v (30, 0, 0) c ↔ (-3 : Int32) < v (30, 0, 0) c := by
                rw [qi_le, qi_lt, show (-2 : Int32).toInt = -2 from rfl, show (-3 : Int32).toInt = -3 from rfl]
                omega
              rw [i2b _ _ key]
              by_cases p8 : (-3 : Int32) < v (30, 0, 0) c
              · rw [if_pos p8, if_pos p8, bnd_s, rf0]
                obtain ⟨v1, w1, k1, k2, k3, k4, k5⟩ := act_keep h R
                obtain ⟨v2, u1, u2, u3, a1, a2, a3, a4, a5, a6, a7⟩ := hire_eq k4 (by omega) (show c < 5 by omega) (x2 := x2) p3 p4 p6
                obtain ⟨i1, i2⟩ := act_end k3 k5 a6 a7 a5
                rw [k1, bnd_s, a1, bnd_s, k2, bnd_s, a2, bnd_s]
                simp only [a3, bnd_s, a4, inb_0, ix_0, ck_t]
                exact op_ok rfl rfl rfl i2 i1
              · rw [if_neg p8, if_neg p8, bnd_s]
                exact op_ref (k := 3) (c := 3) h (rf3 _ _) rfl (by omega) (by omega) rfl (by omega)
          · rw [if_neg p6, if_neg p6, bnd_s]
            exact r2 (rf2 _ _)
        · rw [if_neg p4]
          by_cases p6 : 1 ≤ x6 ∧ x6 ≤ 90
          · rw [if_pos p6, if_neg (show ¬ (pH x3 ∧ pN x4 x5) from fun q => p4 q.2), bnd_s]; exact r2 (rf2 _ _)
          · rw [if_neg p6, bnd_s]; exact r2 (rf2 _ _)
      · rw [if_neg p3]
        by_cases p6 : 1 ≤ x6 ∧ x6 ≤ 90
        · rw [if_pos p6, if_neg (show ¬ (pH x3 ∧ pN x4 x5) from fun q => p3 q.1), bnd_s]; exact r2 (rf2 _ _)
        · rw [if_neg p6, bnd_s]; exact r2 (rf2 _ _)
    · rw [if_neg p2, if_neg p2, bnd_s]
      exact r2 (rf2 _ _)
  · rw [if_neg p, if_neg p, bnd_s]
    exact op_ref (k := 1) (c := 1) h (rf1 _ _) rfl (by omega) (by omega) rfl (by omega)
theorem m_canLend {o : Nat} (R : Rl v o (w 1) D n m f dd) {s : Nat} (hs : s < n) : f_X7_canLend (nI s) w = some (b2 (nI D ≤ v (10, o, 0) s ∧ v (8, o, 0) s = -1 ∧ v (11, o, 0) s < nI D)) := by
  have hn := R.1.2.1
  obtain ⟨r0, -, -, -, -, -, -, -, r10, -⟩ := R.2.2.1 s hs
  have w7 : f_X7_its (nI s) 7 w = some (w 1 (13 + 13 * s + 7)) := m_its (j := 7) (by omega) (by omega) w
  have w0 : f_X7_its (nI s) 0 w = some (w 1 (13 + 13 * s + 0)) := m_its (j := 0) (by omega) (by omega) w
  have w10 : f_X7_its (nI s) 10 w = some (w 1 (13 + 13 * s + 10)) := m_its (j := 10) (by omega) (by omega) w
  simp only [f_X7_canLend, w7, w0, w10, bnd_s, inb_0, ix_0, ck_t, zb_0, zb_1, r0, r10, R.2.1.2.1]
  rw [i2b _ _ (left_iff R hs).2]
  by_cases p1 : nI D ≤ v (10, o, 0) s
  · rw [if_pos p1]
    by_cases p2 : v (8, o, 0) s = -1
    · rw [if_pos p2]
      by_cases p3 : nI D ≤ v (11, o, 0) s
      · rw [if_pos p3, b2_f (fun q => by
          have := q.2.2
          rw [qi_lt] at this
          rw [qi_le] at p3
          omega)]
      · rw [if_neg p3, b2_t ⟨p1, p2, by rw [qi_lt]; rw [qi_le] at p3; omega⟩]
    · rw [if_neg p2, b2_f (fun q => p2 q.2.1)]
  · rw [if_neg p1, b2_f (fun q => p1 q.1)]
/-- what a singer's being sent away is refused with -/
theorem s_refSend {o : Nat} (R : Rl v o (w 1) D n m f dd) (x1 x2 x3 : Int32) : f_X0_refusalToSendAway o x1 x2 x3 v = some (if isI x1 n then (if 0 ≤ x2 ∧ x2 ≤ 4 then (if 1 ≤ x3 ∧ x3 ≤ 90 then (if nI D ≤ v (10, o, 0) (ix x1) ∧ v (8, o, 0) (ix x1) = -1 ∧ v (11, o, 0) (ix x1) < nI D then 0 else 3) else 2) else 1) else 1) := by
  have hn := R.1.2.1
  have n10 : ¬ (1 : Int32) = 0 := by decide
  simp only [f_X0_refusalToSendAway, s_has R.2.1.2.2.1 hn, s_within, bnd_s, b2_if, jn_e, n10, if_true, if_false]
  by_cases p : isI x1 n
  · rw [if_pos p, if_pos p]
    obtain ⟨s, hs, rfl⟩ := isI_of p
    by_cases p2 : 0 ≤ x2 ∧ x2 ≤ 4
    · rw [if_pos p2, if_pos p2]
      by_cases p3 : 1 ≤ x3 ∧ x3 ≤ 90
      · rw [if_pos p3, if_pos p3, s_hasLeft o (by omega), s_isAway o (by omega), bnd_s, bnd_s, R.2.1.1, b2_if, b2_if]
        simp (disch := omega) only [qi_inb, qi_ix, ck_t]
        by_cases q1 : nI D ≤ v (10, o, 0) s
        · rw [if_neg (fun z => z q1)]
          by_cases q2 : v (11, o, 0) s < nI D
          · rw [if_neg (fun z => z q2)]
            by_cases q3 : v (8, o, 0) s = -1
            · rw [if_pos q3, if_pos ⟨q1, q3, q2⟩]
            · rw [if_neg q3, if_neg (fun z => q3 z.2.1)]
          · rw [if_pos q2, if_neg (fun z => q2 z.2.2)]
        · rw [if_pos q1, if_neg (fun z => q1 z.1)]
      · rw [if_neg p3, if_neg p3]
    · rw [if_neg p2, if_neg p2]
  · rw [if_neg p, if_neg p]
theorem op_lend (h : IV v w) (x1 x2 x3 : Int32) : Op c123 (f_X6_lend x1 x2 x3 v) (f_X7_lend x1 x2 x3 w) := by
  obtain ⟨D, n, m, f, dd, R⟩ := h.1
  have hn := R.1.2.1
  have R1 : Rl v 0 (up w 0 12 0 1) D n m f dd := by rw [th_1 w 0 (by omega)]; exact R
  unfold f_X6_lend f_X7_lend
  simp only [jn_e, lt_e, s_refSend R, bnd_s, m_isSinger R1.2.1.2.2.2.1 hn, m_isChoir, m_in, b2_if, m_ref]
  by_cases p : isI x1 n
  · rw [if_pos p, if_pos p]
    obtain ⟨s, hs, rfl⟩ := isI_of p
    rw [qi_ix (by omega)]
    by_cases p2 : 0 ≤ x2 ∧ x2 ≤ 4
    · rw [if_pos p2, if_pos p2]
      obtain ⟨c, -, hc, rfl⟩ := rg_of (a := 0) (b := 4) p2 (by omega) (by omega)
      by_cases p3 : 1 ≤ x3 ∧ x3 ≤ 90
      · rw [if_pos p3, if_pos p3, m_canLend R1 hs, bnd_s, b2_if]
        by_cases q : nI D ≤ v (10, 0, 0) s ∧ v (8, 0, 0) s = -1 ∧ v (11, 0, 0) s < nI D
        · rw [if_pos q, if_pos q, rf0]
          obtain ⟨v1, w1, k1, k2, k3, k4, k5⟩ := act_keep h R
          obtain ⟨x, v2, w2, a1, a2, -, a3, a4, a5⟩ := send_eq k4 hs (show c < 5 by omega) x3
          obtain ⟨i1, i2⟩ := act_end k3 k5 a4 a5 a3
          rw [k1, bnd_s, a1, bnd_s, k2, bnd_s, a2, bnd_s]
          exact op_ok rfl rfl rfl i2 i1
        · rw [if_neg q, if_neg q]
          exact op_ref (k := 3) (c := 3) h (rf3 _ _) rfl (by omega) (by omega) rfl (by omega)
      · rw [if_neg p3, if_neg p3]
        exact op_ref (k := 2) (c := 2) h (rf2 _ _) rfl (by omega) (by omega) rfl (by omega)
    · rw [if_neg p2, if_neg p2]
      exact op_ref (k := 1) (c := 1) h (rf1 _ _) rfl (by omega) (by omega) rfl (by omega)
  · rw [if_neg p, if_neg p]
    exact op_ref (k := 1) (c := 1) h (rf1 _ _) rfl (by omega) (by omega) rfl (by omega)
/-- the days of a note -/
abbrev pD (D : Nat) (x2 x3 : Int32) : Prop := ∃ p q : Nat, D < p ∧ p ≤ 9999 ∧ p ≤ q ∧ q ≤ p + 60 ∧ x2 = nI p ∧ x3 = nI q
theorem pD_c {D : Nat} (hD : D ≤ 9999) (x2 x3 : Int32) : pD D x2 x3 ↔ (nI D + 1 ≤ x2 ∧ x2 ≤ 9999) ∧ (x2 ≤ x3 ∧ x3 ≤ x2 + 60) := by
  rw [nI_1]
  constructor
  · rintro ⟨p, q, h1, h2, h3, h4, rfl, rfl⟩
    refine ⟨⟨nI_le (by omega) (by omega), nI_le (b := 9999) h2 (by omega)⟩, nI_le h3 (by omega), ?_⟩
    rw [show (60 : Int32) = nI 60 from rfl, qi_add]
    exact nI_le h4 (by omega)
  · rintro ⟨h1, h2⟩
    obtain ⟨p, p1, p2, rfl⟩ := rg_of (a := D + 1) (b := 9999) h1 (by omega) (by omega)
    rw [show (60 : Int32) = nI 60 from rfl, qi_add] at h2
    obtain ⟨q, q1, q2, rfl⟩ := rg_of (a := p) (b := p + 60) h2 (by omega) (by omega)
    exact ⟨p, q, by omega, p2, q1, q2, rfl, rfl⟩
theorem pD_m {D : Nat} (hD : D ≤ 9999) (x2 x3 : Int32) : pD D x2 x3 ↔ ¬ x2 ≤ nI D ∧ ¬ 9999 < x2 ∧ ¬ x3 < x2 ∧ ¬ 60 < x3 - x2 := by
  constructor
  · rintro ⟨p, q, h1, h2, h3, h4, rfl, rfl⟩
    refine ⟨nI_ge h1 (by omega), nI_nlt (a := 9999) h2 (by omega), nI_nlt h3 (by omega), ?_⟩
    rw [qi_sub h3]
    exact nI_nlt (a := 60) (by omega) (by omega)
  · rintro ⟨h1, h2, h3, h4⟩
    rw [qi_le, qi_I (by omega)] at h1
    rw [qi_lt, show (9999 : Int32).toInt = 9999 from rfl] at h2
    obtain ⟨p, p1, p2, rfl⟩ := rg_of (x := x2) (a := D + 1) (b := 9999) ⟨by rw [qi_le, qi_I (by omega)]; omega, by rw [qi_le, show (nI 9999).toInt = 9999 from rfl]; omega⟩ (by omega) (by omega)
    have h5 : ¬ x3 < 0 := by
      rw [qi_lt, show (0 : Int32).toInt = 0 from rfl]
      rw [qi_lt, qi_I (by omega)] at h3
      omega
    obtain ⟨q, hq, rfl⟩ := nI_of h5
    rw [qi_nlt (by omega) (by omega)] at h3
    rw [qi_sub (by omega), show (60 : Int32) = nI 60 from rfl, qi_nlt (by omega) (by omega)] at h4
    exact ⟨p, q, by omega, p2, by omega, by omega, rfl, rfl⟩
theorem s_refNote {o : Nat} (R : Rl v o (w 1) D n m f dd) (x1 x2 x3 : Int32) : ∃ k : Int32, f_X0_refusalToTakeNote o x1 x2 x3 v = some k ∧ (¬ isI x1 n → k = 1) ∧ (isI x1 n → ¬ pD D x2 x3 → k = 2) ∧ (isI x1 n → pD D x2 x3 → (nI D ≤ v (10, o, 0) (ix x1) ∧ qc (hitC v o x1 x2 x3) m = 0 ∧ m < 60) → k = 0) ∧ (isI x1 n → pD D x2 x3 → ¬ (nI D ≤ v (10, o, 0) (ix x1) ∧ qc (hitC v o x1 x2 x3) m = 0 ∧ m < 60) → k = 3) := by
  have hn := R.1.2.1
  have hm := R.1.2.2.1
  have hD := R.1.1
  have n10 : ¬ (1 : Int32) = 0 := by decide
  simp only [f_X0_refusalToTakeNote, s_has R.2.1.2.2.1 hn, s_within, s_areFull R.2.1.2.2.2.2.1 hm, s_cover R.2.1.2.2.2.2.1 hm, bnd_s, b2_if, jn_e, n10, if_true, if_false, R.2.1.1, pD_c hD]
  by_cases p : isI x1 n
  · rw [if_pos p]
    obtain ⟨s, hs, rfl⟩ := isI_of p
    rw [s_hasLeft o (by omega), bnd_s, b2_if, qi_ix (by omega)]
    by_cases p1 : nI D + 1 ≤ x2 ∧ x2 ≤ 9999
    · rw [if_pos p1]
      by_cases p2 : x2 ≤ x3 ∧ x3 ≤ x2 + 60
      · rw [if_pos p2]
        by_cases p3 : m = 60
        · rw [if_pos p3]
          exact ⟨3, rfl, fun q => absurd p q, fun _ q => absurd ⟨p1, p2⟩ q, fun _ _ q => absurd q.2.2 (by omega), fun _ _ _ => rfl⟩
        · rw [if_neg p3]
          by_cases p4 : 0 < qc (hitC v o (nI s) x2 x3) m
          · rw [if_pos p4]
            exact ⟨3, rfl, fun q => absurd p q, fun _ q => absurd ⟨p1, p2⟩ q, fun _ _ q => absurd q.2.1 (by omega), fun _ _ _ => rfl⟩
          · rw [if_neg p4]
            by_cases p5 : nI D ≤ v (10, o, 0) s
            · rw [if_neg (fun z => z p5)]
              exact ⟨0, rfl, fun q => absurd p q, fun _ q => absurd ⟨p1, p2⟩ q, fun _ _ _ => rfl, fun _ _ q => absurd ⟨p5, by omega, by omega⟩ q⟩
            · rw [if_pos p5]
              exact ⟨3, rfl, fun q => absurd p q, fun _ q => absurd ⟨p1, p2⟩ q, fun _ _ q => absurd q.1 p5, fun _ _ _ => rfl⟩
      · rw [if_neg p2]
        exact ⟨2, rfl, fun q => absurd p q, fun _ _ => rfl, fun _ q => absurd q.2 p2, fun _ q => absurd q.2 p2⟩
    · rw [if_neg p1]
      exact ⟨2, rfl, fun q => absurd p q, fun _ _ => rfl, fun _ q => absurd q.1 p1, fun _ q => absurd q.1 p1⟩
  · rw [if_neg p]
    exact ⟨1, rfl, fun _ => rfl, fun q => absurd q p, fun q => absurd q p, fun q => absurd q p⟩
theorem m_areDays (R : Rl v 0 (w 1) D n m f dd) (x2 x3 : Int32) : ∃ k : Int32, f_X7_areDays x2 x3 w = some k ∧ (pD D x2 x3 → k = 1) ∧ (¬ pD D x2 x3 → k = 0) := by
  have hD := R.1.1
  simp only [f_X7_areDays, inb_0, ix_0, ck_t, zb_0, zb_1, R.2.1.2.1, pD_m hD]
  by_cases p1 : x2 ≤ nI D
  · rw [if_pos p1]; exact ⟨0, rfl, fun q => absurd p1 q.1, fun _ => rfl⟩
  · rw [if_neg p1]
    by_cases p2 : 9999 < x2
    · rw [if_pos p2]; exact ⟨0, rfl, fun q => absurd p2 q.2.1, fun _ => rfl⟩
    · rw [if_neg p2]
      by_cases p3 : x3 < x2
      · rw [if_pos p3]; exact ⟨0, rfl, fun q => absurd p3 q.2.2.1, fun _ => rfl⟩
      · rw [if_neg p3]
        by_cases p4 : 60 < x3 - x2
        · rw [if_pos p4]; exact ⟨0, rfl, fun q => absurd p4 q.2.2.2, fun _ => rfl⟩
        · rw [if_neg p4]; exact ⟨1, rfl, fun _ => rfl, fun q => absurd ⟨p1, p2, p3, p4⟩ q⟩
theorem m_canExc {o : Nat} (R : Rl v o (w 1) D n m f dd) {s : Nat} (hs : s < n) (x2 x3 : Int32) : f_X7_canExcuse (nI s) x2 x3 w = some (b2 (nI D ≤ v (10, o, 0) s ∧ qc (hitC v o (nI s) x2 x3) m = 0 ∧ m < 60)) := by
  have hn := R.1.2.1
  have hm := R.1.2.2.1
  have w7 : f_X7_its (nI s) 7 w = some (w 1 (13 + 13 * s + 7)) := m_its (j := 7) (by omega) (by omega) w
  have e2 : w 1 2 = nI m := R.2.1.2.2.2.2.2.1
  have hq := qc_le (hitC v o (nI s) x2 x3) m
  simp only [f_X7_canExcuse, w7, m_notes e2 hm, hit_eq R, bnd_s, inb_2, ix_2, ck_t, zb_0, zb_1, e2]
  rw [i2b _ _ (left_iff R hs).2]
  by_cases p1 : nI D ≤ v (10, o, 0) s
  · rw [if_pos p1, i2b _ _ (qi_n0 (qc (hitC v o (nI s) x2 x3) m) (by omega))]
    by_cases p2 : qc (hitC v o (nI s) x2 x3) m = 0
    · rw [if_pos p2]
      by_cases p3 : m < 60
      · rw [if_neg (show ¬ (60 : Int32) ≤ nI m from nI_ge (b := 60) p3 (by omega)), b2_t ⟨p1, p2, p3⟩]
      · rw [if_pos (show (60 : Int32) ≤ nI m from nI_le (a := 60) (by omega) (by omega)), b2_f (fun q => p3 q.2.2)]
    · rw [if_neg p2, b2_f (fun q => p2 q.2.1)]
  · rw [if_neg p1, b2_f (fun q => p1 q.1)]
theorem op_excuse (h : IV v w) (x1 x2 x3 : Int32) : Op c123 (f_X6_excuse x1 x2 x3 v) (f_X7_excuse x1 x2 x3 w) := by
  obtain ⟨D, n, m, f, dd, R⟩ := h.1
  have hn := R.1.2.1
  have R1 : Rl v 0 (up w 0 12 0 1) D n m f dd := by rw [th_1 w 0 (by omega)]; exact R
  obtain ⟨k, hk, g1, g2, g3, g4⟩ := s_refNote R x1 x2 x3
  obtain ⟨t, ht, t1, t2⟩ := m_areDays R1 x2 x3
  unfold f_X6_excuse f_X7_excuse
  simp only [lt_e, hk, ht, bnd_s, m_isSinger R1.2.1.2.2.2.1 hn, b2_if, m_ref]
  by_cases p : isI x1 n
  · rw [if_pos p]
    obtain ⟨s, hs, rfl⟩ := isI_of p
    rw [qi_ix (by omega)] at g3 g4
    by_cases p2 : pD D x2 x3
    · rw [if_neg (show ¬ t = 0 by rw [t1 p2]; decide), m_canExc R1 hs, bnd_s, b2_if]
      by_cases q : nI D ≤ v (10, 0, 0) s ∧ qc (hitC v 0 (nI s) x2 x3) m = 0 ∧ m < 60
      · rw [if_pos q, g3 p p2 q, rf0]
        obtain ⟨v1, w1, k1, k2, k3, k4, k5⟩ := act_keep h R
        obtain ⟨a, b, b1, b2, b3, b4, rfl, rfl⟩ := p2
        obtain ⟨x, v2, w2, a1, a2, -, -, a3, a4, a5⟩ := note_eq k4 q.2.2 (nI s) b2 (show b ≤ 10059 by omega)
        obtain ⟨i1, i2⟩ := act_end k3 k5 a4 a5 a3
        rw [k1, bnd_s, a1, bnd_s, k2, bnd_s, a2, bnd_s]
        exact op_ok rfl rfl rfl i2 i1
      · rw [if_neg q, g4 p p2 q]
        exact op_ref (k := 3) (c := 3) h (rf3 _ _) rfl (by omega) (by omega) rfl (by omega)
    · rw [if_pos (t2 p2), g2 p p2]
      exact op_ref (k := 2) (c := 2) h (rf2 _ _) rfl (by omega) (by omega) rfl (by omega)
  · rw [if_neg p, g1 p]
    exact op_ref (k := 1) (c := 1) h (rf1 _ _) rfl (by omega) (by omega) rfl (by omega)
/-- whether a feast is on a day -/
def onD (dd : Nat → Nat) (x : Int32) (j : Nat) : Bool := decide (nI (dd j) = x)
theorem s_feastOn {o : Nat} (R : Rl v o (w 1) D n m f dd) (x : Int32) : f_X1_hasFeastOn o x v = some (b2 (0 < qc (onD dd x) f)) := by
  have hf := R.1.2.2.2
  have hf1 := R.2.1.2.2.2.2.2.2.1
  have hq := qf_le (onD dd x) f
  unfold f_X1_hasFeastOn
  refine lp_go (fuel := 8192) (ev := fun k (X : Int32 → Option Int32) => X (nI k)) (qf (onD dd x) f) (by omega) (fun k hk self => ?_) (fun self => ?_)
  · show L_X1_hasFeastOn_2 o x v self (nI k) = self (nI (k + 1))
    have hp := of_decide_eq_false (qf_no (onD dd x) f k hk)
    have h19 := (R.2.2.2.2.1 k (by omega)).1.2.2.2
    simp (disch := omega) only [L_X1_hasFeastOn_2, hf1, qi_nle, qi_inb, qi_ix, ck_t, h19, nI_1]
    rw [if_neg (by omega), if_neg hp]
  · show L_X1_hasFeastOn_2 o x v self (nI (qf (onD dd x) f)) = _
    by_cases e : qf (onD dd x) f < f
    · have hy := of_decide_eq_true (qf_yes (onD dd x) f e)
      rw [b2_t (by rw [← qf_c]; exact e)]
      generalize qf (onD dd x) f = q at *
      have h19 := (R.2.2.2.2.1 q e).1.2.2.2
      simp (disch := omega) only [L_X1_hasFeastOn_2, hf1, qi_nle, qi_inb, qi_ix, ck_t, h19, zb_1]
      rw [if_neg (by omega), if_pos hy]
    · rw [b2_f (by rw [← qf_c]; exact e)]
      simp (disch := omega) only [L_X1_hasFeastOn_2, hf1, qi_nle, ck_t, zb_0]
      rw [if_pos (by omega)]
theorem m_canAnn {o : Nat} (R : Rl v o (w 1) D n m f dd) (x : Int32) : f_X7_canAnnounce x w = some (b2 (f < 20 ∧ ¬ 0 < qc (onD dd x) f)) := by
  have hf := R.1.2.2.2
  have hf1 := R.2.1.2.2.2.2.2.2.2
  have key : lp (fun _ _ => none) (L_X7_canAnnounce_19 x w) 8192 (b2 (f < 20 ∧ ¬ 0 < qc (onD dd x) 0)) (nI 0) = some (b2 (f < 20 ∧ ¬ 0 < qc (onD dd x) f)) := by
    refine lp_go (fuel := 8192) (ev := fun k (X : Int32 → Int32 → Option Int32) => X (b2 (f < 20 ∧ ¬ 0 < qc (onD dd x) k)) (nI k)) f (by omega) (fun k hk self => ?_) (fun self => ?_)
    · show L_X7_canAnnounce_19 x w self (b2 (f < 20 ∧ ¬ 0 < qc (onD dd x) k)) (nI k) = self (b2 (f < 20 ∧ ¬ 0 < qc (onD dd x) (k + 1))) (nI (k + 1))
      have h9 := (R.2.2.2.2.1 k hk).1.2.2.1
      simp (disch := omega) only [L_X7_canAnnounce_19, inb_3, ix_3, ck_t, hf1, qi_nle, m_dayAt (show k < 20 by omega), h9, bnd_s, b2_if, nI_1]
      rw [if_neg (by omega)]
      have hq : qc (onD dd x) (k + 1) = qc (onD dd x) k + (if nI (dd k) = x then 1 else 0) := by
        rw [qc_s]
        unfold onD
        simp only [decide_eq_true_eq]
      by_cases p : f < 20 ∧ ¬ 0 < qc (onD dd x) k
      · rw [if_pos p]
        by_cases q : nI (dd k) = x
        · rw [if_pos q] at hq
          have z : ¬ (f < 20 ∧ ¬ 0 < qc (onD dd x) (k + 1)) := fun z => absurd z.2 (by omega)
          rw [if_pos q, b2_f z]
        · rw [if_neg q] at hq
          have z : f < 20 ∧ ¬ 0 < qc (onD dd x) (k + 1) := ⟨p.1, by have := p.2; omega⟩
          rw [if_neg q, b2_t z]
      · have z : ¬ (f < 20 ∧ ¬ 0 < qc (onD dd x) (k + 1)) := fun z => p ⟨z.1, by have := z.2; omega⟩
        rw [if_neg p, b2_f z]
    · show L_X7_canAnnounce_19 x w self _ (nI f) = _
      simp (disch := omega) only [L_X7_canAnnounce_19, inb_3, ix_3, ck_t, hf1, qi_nle]
      rw [if_pos (Nat.le_refl f), zb_b, ck_t]
  unfold f_X7_canAnnounce
  rw [jn_e, inb_3, ck_t, ix_3, hf1]
  by_cases p : f < 20
  · rw [if_neg (show ¬ (20 : Int32) ≤ nI f from nI_ge (b := 20) p (by omega))]
    rw [b2_t ⟨p, by show ¬ 0 < 0; omega⟩] at key
    exact key
  · rw [if_pos (show (20 : Int32) ≤ nI f from nI_le (a := 20) (by omega) (by omega))]
    rw [b2_f (fun z => p z.1)] at key
    exact key
theorem m_isFut {o : Nat} (R : Rl v o (w 1) D n m f dd) (x : Int32) : f_X7_isFuture x w = some (b2 (nI D + 1 ≤ x ∧ x ≤ 9999)) := by
  have hD := R.1.1
  simp only [f_X7_isFuture, inb_0, ix_0, ck_t, zb_0, zb_1, R.2.1.2.1]
  rw [nI_1]
  by_cases p1 : x ≤ nI D
  · rw [if_pos p1, b2_f (fun q => by
      have := q.1
      rw [qi_le, qi_I (by omega)] at this p1
      omega)]
  · rw [if_neg p1]
    by_cases p2 : 9999 < x
    · rw [if_pos p2, b2_f (fun q => by
        have := q.2
        rw [qi_le] at this
        rw [qi_lt] at p2
        omega)]
    · rw [if_neg p2, b2_t ⟨by rw [qi_le, qi_I (by omega)] at p1 ⊢; omega, by rw [qi_le]; rw [qi_lt] at p2; omega⟩]
theorem op_announce (h : IV v w) (x1 x2 : Int32) : Op c23 (f_X6_announce x1 x2 v) (f_X7_announce x1 x2 w) := by
  obtain ⟨D, n, m, f, dd, R⟩ := h.1
  have hD := R.1.1
  have hf := R.1.2.2.2
  have R1 : Rl v 0 (up w 0 12 0 1) D n m f dd := by rw [th_1 w 0 (by omega)]; exact R
  unfold f_X6_announce f_X7_announce
  simp only [jn_e, lt_e, f_X0_refusalToAddFeast, s_within, s_isFullF R.2.1.2.2.2.2.2.2.1 hf, s_feastOn R, m_isFut R1, m_in, m_canAnn R1, bnd_s, b2_if, m_ref, R.2.1.1]
  by_cases p : nI D + 1 ≤ x1 ∧ x1 ≤ 9999
  · rw [if_pos p, if_pos p]
    by_cases p2 : 1 ≤ x2 ∧ x2 ≤ 3
    · rw [if_pos p2, if_pos p2]
      by_cases p3 : f = 20
      · rw [if_pos p3, if_neg (fun q => absurd q.1 (by omega)), bnd_s]
        exact op_ref (k := 3) (c := 2) h (rf3 _ _) rfl (by omega) (by omega) rfl (by omega)
      · rw [if_neg p3]
        by_cases p4 : 0 < qc (onD dd x1) f
        · rw [if_pos p4, if_neg (fun q => q.2 p4), bnd_s]
          exact op_ref (k := 3) (c := 2) h (rf3 _ _) rfl (by omega) (by omega) rfl (by omega)
        · rw [if_neg p4, if_pos (show f < 20 ∧ ¬ 0 < qc (onD dd x1) f from ⟨by omega, p4⟩), bnd_s, rf0]
          rw [nI_1] at p
          obtain ⟨d, d1, d2, rfl⟩ := rg_of (a := D + 1) (b := 9999) p (by omega) (by omega)
          obtain ⟨v1, w1, k1, k2, k3, k4, k5⟩ := act_keep h R
          have hno : ∀ j, j < f → dd j ≠ d := fun j hj e => p4 (qc_pos.mpr ⟨j, hj, decide_eq_true (by rw [e])⟩)
          obtain ⟨v2, w2, a1, a2, a3, a4, a5⟩ := feast_eq k4 (by omega) (by omega) d2 hno x2
          obtain ⟨i1, i2⟩ := act_end k3 k5 a4 a5 a3
          rw [k1, bnd_s, a1, bnd_s, k2, bnd_s, a2, bnd_s]
          exact op_ok rfl rfl rfl i2 i1
    · rw [if_neg p2, if_neg p2, bnd_s]
      exact op_ref (k := 2) (c := 1) h (rf2 _ _) rfl (by omega) (by omega) rfl (by omega)
  · rw [if_neg p, if_neg p, bnd_s]
    exact op_ref (k := 2) (c := 1) h (rf2 _ _) rfl (by omega) (by omega) rfl (by omega)
end Ops2
