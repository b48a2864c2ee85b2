/-! THE LETTER: one order is carried out, on both sides -/
theorem m_told {w : mM} {i p : Nat} {x : Int32} (e : x = nI p) (h : 6 * i + p < 168) : f_X7_told (nI i) x w = some (w 10 (6 * i + p)) := by
  subst e
  have e2 : (6 : Int32) * nI i + nI p = nI (6 * i + p) := by rw [show (6 : Int32) = nI 6 from rfl, qi_mul, qi_add]
  unfold f_X7_told
  rw [e2, qi_inb h (by omega), ck_t, qi_ix (by omega)]
theorem bs_e {α : Type} (F : Option α) : (F.bind fun r => some r) = F := by cases F <;> rfl
def DO (v : mC) (w : mM) (k : Int32) (F : Option (Int32 × mM)) : Prop := ∃ r x w', f_X6_refusalOf k v = some r ∧ F = some (x, w') ∧ MB w w' ∧ ((r = 0 ∧ x = 1 ∧ ∃ v', f_X6_obey k v = some v' ∧ BR v' 1 (w' 1) ∧ CB 1 v v') ∨ (¬ r = 0 ∧ x = 0))
theorem DO_no {v : mC} {w : mM} {k r : Int32} {F : Option (Int32 × mM)} (h1 : f_X6_refusalOf k v = some r) (h2 : F = some (0, w)) (h3 : ¬ r = 0) : DO v w k F := ⟨r, 0, w, h1, h2, fun _ _ _ => rfl, Or.inr ⟨h3, rfl⟩⟩
theorem DO_ok {v v' : mC} {w w' : mM} {k : Int32} {F : Option (Int32 × mM)} (h1 : f_X6_refusalOf k v = some 0) (h2 : F = some (1, w')) (h3 : MB w w') (h4 : f_X6_obey k v = some v') (h5 : BR v' 1 (w' 1)) (h6 : CB 1 v v') : DO v w k F := ⟨0, 1, w', h1, h2, h3, Or.inl ⟨rfl, rfl, v', h4, h5, h6⟩⟩
theorem MB_of {w w' : mM} (h : ∀ z, z ≠ 1 → w' z = w z) : MB w w' := fun z _ hz => h z hz
section Does
variable {v : mC} {w : mM} {D n m f i : Nat} {dd : Nat → Nat}
theorem rf_k0 (v : mC) : f_X6_refusalOf (nI 0) v = f_X0_refusalToEnrol 1 (v (34, 0, 0) 0) (v (34, 0, 0) 1) (v (34, 0, 0) 2) (v (34, 0, 0) 3) (v (34, 0, 0) 4) v := by
  unfold f_X6_refusalOf
  rw [swt_at 0 (by rfl)]
  exact bs_e _
theorem rf_k1 (v : mC) : f_X6_refusalOf (nI 1) v = f_X0_refusalToAddFeast 1 (v (34, 0, 0) 0) (v (34, 0, 0) 1) v := by
  unfold f_X6_refusalOf
  rw [swt_at 1 (by rfl)]
  exact bs_e _
theorem rf_k2 (v : mC) : f_X6_refusalOf (nI 2) v = f_X0_refusalToArrange 1 (v (34, 0, 0) 0) (v (34, 0, 0) 1) (v (34, 0, 0) 2) (v (34, 0, 0) 3) (v (34, 0, 0) 4) v := by
  unfold f_X6_refusalOf
  rw [swt_at 2 (by rfl)]
  exact bs_e _
theorem rf_k3 (v : mC) : f_X6_refusalOf (nI 3) v = f_X0_refusalToTakeNote 1 (v (34, 0, 0) 0) (v (34, 0, 0) 1) (v (34, 0, 0) 2) v := by
  unfold f_X6_refusalOf
  rw [swt_at 3 (by rfl)]
  exact bs_e _
theorem rf_k4 (v : mC) : f_X6_refusalOf (nI 4) v = f_X0_refusalToSendAway 1 (v (34, 0, 0) 0) (v (34, 0, 0) 1) (v (34, 0, 0) 2) v := by
  unfold f_X6_refusalOf
  rw [swt_at 4 (by rfl)]
  exact bs_e _
theorem rf_k5 (v : mC) : f_X6_refusalOf (nI 5) v = f_X0_refusalToDismiss 1 (v (34, 0, 0) 0) v := by
  unfold f_X6_refusalOf
  rw [swt_at 5 (by rfl)]
  exact bs_e _
theorem rf_k6 (v : mC) : f_X6_refusalOf (nI 6) v = f_X0_refusalToAdvance 1 (v (34, 0, 0) 0) v := by
  unfold f_X6_refusalOf
  rw [swt_at 6 (by rfl)]
  exact bs_e _
theorem ob_k0 (v : mC) : f_X6_obey (nI 0) v = (f_X0_enrol 1 (v (34, 0, 0) 0) (v (34, 0, 0) 1) (v (34, 0, 0) 2) (v (34, 0, 0) 3) (v (34, 0, 0) 4) v).bind fun r => some r.2 := by
  unfold f_X6_obey
  rw [swt_at 0 (by rfl)]
  rfl
theorem ob_k1 (v : mC) : f_X6_obey (nI 1) v = (f_X0_addFeast 1 (v (34, 0, 0) 0) (v (34, 0, 0) 1) v).bind fun r => some r.2 := by
  unfold f_X6_obey
  rw [swt_at 1 (by rfl)]
  rfl
theorem ob_k2 (v : mC) : f_X6_obey (nI 2) v = (f_X0_arrange 1 (v (34, 0, 0) 0) (v (34, 0, 0) 1) (v (34, 0, 0) 2) (v (34, 0, 0) 3) (v (34, 0, 0) 4) v).bind fun r => some r.2 := by
  unfold f_X6_obey
  rw [swt_at 2 (by rfl)]
  rfl
theorem ob_k3 (v : mC) : f_X6_obey (nI 3) v = (f_X0_takeNote 1 (v (34, 0, 0) 0) (v (34, 0, 0) 1) (v (34, 0, 0) 2) v).bind fun r => some r.2 := by
  unfold f_X6_obey
  rw [swt_at 3 (by rfl)]
  rfl
theorem ob_k4 (v : mC) : f_X6_obey (nI 4) v = (f_X0_sendAway 1 (v (34, 0, 0) 0) (v (34, 0, 0) 1) (v (34, 0, 0) 2) v).bind fun r => some r.2 := by
  unfold f_X6_obey
  rw [swt_at 4 (by rfl)]
  rfl
theorem ob_k5 (v : mC) : f_X6_obey (nI 5) v = (f_X0_dismiss 1 (v (34, 0, 0) 0) v).bind fun r => some r.2 := by
  unfold f_X6_obey
  rw [swt_at 5 (by rfl)]
  rfl
theorem ob_k6 (v : mC) : f_X6_obey (nI 6) v = (f_X0_advance 1 (v (34, 0, 0) 0) v).bind fun r => some r.2 := by
  unfold f_X6_obey
  rw [swt_at 6 (by rfl)]
  rfl
theorem does_0 (R : Rl v 1 (w 1) D n m f dd) {y h lo hi b : Nat} (hi5 : 6 * i + 5 < 168) (h0 : w 10 (6 * i) = nI 106) (t1 : w 10 (6 * i + 1) = nI lo) (t2 : w 10 (6 * i + 2) = nI hi) (t3 : w 10 (6 * i + 3) = nI y) (t4 : w 10 (6 * i + 4) = nI h) (t5 : w 10 (6 * i + 5) = nI b)
    (c0 : v (34, 0, 0) 0 = nI y) (c1 : v (34, 0, 0) 1 = nI h) (c2 : v (34, 0, 0) 2 = nI lo) (c3 : v (34, 0, 0) 3 = nI hi) (c4 : v (34, 0, 0) 4 = nI b) (by1 : 7 ≤ y ∧ y ≤ 70) (bh : 90 ≤ h ∧ h ≤ 210) (blo : lo ≤ 48) (bhi : hi ≤ 48) (bb : b = 0 ∨ (12 ≤ b ∧ b ≤ 17)) :
    DO v w (nI 0) (f_X7_does (nI i) w) := by
  have hn := R.1.2.1
  have T0 : f_X7_told (nI i) 0 w = some (nI 106) := (m_told (p := 0) rfl (by omega)).trans (congrArg some h0)
  have T1 : f_X7_told (nI i) 1 w = some (nI lo) := (m_told (p := 1) rfl (by omega)).trans (congrArg some t1)
  have T2 : f_X7_told (nI i) 2 w = some (nI hi) := (m_told (p := 2) rfl (by omega)).trans (congrArg some t2)
  have T3 : f_X7_told (nI i) 3 w = some (nI y) := (m_told (p := 3) rfl (by omega)).trans (congrArg some t3)
  have T4 : f_X7_told (nI i) 4 w = some (nI h) := (m_told (p := 4) rfl (by omega)).trans (congrArg some t4)
  have T5 : f_X7_told (nI i) 5 w = some (nI b) := (m_told (p := 5) rfl (by omega)).trans (congrArg some t5)
  have q1 : 7 ≤ nI y ∧ nI y ≤ 70 := ⟨nI_le (a := 7) by1.1 (by omega), nI_le (b := 70) by1.2 (by omega)⟩
  have q2 : pH (nI h) := ⟨nI_le (a := 90) bh.1 (by omega), nI_le (b := 210) bh.2 (by omega)⟩
  have q3 : nI b = 0 ∨ (12 ≤ nI b ∧ nI b ≤ 17) := by
    rcases bb with e | e
    · exact Or.inl (by rw [e]; rfl)
    · exact Or.inr ⟨nI_le (a := 12) e.1 (by omega), nI_le (b := 17) e.2 (by omega)⟩
  have e11 : w 1 1 = nI n := R.2.1.2.2.2.1
  have ref := rf_k0 v
  rw [c0, c1, c2, c3, c4, s_refEnrol R.2.1.2.2.1 hn] at ref
  have hd : f_X7_does (nI i) w = (f_X7_joins (nI i) w).bind fun r_122 => (ck (zb r_122.1) (some (r_122.1, r_122.2))) := by
    unfold f_X7_does
    rw [T1, bnd_s, T2, bnd_s, T3, bnd_s, T0, bnd_s, swt_at 4 (by rfl)]
    rfl
  rw [hd]
  unfold f_X7_joins
  simp only [jn_e, T1, T2, T3, T4, T5, bnd_s, m_areNotes, b2_if, inb_1, ix_1, ck_t, zb_0, zb_1, e11]
  by_cases p : pN (nI lo) (nI hi)
  · rw [if_pos p]
    rw [if_pos ⟨⟨q1, q2, q3⟩, p⟩] at ref
    by_cases p3 : n = 30
    · rw [if_pos (show (30 : Int32) ≤ nI n from nI_le (a := 30) (by omega) (by omega))]
      rw [if_pos p3] at ref
      exact DO_no ref rfl (by decide)
    · rw [if_neg (show ¬ (30 : Int32) ≤ nI n from nI_ge (b := 30) (by omega) (by omega))]
      rw [if_neg p3] at ref
      obtain ⟨v2, w2, a1, a2, a3, a4, a5⟩ := enrol_eq R (by omega) q1 q2 p q3
      refine DO_ok (v' := v2) (w' := w2) ref ?_ (MB_of a5) ?_ ⟨_, _, _, _, _, a3⟩ a4
      · rw [if_neg (show ¬ (1 : Int32) = 0 by decide), a2, bnd_s, if_neg (show ¬ nI n < 0 from nI_nlt (b := 0) (by omega) (by omega))]
        rfl
      · rw [ob_k0, c0, c1, c2, c3, c4, a1, bnd_s]
  · rw [if_neg p]
    rw [if_neg (fun q => p q.2)] at ref
    exact DO_no ref rfl (by decide)
theorem does_1 (R : Rl v 1 (w 1) D n m f dd) {d r : Nat} (hi5 : 6 * i + 5 < 168) (h0 : w 10 (6 * i) = nI 102) (t1 : w 10 (6 * i + 1) = nI d) (t2 : w 10 (6 * i + 2) = nI r)
    (c0 : v (34, 0, 0) 0 = nI d) (c1 : v (34, 0, 0) 1 = nI r) (bd : d ≤ 9999) (br : 1 ≤ r ∧ r ≤ 3) : DO v w (nI 1) (f_X7_does (nI i) w) := by
  have hD := R.1.1
  have hf := R.1.2.2.2
  have T0 : f_X7_told (nI i) 0 w = some (nI 102) := (m_told (p := 0) rfl (by omega)).trans (congrArg some h0)
  have T1 : f_X7_told (nI i) 1 w = some (nI d) := (m_told (p := 1) rfl (by omega)).trans (congrArg some t1)
  have T2 : f_X7_told (nI i) 2 w = some (nI r) := (m_told (p := 2) rfl (by omega)).trans (congrArg some t2)
  have T3 : f_X7_told (nI i) 3 w = some (w 10 (6 * i + 3)) := m_told (p := 3) rfl (by omega)
  have q2 : 1 ≤ nI r ∧ nI r ≤ 3 := ⟨nI_le (a := 1) br.1 (by omega), nI_le (b := 3) br.2 (by omega)⟩
  have hd : f_X7_does (nI i) w = ((f_X7_isFuture (nI d) w).bind fun r_128 => (if r_128 = 0 then (ck (zb (0 : Int32)) (some ((0 : Int32), w))) else ((f_X7_canAnnounce (nI d) w).bind fun r_136 => (if r_136 = 0 then (ck (zb (0 : Int32)) (some ((0 : Int32), w))) else ((f_X7_announces (nI d) (nI r) w).bind fun r_145 => (if r_145.1 < 0 then (ck (zb (0 : Int32)) (some ((0 : Int32), r_145.2))) else (ck (zb (1 : Int32)) (some ((1 : Int32), r_145.2))))))))) := by
    unfold f_X7_does
    rw [T1, bnd_s, T2, bnd_s, T3, bnd_s, T0, bnd_s, swt_at 0 (by rfl)]
    rfl
  have ref := rf_k1 v
  rw [c0, c1] at ref
  simp only [f_X0_refusalToAddFeast, jn_e, s_within, s_isFullF R.2.1.2.2.2.2.2.2.1 hf, s_feastOn R, bnd_s, b2_if, R.2.1.1] at ref
  rw [hd, m_isFut R, bnd_s, b2_if]
  by_cases p : nI D + 1 ≤ nI d ∧ nI d ≤ 9999
  · rw [if_pos p, m_canAnn R, bnd_s, b2_if]
    rw [if_pos p, if_pos q2] at ref
    by_cases p3 : f = 20
    · rw [if_neg (fun q => absurd q.1 (by omega)), zb_0, ck_t]
      rw [if_pos p3] at ref
      exact DO_no ref rfl (by decide)
    · rw [if_neg p3] at ref
      by_cases p4 : 0 < qc (onD dd (nI d)) f
      · rw [if_neg (fun q => q.2 p4), zb_0, ck_t]
        rw [if_pos p4] at ref
        exact DO_no ref rfl (by decide)
      · rw [if_pos (show f < 20 ∧ ¬ 0 < qc (onD dd (nI d)) f from ⟨by omega, p4⟩)]
        rw [if_neg p4] at ref
        rw [nI_1] at p
        have hd1 : D + 1 ≤ d := (qi_nle (by omega) (by omega)).mp p.1
        have hno : ∀ j, j < f → dd j ≠ d := fun j hj e => p4 (qc_pos.mpr ⟨j, hj, decide_eq_true (by rw [e])⟩)
        obtain ⟨v2, w2, a1, a2, a3, a4, a5⟩ := feast_eq R (by omega) (by omega) bd hno (nI r)
        refine DO_ok (v' := v2) (w' := w2) ref ?_ (MB_of a5) ?_ ⟨_, _, _, _, _, a3⟩ a4
        · rw [a2, bnd_s, if_neg (show ¬ nI f < 0 from nI_nlt (b := 0) (by omega) (by omega)), zb_1, ck_t]
        · rw [ob_k1, c0, c1, a1, bnd_s]
  · rw [if_neg p, zb_0, ck_t]
    rw [if_neg p] at ref
    exact DO_no ref rfl (by decide)
theorem does_2 (R : Rl v 1 (w 1) D n m f dd) {b l q lo hi : Nat} (hi5 : 6 * i + 5 < 168) (h0 : w 10 (6 * i) = nI 108) (t1 : w 10 (6 * i + 1) = nI lo) (t2 : w 10 (6 * i + 2) = nI hi) (t3 : w 10 (6 * i + 3) = nI b) (t4 : w 10 (6 * i + 4) = nI l) (t5 : w 10 (6 * i + 5) = nI q)
    (c0 : v (34, 0, 0) 0 = nI b) (c1 : v (34, 0, 0) 1 = nI l) (c2 : v (34, 0, 0) 2 = nI q) (c3 : v (34, 0, 0) 3 = nI lo) (c4 : v (34, 0, 0) 4 = nI hi) (bb : b ≤ 19) (bl : l ≤ 3) (bq : q ≤ 6) : DO v w (nI 2) (f_X7_does (nI i) w) := by
  have hD := R.1.1
  have hf := R.1.2.2.2
  have T0 : f_X7_told (nI i) 0 w = some (nI 108) := (m_told (p := 0) rfl (by omega)).trans (congrArg some h0)
  have T1 : f_X7_told (nI i) 1 w = some (nI lo) := (m_told (p := 1) rfl (by omega)).trans (congrArg some t1)
  have T2 : f_X7_told (nI i) 2 w = some (nI hi) := (m_told (p := 2) rfl (by omega)).trans (congrArg some t2)
  have T3 : f_X7_told (nI i) 3 w = some (nI b) := (m_told (p := 3) rfl (by omega)).trans (congrArg some t3)
  have T4 : f_X7_told (nI i) 4 w = some (nI l) := (m_told (p := 4) rfl (by omega)).trans (congrArg some t4)
  have T5 : f_X7_told (nI i) 5 w = some (nI q) := (m_told (p := 5) rfl (by omega)).trans (congrArg some t5)
  have q2 : 0 ≤ nI l ∧ nI l ≤ 3 := ⟨nI_le (a := 0) (by omega) (by omega), nI_le (b := 3) bl (by omega)⟩
  have q3 : 0 ≤ nI q ∧ nI q ≤ 6 := ⟨nI_le (a := 0) (by omega) (by omega), nI_le (b := 6) bq (by omega)⟩
  have hd : f_X7_does (nI i) w = (f_X7_lines (nI i) w).bind fun r_159 => (ck (zb r_159.1) (some (r_159.1, r_159.2))) := by
    unfold f_X7_does
    rw [T1, bnd_s, T2, bnd_s, T3, bnd_s, T0, bnd_s, swt_at 6 (by rfl)]
    rfl
  have ref := rf_k2 v
  rw [c0, c1, c2, c3, c4] at ref
  simp only [f_X0_refusalToArrange, jn_e, s_hasF R.2.1.2.2.2.2.2.2.1 hf, s_isLine, s_within, s_isRange, bnd_s, b2_if] at ref
  rw [hd]
  unfold f_X7_lines
  simp only [jn_e, T1, T2, T3, T4, T5, bnd_s, m_isFeast R.2.1.2.2.2.2.2.2.2 hf, m_areNotes, b2_if, zb_0, zb_1, ck_t]
  by_cases p : isI (nI b) f
  · rw [if_pos p]
    have hj : b < f := by
      have := p.2
      rw [qi_I (by omega)] at this
      omega
    have hdd := (R.2.2.2.2.1 b hj).1
    rw [m_held (by omega), bnd_s, b2_if, R.2.1.2.1, hdd.2.2.1]
    rw [if_pos p, if_pos q2, if_pos q3, s_held 1 (by omega), bnd_s, b2_if, R.2.1.1, hdd.2.2.2] at ref
    by_cases p5 : ¬ nI D < nI (dd b)
    · rw [if_pos p5]
      by_cases p4 : pN (nI lo) (nI hi)
      · rw [if_pos p4, if_pos p5] at ref
        exact DO_no ref rfl (by decide)
      · rw [if_neg p4] at ref
        exact DO_no ref rfl (by decide)
    · rw [if_neg p5]
      by_cases p4 : pN (nI lo) (nI hi)
      · rw [if_pos p4]
        rw [if_pos p4, if_neg p5] at ref
        obtain ⟨S, v2, w2, hS, a1, a2, a3, a4, a5⟩ := line_eq R hj (show l < 4 by omega) bq (nI lo) (nI hi)
        refine DO_ok (v' := v2) (w' := w2) ref ?_ (MB_of a5) ?_ ⟨_, _, _, _, _, a3⟩ a4
        · rw [if_neg (show ¬ (1 : Int32) = 0 by decide), a2, bnd_s, if_neg (show ¬ nI S < 0 from nI_nlt (b := 0) (by omega) (by omega))]
          rfl
        · rw [ob_k2, c0, c1, c2, c3, c4, a1, bnd_s]
      · rw [if_neg p4]
        rw [if_neg p4] at ref
        exact DO_no ref rfl (by decide)
  · rw [if_neg p]
    rw [if_neg p] at ref
    exact DO_no ref rfl (by decide)
theorem m_areDays2 {o : Nat} (R : Rl v o (w 1) D n m f dd) (x2 x3 : Int32) : ∃ k : Int32, f_X7_areDays x2 x3 w = some k ∧ (pD D x2 x3 → k = 1) ∧ (¬ pD D x2 x3 → k = 0) := by
  have hD := R.1.1
  simp only [f_X7_areDays, inb_0, ix_0, ck_t, zb_0, zb_1, R.2.1.2.1, pD_m hD]
  by_cases p1 : x2 ≤ nI D
  · rw [if_pos p1]; exact ⟨0, rfl, fun q => absurd p1 q.1, fun _ => rfl⟩
  · rw [if_neg p1]
    by_cases p2 : 9999 < x2
    · rw [if_pos p2]; exact ⟨0, rfl, fun q => absurd p2 q.2.1, fun _ => rfl⟩
    · rw [if_neg p2]
      by_cases p3 : x3 < x2
      · rw [if_pos p3]; exact ⟨0, rfl, fun q => absurd p3 q.2.2.1, fun _ => rfl⟩
      · rw [if_neg p3]
        by_cases p4 : 60 < x3 - x2
        · rw [if_pos p4]; exact ⟨0, rfl, fun q => absurd p4 q.2.2.2, fun _ => rfl⟩
        · rw [if_neg p4]; exact ⟨1, rfl, fun _ => rfl, fun q => absurd ⟨p1, p2, p3, p4⟩ q⟩
theorem does_3 (R : Rl v 1 (w 1) D n m f dd) {s a b : Nat} (hi5 : 6 * i + 5 < 168) (h0 : w 10 (6 * i) = nI 110) (t1 : w 10 (6 * i + 1) = nI s) (t2 : w 10 (6 * i + 2) = nI a) (t3 : w 10 (6 * i + 3) = nI b)
    (c0 : v (34, 0, 0) 0 = nI s) (c1 : v (34, 0, 0) 1 = nI a) (c2 : v (34, 0, 0) 2 = nI b) (bs : s ≤ 29) : DO v w (nI 3) (f_X7_does (nI i) w) := by
  have hn := R.1.2.1
  have T0 : f_X7_told (nI i) 0 w = some (nI 110) := (m_told (p := 0) rfl (by omega)).trans (congrArg some h0)
  have T1 : f_X7_told (nI i) 1 w = some (nI s) := (m_told (p := 1) rfl (by omega)).trans (congrArg some t1)
  have T2 : f_X7_told (nI i) 2 w = some (nI a) := (m_told (p := 2) rfl (by omega)).trans (congrArg some t2)
  have T3 : f_X7_told (nI i) 3 w = some (nI b) := (m_told (p := 3) rfl (by omega)).trans (congrArg some t3)
  have hd : f_X7_does (nI i) w = ((f_X7_isSinger (nI s) w).bind fun r_165 => (if r_165 = 0 then (ck (zb (0 : Int32)) (some ((0 : Int32), w))) else ((f_X7_areDays (nI a) (nI b) w).bind fun r_175 => (if r_175 = 0 then (ck (zb (0 : Int32)) (some ((0 : Int32), w))) else ((f_X7_canExcuse (nI s) (nI a) (nI b) w).bind fun r_186 => (if r_186 = 0 then (ck (zb (0 : Int32)) (some ((0 : Int32), w))) else ((f_X7_excuses (nI s) (nI a) (nI b) w).bind fun r_197 => (if r_197.1 ≤ 0 then (ck (zb (0 : Int32)) (some ((0 : Int32), r_197.2))) else (ck (zb (1 : Int32)) (some ((1 : Int32), r_197.2))))))))))) := by
    unfold f_X7_does
    rw [T1, bnd_s, T2, bnd_s, T3, bnd_s, T0, bnd_s, swt_at 8 (by rfl)]
    rfl
  have ref := rf_k3 v
  rw [c0, c1, c2] at ref
  obtain ⟨k, hk, g1, g2, g3, g4⟩ := s_refNote R (nI s) (nI a) (nI b)
  obtain ⟨t, ht, u1, u2⟩ := m_areDays2 R (nI a) (nI b)
  rw [hk] at ref
  rw [hd, m_isSinger R.2.1.2.2.2.1 hn, bnd_s, b2_if, ht, bnd_s]
  by_cases p : isI (nI s) n
  · rw [if_pos p]
    have hs : s < n := by
      have := p.2
      rw [qi_I (by omega)] at this
      omega
    rw [qi_ix (show s < 2147483648 by omega)] at g3 g4
    by_cases p2 : pD D (nI a) (nI b)
    · rw [if_neg (show ¬ t = 0 by rw [u1 p2]; decide), m_canExc R hs, bnd_s, b2_if]
      by_cases q : nI D ≤ v (10, 1, 0) s ∧ qc (hitC v 1 (nI s) (nI a) (nI b)) m = 0 ∧ m < 60
      · rw [if_pos q]
        rw [g3 p p2 q] at ref
        obtain ⟨a', b', b1, b2, b3, b4, ea, eb⟩ := p2
        rw [ea, eb]
        obtain ⟨x, v2, w2, a1, a2, x1, x2, a3, a4, a5⟩ := note_eq R q.2.2 (nI s) b2 (show b' ≤ 10059 by omega)
        refine DO_ok (v' := v2) (w' := w2) ref ?_ (MB_of a5) ?_ ⟨_, _, _, _, _, a3⟩ a4
        · rw [a2, bnd_s, if_neg (show ¬ nI x ≤ 0 from nI_ge (a := 0) x1 (by omega)), zb_1, ck_t]
        · rw [ob_k3, c0, c1, c2, ea, eb, a1, bnd_s]
      · rw [if_neg q, zb_0, ck_t]
        rw [g4 p p2 q] at ref
        exact DO_no ref rfl (by decide)
    · rw [if_pos (u2 p2), zb_0, ck_t]
      rw [g2 p p2] at ref
      exact DO_no ref rfl (by decide)
  · rw [if_neg p, zb_0, ck_t]
    rw [g1 p] at ref
    exact DO_no ref rfl (by decide)
theorem does_4 (R : Rl v 1 (w 1) D n m f dd) {s c d : Nat} (hi5 : 6 * i + 5 < 168) (h0 : w 10 (6 * i) = nI 111) (t1 : w 10 (6 * i + 1) = nI s) (t2 : w 10 (6 * i + 2) = nI c) (t3 : w 10 (6 * i + 3) = nI d)
    (c0 : v (34, 0, 0) 0 = nI s) (c1 : v (34, 0, 0) 1 = nI c) (c2 : v (34, 0, 0) 2 = nI d) (bs : s ≤ 29) (bc : c ≤ 4) (bd : 1 ≤ d ∧ d ≤ 90) : DO v w (nI 4) (f_X7_does (nI i) w) := by
  have hn := R.1.2.1
  have hD := R.1.1
  have T0 : f_X7_told (nI i) 0 w = some (nI 111) := (m_told (p := 0) rfl (by omega)).trans (congrArg some h0)
  have T1 : f_X7_told (nI i) 1 w = some (nI s) := (m_told (p := 1) rfl (by omega)).trans (congrArg some t1)
  have T2 : f_X7_told (nI i) 2 w = some (nI c) := (m_told (p := 2) rfl (by omega)).trans (congrArg some t2)
  have T3 : f_X7_told (nI i) 3 w = some (nI d) := (m_told (p := 3) rfl (by omega)).trans (congrArg some t3)
  have q2 : 0 ≤ nI c ∧ nI c ≤ 4 := ⟨nI_le (a := 0) (by omega) (by omega), nI_le (b := 4) bc (by omega)⟩
  have q3 : 1 ≤ nI d ∧ nI d ≤ 90 := ⟨nI_le (a := 1) bd.1 (by omega), nI_le (b := 90) bd.2 (by omega)⟩
  have hd : f_X7_does (nI i) w = ((f_X7_isSinger (nI s) w).bind fun r_211 => (if r_211 = 0 then (ck (zb (0 : Int32)) (some ((0 : Int32), w))) else ((f_X7_canLend (nI s) w).bind fun r_219 => (if r_219 = 0 then (ck (zb (0 : Int32)) (some ((0 : Int32), w))) else ((f_X7_lends (nI s) (nI c) (nI d) w).bind fun r_230 => (if r_230.1 ≤ 0 then (ck (zb (0 : Int32)) (some ((0 : Int32), r_230.2))) else (ck (zb (1 : Int32)) (some ((1 : Int32), r_230.2))))))))) := by
    unfold f_X7_does
    rw [T1, bnd_s, T2, bnd_s, T3, bnd_s, T0, bnd_s, swt_at 9 (by rfl)]
    rfl
  have ref := rf_k4 v
  rw [c0, c1, c2, s_refSend R, if_pos q2, if_pos q3] at ref
  rw [hd, m_isSinger R.2.1.2.2.2.1 hn, bnd_s, b2_if]
  by_cases p : isI (nI s) n
  · rw [if_pos p]
    rw [if_pos p, qi_ix (show s < 2147483648 by omega)] at ref
    have hs : s < n := by
      have := p.2
      rw [qi_I (by omega)] at this
      omega
    rw [m_canLend R hs, bnd_s, b2_if]
    by_cases q : nI D ≤ v (10, 1, 0) s ∧ v (8, 1, 0) s = -1 ∧ v (11, 1, 0) s < nI D
    · rw [if_pos q]
      rw [if_pos q] at ref
      obtain ⟨x, v2, w2, a1, a2, ex, a3, a4, a5⟩ := send_eq R hs (show c < 5 by omega) (nI d)
      refine DO_ok (v' := v2) (w' := w2) ref ?_ (MB_of a5) ?_ ⟨_, _, _, _, _, a3⟩ a4
      · rw [a2, bnd_s, ex, qi_add, if_neg (show ¬ nI (D + d) ≤ 0 from nI_ge (a := 0) (by omega) (by omega)), zb_1, ck_t]
      · rw [ob_k4, c0, c1, c2, a1, bnd_s]
    · rw [if_neg q, zb_0, ck_t]
      rw [if_neg q] at ref
      exact DO_no ref rfl (by decide)
  · rw [if_neg p, zb_0, ck_t]
    rw [if_neg p] at ref
    exact DO_no ref rfl (by decide)
theorem does_5 (R : Rl v 1 (w 1) D n m f dd) {s : Nat} (hi5 : 6 * i + 5 < 168) (h0 : w 10 (6 * i) = nI 120) (t1 : w 10 (6 * i + 1) = nI s) (c0 : v (34, 0, 0) 0 = nI s) (bs : s ≤ 29) : DO v w (nI 5) (f_X7_does (nI i) w) := by
  have hn := R.1.2.1
  have T0 : f_X7_told (nI i) 0 w = some (nI 120) := (m_told (p := 0) rfl (by omega)).trans (congrArg some h0)
  have T1 : f_X7_told (nI i) 1 w = some (nI s) := (m_told (p := 1) rfl (by omega)).trans (congrArg some t1)
  have T2 : f_X7_told (nI i) 2 w = some (w 10 (6 * i + 2)) := m_told (p := 2) rfl (by omega)
  have T3 : f_X7_told (nI i) 3 w = some (w 10 (6 * i + 3)) := m_told (p := 3) rfl (by omega)
  have hd : f_X7_does (nI i) w = ((f_X7_isSinger (nI s) w).bind fun r_244 => (if r_244 = 0 then (ck (zb (0 : Int32)) (some ((0 : Int32), w))) else ((f_X7_its (nI s) (7 : Int32) w).bind fun r_254 => (if r_254 = 0 then ((f_X7_leaves (nI s) w).bind fun r_262 => (if r_262.1 < 0 then (ck (zb (0 : Int32)) (some ((0 : Int32), r_262.2))) else (ck (zb (1 : Int32)) (some ((1 : Int32), r_262.2))))) else (ck (zb (0 : Int32)) (some ((0 : Int32), w))))))) := by
    unfold f_X7_does
    rw [T1, bnd_s, T2, bnd_s, T3, bnd_s, T0, bnd_s, swt_at 18 (by rfl)]
    rfl
  have ref := rf_k5 v
  rw [c0] at ref
  simp only [f_X0_refusalToDismiss, s_has R.2.1.2.2.1 hn, bnd_s, b2_if] at ref
  rw [hd, m_isSinger R.2.1.2.2.2.1 hn, bnd_s, b2_if]
  by_cases p : isI (nI s) n
  · rw [if_pos p]
    have hs : s < n := by
      have := p.2
      rw [qi_I (by omega)] at this
      omega
    have w7 : f_X7_its (nI s) 7 w = some (w 1 (13 + 13 * s + 7)) := m_its (j := 7) (by omega) (by omega) _
    rw [if_pos p, s_hasLeft 1 (by omega), bnd_s, R.2.1.1, b2_if] at ref
    rw [w7, bnd_s, i2b _ _ (left_iff R hs).2]
    by_cases q : nI D ≤ v (10, 1, 0) s
    · rw [if_pos q]
      rw [if_neg (fun z => z q)] at ref
      obtain ⟨x, v2, w2, a1, a2, a3, a4, a5⟩ := dismiss_eq R hs
      have hx : ¬ nI x < 0 := by
        have h1 := a2
        unfold f_X7_leaves at h1
        obtain ⟨u, e1, e2⟩ := Option.bind_eq_some_iff.mp h1
        obtain ⟨y, e3, e4⟩ := Option.bind_eq_some_iff.mp e2
        have e5 := Prod.mk.inj (Option.some.inj e4)
        rw [e5.2, m_there a3] at e3
        rw [← e5.1, ← Option.some.inj e3]
        have := qc_le (inC v2 1 D) n
        exact nI_nlt (b := 0) (by omega) (by omega)
      refine DO_ok (v' := v2) (w' := w2) ref ?_ (MB_of a5) ?_ ⟨_, _, _, _, _, a3⟩ a4
      · rw [a2, bnd_s, if_neg hx, zb_1, ck_t]
      · rw [ob_k5, c0, a1, bnd_s]
    · rw [if_neg q, zb_0, ck_t]
      rw [if_pos q] at ref
      exact DO_no ref rfl (by decide)
  · rw [if_neg p, zb_0, ck_t]
    rw [if_neg p] at ref
    exact DO_no ref rfl (by decide)
theorem does_6 (R : Rl v 1 (w 1) D n m f dd) {d : Nat} (hi5 : 6 * i + 5 < 168) (h0 : w 10 (6 * i) = nI 116) (t1 : w 10 (6 * i + 1) = nI d) (c0 : v (34, 0, 0) 0 = nI d) (bd : 1 ≤ d ∧ d ≤ 99) : DO v w (nI 6) (f_X7_does (nI i) w) := by
  have hD := R.1.1
  have T0 : f_X7_told (nI i) 0 w = some (nI 116) := (m_told (p := 0) rfl (by omega)).trans (congrArg some h0)
  have T1 : f_X7_told (nI i) 1 w = some (nI d) := (m_told (p := 1) rfl (by omega)).trans (congrArg some t1)
  have T2 : f_X7_told (nI i) 2 w = some (w 10 (6 * i + 2)) := m_told (p := 2) rfl (by omega)
  have T3 : f_X7_told (nI i) 3 w = some (w 10 (6 * i + 3)) := m_told (p := 3) rfl (by omega)
  have q2 : 1 ≤ nI d ∧ nI d ≤ 99 := ⟨nI_le (a := 1) bd.1 (by omega), nI_le (b := 99) bd.2 (by omega)⟩
  have hd : f_X7_does (nI i) w = (ck (inb (0 : Int32) 1483) (if (9999 : Int32) < ((w 1 (ix (0 : Int32))) + nI d) then (ck (zb (0 : Int32)) (some ((0 : Int32), w))) else ((f_X7_passesMany (nI d) w).bind fun r_290 => (if r_290.1 < 0 then (ck (zb (0 : Int32)) (some ((0 : Int32), r_290.2))) else (ck (zb (1 : Int32)) (some ((1 : Int32), r_290.2))))))) := by
    unfold f_X7_does
    rw [T1, bnd_s, T2, bnd_s, T3, bnd_s, T0, bnd_s, swt_at 14 (by rfl)]
    rfl
  have ref := rf_k6 v
  rw [c0] at ref
  simp only [f_X0_refusalToAdvance, s_within, bnd_s, b2_if, R.2.1.1] at ref
  rw [if_pos q2, qi_add] at ref
  rw [hd, inb_0, ck_t, ix_0, R.2.1.2.1, qi_add]
  by_cases q : D + d ≤ 9999
  · rw [if_neg (show ¬ 9999 < nI (D + d) from nI_nlt (a := 9999) q (by omega))]
    rw [if_pos (show nI (D + d) ≤ 9999 from nI_le (b := 9999) q (by omega))] at ref
    obtain ⟨c, v2, w2, a1, a2, a3, a4, a5, a6⟩ := days_eq2 R bd.2 q
    refine DO_ok (v' := v2) (w' := w2) ref ?_ a5 ?_ ⟨_, _, _, _, _, a3⟩ a4
    · rw [a2, bnd_s, if_neg (show ¬ nI c < 0 from nI_nlt (b := 0) (by omega) (by omega)), zb_1, ck_t]
    · rw [ob_k6, c0, a1, bnd_s]
  · rw [if_pos (show 9999 < nI (D + d) from nI_lt (a := 9999) (by omega) (by omega)), zb_0, ck_t]
    rw [if_neg (show ¬ nI (D + d) ≤ 9999 from nI_ge (a := 9999) (by omega) (by omega))] at ref
    exact DO_no ref rfl (by decide)
end Does
