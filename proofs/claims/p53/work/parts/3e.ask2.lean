/-! CALLS THAT ASK: of feasts and lineups -/
section Ask2
variable {v : mC} {w : mM} {D n m f : Nat} {dd : Nat → Nat}
theorem op_frm {cd : Nat → Nat} {F : Option (Int32 × Nat × mC)} {G : Option (Int32 × mM)} {x : Int32} {v' : mC} {w' : mM} (h : IV v w) (hF : F = some (x, 0, v')) (hG : G = some (x, w')) (hc : CF v v') (hm : MF (up w 0 12 0) w') (h0 : cd 0 = 0) : Op cd F G :=
  op_ok hF hG h0 (by rw [hm 0 (by omega), th_12]) (IV_ask hc (fun z hz _ => hm z hz) (fun i _ => by rw [hm 0 (by omega)]) (IV_th 0 h))
theorem MF_7 {w w' : mM} (h : ∀ z, z ≠ 5 → z ≠ 6 → z ≠ 7 → w' z = w z) : MF w w' := fun z hz => h z (by omega) (by omega) (by omega)
theorem nn_le (x : Nat) (hx : x < 2147483648) : (0 : Int32) ≤ nI x := nI_le (a := 0) (Nat.zero_le _) hx
theorem rf_1 {cd : Nat → Nat} {F : Option (Int32 × Nat × mC)} {G : Option (Int32 × mM)} (h : IV v w) (hF : F = some (0, 1, v)) (hG : G = some (0, up (up w 0 12 0) 0 12 1)) (hc : cd 1 = 1) : Op cd F G := op_ref (k := 1) (c := 1) h hF hG (by omega) (by omega) hc (by omega)
theorem rf_3 {cd : Nat → Nat} {F : Option (Int32 × Nat × mC)} {G : Option (Int32 × mM)} (h : IV v w) (hF : F = some (0, 3, v)) (hG : G = some (0, up (up w 0 12 0) 0 12 2)) (hc : cd 3 = 2) : Op cd F G := op_ref (k := 3) (c := 2) h hF hG (by omega) (by omega) hc (by omega)
theorem op_dayOf (h : IV v w) (x1 : Int32) : Op c1 (f_X6_dayOf x1 v) (f_X7_dayOf x1 w) := by
  obtain ⟨D, n, m, f, dd, R⟩ := h.1
  have hn := R.1.2.1
  have hf := R.1.2.2.2
  have hD := R.1.1
  have R1 := th_R R 0
  have mF := fun x => m_isFeast (n := f) (w := up w 0 12 0) R1.2.1.2.2.2.2.2.2.2 hf x
  have mS := fun x => m_isSinger (n := n) (w := up w 0 12 0) R1.2.1.2.2.2.1 hn x
  by_cases p : isI x1 f
  · obtain ⟨j, hj, rfl⟩ := isI_of p
    have hd := (R.2.2.2.2.1 j hj).1
    have hd1 := (R1.2.2.2.2.1 j hj).1
    refine op_ask (x := nI (dd j)) h ?_ ?_ rfl
    · unfold f_X6_dayOf
      rw [reqF_t R p, qi_inb (show j < 20 by omega) (by omega), ck_t, qi_ix (by omega), hd.2.2.2]
    · simp only [f_X7_dayOf, lt_e, mF, bnd_s, b2_if, m_dayAt (show j < 20 by omega), hd1.2.2.1]
      rw [if_pos p]
  · refine rf_1 h ?_ ?_ rfl
    · unfold f_X6_dayOf
      try simp only [jn_e]
      exact reqF_f R p _
    · have n10 : ¬ (1 : Int32) = 0 := by decide
      simp only [f_X7_dayOf, f_X7_toCome, lt_e, mF, bnd_s, b2_if, m_ref, if_neg p, n10, if_false]
      try rfl
theorem op_isHeld (h : IV v w) (x1 : Int32) : Op c1 (f_X6_isHeld x1 v) (f_X7_isHeld x1 w) := by
  obtain ⟨D, n, m, f, dd, R⟩ := h.1
  have hn := R.1.2.1
  have hf := R.1.2.2.2
  have hD := R.1.1
  have R1 := th_R R 0
  have mF := fun x => m_isFeast (n := f) (w := up w 0 12 0) R1.2.1.2.2.2.2.2.2.2 hf x
  have mS := fun x => m_isSinger (n := n) (w := up w 0 12 0) R1.2.1.2.2.2.1 hn x
  by_cases p : isI x1 f
  · obtain ⟨j, hj, rfl⟩ := isI_of p
    have hd := (R.2.2.2.2.1 j hj).1
    have hd1 := (R1.2.2.2.2.1 j hj).1
    refine op_ask (x := b2 (¬ nI D < nI (dd j))) h ?_ ?_ rfl
    · unfold f_X6_isHeld
      rw [reqF_t R p, s_held 0 (by omega), bnd_s, zb_b, ck_t, R.2.1.1, hd.2.2.2]
    · simp only [f_X7_isHeld, lt_e, mF, bnd_s, b2_if, m_held (show j < 20 by omega), zb_b, ck_t, R1.2.1.2.1, hd1.2.2.1]
      rw [if_pos p]
  · refine rf_1 h ?_ ?_ rfl
    · unfold f_X6_isHeld
      try simp only [jn_e]
      exact reqF_f R p _
    · have n10 : ¬ (1 : Int32) = 0 := by decide
      simp only [f_X7_isHeld, f_X7_toCome, lt_e, mF, bnd_s, b2_if, m_ref, if_neg p, n10, if_false]
      try rfl
theorem op_shortfall (h : IV v w) (x1 : Int32) : Op c1 (f_X6_shortfall x1 v) (f_X7_shortfall x1 w) := by
  obtain ⟨D, n, m, f, dd, R⟩ := h.1
  have hn := R.1.2.1
  have hf := R.1.2.2.2
  have hD := R.1.1
  have R1 := th_R R 0
  have mF := fun x => m_isFeast (n := f) (w := up w 0 12 0) R1.2.1.2.2.2.2.2.2.2 hf x
  have mS := fun x => m_isSinger (n := n) (w := up w 0 12 0) R1.2.1.2.2.2.1 hn x
  by_cases p : isI x1 f
  · obtain ⟨j, hj, rfl⟩ := isI_of p
    have hd := (R.2.2.2.2.1 j hj).1
    have hd1 := (R1.2.2.2.2.1 j hj).1
    obtain ⟨v', s1, s2, s3, s4⟩ := s_tell R hj
    obtain ⟨w', m1, m2, m3⟩ := m_tells R1 hj
    have hq := qc_le (fun i => decide (tL v 0 D n m j (dd j) i = -1)) 30
    have R' : Rl v' 0 (w 1) D n m f dd := Rl_F (w' := w) R s2 rfl
    have eP : fP v' 0 j = fP v 0 j := funext fun l => by
      show ix (v' (26, 0, j) l) = ix (v (26, 0, j) l)
      rw [s2 (26, 0, j) (by show 26 < 36; omega)]
    have hall : f_X3_countAll v' = some (nI (30 - qc (fun i => decide (tL v 0 D n m j (dd j) i = -1)) 30)) := by
      rw [s_countAll, qc_cong (q := fun i => decide (tL v 0 D n m j (dd j) i = -1)) (fun k hk => by rw [s4 k hk])]
    refine op_frm (v' := v') (w' := w') (x := nI (qs (fP v 0 j) 4) - nI (30 - qc (fun i => decide (tL v 0 D n m j (dd j) i = -1)) 30)) h ?_ ?_ s2 (MF_7 m2) rfl
    · unfold f_X6_shortfall
      rw [reqF_t R p, s1, bnd_s, s_allP R' hj, bnd_s, hall, bnd_s, eP]
    · simp only [f_X7_shortfall, lt_e, mF, bnd_s, b2_if, m_allP R1 hj, m1]
      rw [if_pos p]
  · refine rf_1 h ?_ ?_ rfl
    · unfold f_X6_shortfall
      try simp only [jn_e]
      exact reqF_f R p _
    · have n10 : ¬ (1 : Int32) = 0 := by decide
      simp only [f_X7_shortfall, f_X7_toCome, lt_e, mF, bnd_s, b2_if, m_ref, if_neg p, n10, if_false]
      try rfl
theorem op_shortfallBySets (h : IV v w) (x1 : Int32) : Op c13 (f_X6_shortfallBySets x1 v) (f_X7_shortfallBySets x1 w) := by
  obtain ⟨D, n, m, f, dd, R⟩ := h.1
  have hn := R.1.2.1
  have hf := R.1.2.2.2
  have hD := R.1.1
  have R1 := th_R R 0
  have mF := fun x => m_isFeast (n := f) (w := up w 0 12 0) R1.2.1.2.2.2.2.2.2.2 hf x
  have mS := fun x => m_isSinger (n := n) (w := up w 0 12 0) R1.2.1.2.2.2.1 hn x
  by_cases p : isI x1 f
  · obtain ⟨j, hj, rfl⟩ := isI_of p
    have hd := (R.2.2.2.2.1 j hj).1
    have hd1 := (R1.2.2.2.2.1 j hj).1
    by_cases q : nI D < nI (dd j)
    · have q2 : D < dd j := (qi_nlt (by omega) (by omega)).mp q
      have hS := s_lackN R hj
      obtain ⟨w', m1, m2, -⟩ := m_missing R1 hj (by omega)
      refine op_frm (w' := w') h ?_ ?_ (fun z hz => funext fun i => rowT_ne _ _ _ _ (fun e => by rw [e] at hz; exact absurd hz (by decide))) (fun z hz => m2 z (by omega) (by omega)) rfl (v' := rowT v (37, 0, 0) (fun s => nI (fM v 0 m j (nI (dd j)) s)) n) (x := nI (lackS (fM v 0 m j (nI (dd j))) n (fP v 0 j)))
      · unfold f_X6_shortfallBySets
        rw [jn_e, reqF_t R p, s_held 0 (by omega), bnd_s, b2_if, R.2.1.1, hd.2.2.2, if_neg (fun z => z q)]
        simp only [rf0, hS, bnd_s]
      · simp only [f_X7_shortfallBySets, f_X7_toCome, lt_e, mF, bnd_s, b2_if, if_pos p, m_held (show j < 20 by omega), R1.2.1.2.1, hd1.2.2.1, not_true_eq_false, q, if_true, if_false, m1]
    · refine rf_3 h ?_ ?_ rfl
      · unfold f_X6_shortfallBySets
        rw [jn_e, reqF_t R p, s_held 0 (by omega), bnd_s, b2_if, R.2.1.1, hd.2.2.2, if_pos q]
        simp only [rf3]
      · have n20 : ¬ (2 : Int32) = 0 := by decide
        simp only [f_X7_shortfallBySets, f_X7_toCome, lt_e, mF, bnd_s, b2_if, if_pos p, m_held (show j < 20 by omega), R1.2.1.2.1, hd1.2.2.1, q, not_false_eq_true, if_true, n20, if_false, m_ref]
  · refine rf_1 h ?_ ?_ rfl
    · unfold f_X6_shortfallBySets
      try simp only [jn_e]
      exact reqF_f R p _
    · have n10 : ¬ (1 : Int32) = 0 := by decide
      simp only [f_X7_shortfallBySets, f_X7_toCome, lt_e, mF, bnd_s, b2_if, m_ref, if_neg p, n10, if_false]
      try rfl
theorem op_neededLine (h : IV v w) (x1 : Int32) : Op c13 (f_X6_neededLine x1 v) (f_X7_neededLine x1 w) := by
  obtain ⟨D, n, m, f, dd, R⟩ := h.1
  have hn := R.1.2.1
  have hf := R.1.2.2.2
  have hD := R.1.1
  have R1 := th_R R 0
  have mF := fun x => m_isFeast (n := f) (w := up w 0 12 0) R1.2.1.2.2.2.2.2.2.2 hf x
  have mS := fun x => m_isSinger (n := n) (w := up w 0 12 0) R1.2.1.2.2.2.1 hn x
  by_cases p : isI x1 f
  · obtain ⟨j, hj, rfl⟩ := isI_of p
    have hd := (R.2.2.2.2.1 j hj).1
    have hd1 := (R1.2.2.2.2.1 j hj).1
    by_cases q : nI D < nI (dd j)
    · have q2 : D < dd j := (qi_nlt (by omega) (by omega)).mp q
      have hS := s_lackN R hj
      obtain ⟨w', m1, m2⟩ := m_needed R1 hj (by omega)
      obtain ⟨v', s1, s2⟩ := s_needL R hj
      refine op_frm (w' := w') (v' := v') h ?_ ?_ s2 (fun z hz => m2 z (by omega) (by omega)) rfl (x := if qf (ndC (fM v 0 m j (nI (dd j))) n (fP v 0 j)) 4 < 4 then nI (qf (ndC (fM v 0 m j (nI (dd j))) n (fP v 0 j)) 4) else -1)
      · unfold f_X6_neededLine
        rw [jn_e, reqF_t R p, s_held 0 (by omega), bnd_s, b2_if, R.2.1.1, hd.2.2.2, if_neg (fun z => z q)]
        simp only [rf0, hS, bnd_s]
        exact s1
      · simp only [f_X7_neededLine, f_X7_toCome, lt_e, mF, bnd_s, b2_if, if_pos p, m_held (show j < 20 by omega), R1.2.1.2.1, hd1.2.2.1, not_true_eq_false, q, if_true, if_false, m1]
    · refine rf_3 h ?_ ?_ rfl
      · unfold f_X6_neededLine
        rw [jn_e, reqF_t R p, s_held 0 (by omega), bnd_s, b2_if, R.2.1.1, hd.2.2.2, if_pos q]
        simp only [rf3]
      · have n20 : ¬ (2 : Int32) = 0 := by decide
        simp only [f_X7_neededLine, f_X7_toCome, lt_e, mF, bnd_s, b2_if, if_pos p, m_held (show j < 20 by omega), R1.2.1.2.1, hd1.2.2.1, q, not_false_eq_true, if_true, n20, if_false, m_ref]
  · refine rf_1 h ?_ ?_ rfl
    · unfold f_X6_neededLine
      try simp only [jn_e]
      exact reqF_f R p _
    · have n10 : ¬ (1 : Int32) = 0 := by decide
      simp only [f_X7_neededLine, f_X7_toCome, lt_e, mF, bnd_s, b2_if, m_ref, if_neg p, n10, if_false]
      try rfl
theorem op_descantIn (h : IV v w) (x1 : Int32) : Op c1 (f_X6_descantIn x1 v) (f_X7_descantIn x1 w) := by
  obtain ⟨D, n, m, f, dd, R⟩ := h.1
  have hn := R.1.2.1
  have hf := R.1.2.2.2
  have hD := R.1.1
  have R1 := th_R R 0
  have mF := fun x => m_isFeast (n := f) (w := up w 0 12 0) R1.2.1.2.2.2.2.2.2.2 hf x
  have mS := fun x => m_isSinger (n := n) (w := up w 0 12 0) R1.2.1.2.2.2.1 hn x
  by_cases p : isI x1 f
  · obtain ⟨j, hj, rfl⟩ := isI_of p
    have hd := (R.2.2.2.2.1 j hj).1
    have hd1 := (R1.2.2.2.2.1 j hj).1
    by_cases q : nI D < nI (dd j)
    · have q2 : D < dd j := (qi_nlt (by omega) (by omega)).mp q
      obtain ⟨r, v', w', s1, m1, s2, m2⟩ := come_eq R1 hj q2
      refine op_frm (w' := w') (v' := v') (x := r) h ?_ ?_ s2 m2 rfl
      · unfold f_X6_descantIn
        rw [reqF_t R p, s_held 0 (by omega), bnd_s, b2_if, R.2.1.1, hd.2.2.2, if_neg (fun z => z q), s1, bnd_s]
      · simp only [f_X7_descantIn, lt_e, mF, bnd_s, b2_if, if_pos p, m_held (show j < 20 by omega), R1.2.1.2.1, hd1.2.2.1, q, not_true_eq_false, if_false, m1]
    · have q2 : dd j ≤ D := by
        rw [qi_nlt (by omega) (by omega)] at q
        omega
      have ea : ((583 : Int32) + 45 * nI j) + 14 = nI (597 + 45 * j) := by
        rw [show (583 : Int32) = nI 583 from rfl, show (45 : Int32) = nI 45 from rfl, show (14 : Int32) = nI 14 from rfl, qi_mul, qi_add, qi_add]
        exact congrArg nI (by omega)
      refine op_ask (x := v (21, 0, 0) j) h ?_ ?_ rfl
      · unfold f_X6_descantIn
        rw [reqF_t R p, s_held 0 (by omega), bnd_s, b2_if, R.2.1.1, hd.2.2.2, if_pos q, qi_inb (show j < 20 by omega) (by omega), ck_t, qi_ix (by omega)]
      · simp (disch := omega) only [f_X7_descantIn, lt_e, mF, bnd_s, b2_if, if_pos p, m_held (show j < 20 by omega), R1.2.1.2.1, hd1.2.2.1, q, not_false_eq_true, if_true, ea, qi_inb, qi_ix, ck_t]
        rw [((R1.2.2.2.2.1 j hj).2.2.2 q2).1]
  · refine rf_1 h ?_ ?_ rfl
    · unfold f_X6_descantIn
      try simp only [jn_e]
      exact reqF_f R p _
    · have n10 : ¬ (1 : Int32) = 0 := by decide
      simp only [f_X7_descantIn, f_X7_toCome, lt_e, mF, bnd_s, b2_if, m_ref, if_neg p, n10, if_false]
      try rfl
theorem op_lineOf (h : IV v w) (x1 x2 : Int32) : Op c1 (f_X6_lineOf x1 x2 v) (f_X7_lineOf x1 x2 w) := by
  obtain ⟨D, n, m, f, dd, R⟩ := h.1
  have hn := R.1.2.1
  have hf := R.1.2.2.2
  have hD := R.1.1
  have R1 := th_R R 0
  have mF := fun x => m_isFeast (n := f) (w := up w 0 12 0) R1.2.1.2.2.2.2.2.2.2 hf x
  have mS := fun x => m_isSinger (n := n) (w := up w 0 12 0) R1.2.1.2.2.2.1 hn x
  by_cases p : isI x1 f
  · by_cases p2 : isI x2 n
    · obtain ⟨j, hj, rfl⟩ := isI_of p
      obtain ⟨s, hs, rfl⟩ := isI_of p2
      obtain ⟨v', s1, s2, s3, s4⟩ := s_tell R hj
      obtain ⟨w', m1, m2, m3⟩ := m_tells R1 hj
      have hq := qc_le (fun i => decide (tL v 0 D n m j (dd j) i = -1)) 30
      refine op_frm (v' := v') (w' := w') (x := tL v 0 D n m j (dd j) s) h ?_ ?_ s2 (MF_7 m2) rfl
      · unfold f_X6_lineOf
        rw [reqF_t R p, reqS_t R p2, s1, bnd_s, qi_inb (show s < 30 by omega) (by omega), ck_t, qi_ix (by omega), s4 s (by omega)]
      · simp (disch := omega) only [f_X7_lineOf, jn_e, lt_e, mF, mS, bnd_s, b2_if, m1, if_pos p, if_pos p2, nn_le, if_true, qi_inb, qi_ix, ck_t, m3]
    · refine rf_1 h ?_ ?_ rfl
      · unfold f_X6_lineOf
        rw [reqF_t R p]
        exact reqS_f R p2 _
      · simp only [f_X7_lineOf, jn_e, lt_e, mF, mS, bnd_s, b2_if, m_ref, if_pos p, if_neg p2]
  · refine rf_1 h ?_ ?_ rfl
    · unfold f_X6_lineOf
      exact reqF_f R p _
    · simp only [f_X7_lineOf, jn_e, lt_e, mF, bnd_s, b2_if, m_ref, if_neg p]
theorem op_pewOf (h : IV v w) (x1 x2 : Int32) : Op c1 (f_X6_pewOf x1 x2 v) (f_X7_pewOf x1 x2 w) := by
  obtain ⟨D, n, m, f, dd, R⟩ := h.1
  have hn := R.1.2.1
  have hf := R.1.2.2.2
  have hD := R.1.1
  have R1 := th_R R 0
  have mF := fun x => m_isFeast (n := f) (w := up w 0 12 0) R1.2.1.2.2.2.2.2.2.2 hf x
  have mS := fun x => m_isSinger (n := n) (w := up w 0 12 0) R1.2.1.2.2.2.1 hn x
  by_cases p : isI x1 f
  · by_cases p2 : isI x2 n
    · obtain ⟨j, hj, rfl⟩ := isI_of p
      obtain ⟨s, hs, rfl⟩ := isI_of p2
      obtain ⟨v', s1, s2, s3, s4⟩ := s_tell R hj
      obtain ⟨w', m1, m2⟩ := m_ahead R1 hj hs
      have R' : Rl v' 0 (w 1) D n m f dd := Rl_F (w' := w) R s2 rfl
      have hrk := s_rank R' s4 hs
      have e3 : rkP v' 0 (tL v 0 D n m j (dd j)) s = rkP v 0 (tL v 0 D n m j (dd j)) s := funext fun k => by
        unfold rkP
        rw [s2 (3, 0, 0) (by show 3 < 36; omega)]
      rw [e3] at hrk
      have hX := qc_le (rkP v 0 (tL v 0 D n m j (dd j)) s) n
      generalize qc (rkP v 0 (tL v 0 D n m j (dd j)) s) n = X at *
      by_cases q : tL v 0 D n m j (dd j) s = -1
      · rw [if_pos q] at hrk m1
        refine op_frm (v' := v') (w' := w') (x := -1) h ?_ ?_ s2 (MF_7 m2) rfl
        · unfold f_X6_pewOf
          rw [reqF_t R p, reqS_t R p2, s1, bnd_s, hrk, bnd_s, if_pos rfl]
        · simp only [f_X7_pewOf, jn_e, lt_e, mF, mS, bnd_s, b2_if, m1, if_pos p, if_pos p2, if_true]
      · rw [if_neg q] at hrk m1
        refine op_frm (v' := v') (w' := w') (x := nI X / 2) h ?_ ?_ s2 (MF_7 m2) rfl
        · unfold f_X6_pewOf
          rw [reqF_t R p, reqS_t R p2, s1, bnd_s, hrk, bnd_s, if_neg (qi_nM (by omega))]
        · simp only [f_X7_pewOf, jn_e, lt_e, mF, mS, bnd_s, b2_if, m1, if_pos p, if_pos p2]
          rw [if_neg (qi_nM (by omega))]
    · refine rf_1 h ?_ ?_ rfl
      · unfold f_X6_pewOf
        rw [reqF_t R p]
        exact reqS_f R p2 _
      · simp only [f_X7_pewOf, jn_e, lt_e, mF, mS, bnd_s, b2_if, m_ref, if_pos p, if_neg p2]
  · refine rf_1 h ?_ ?_ rfl
    · unfold f_X6_pewOf
      exact reqF_f R p _
    · simp only [f_X7_pewOf, jn_e, lt_e, mF, bnd_s, b2_if, m_ref, if_neg p]
theorem op_seatOf (h : IV v w) (x1 x2 : Int32) : Op c1 (f_X6_seatOf x1 x2 v) (f_X7_seatOf x1 x2 w) := by
  obtain ⟨D, n, m, f, dd, R⟩ := h.1
  have hn := R.1.2.1
  have hf := R.1.2.2.2
  have hD := R.1.1
  have R1 := th_R R 0
  have mF := fun x => m_isFeast (n := f) (w := up w 0 12 0) R1.2.1.2.2.2.2.2.2.2 hf x
  have mS := fun x => m_isSinger (n := n) (w := up w 0 12 0) R1.2.1.2.2.2.1 hn x
  by_cases p : isI x1 f
  · by_cases p2 : isI x2 n
    · obtain ⟨j, hj, rfl⟩ := isI_of p
      obtain ⟨s, hs, rfl⟩ := isI_of p2
      obtain ⟨v', s1, s2, s3, s4⟩ := s_tell R hj
      obtain ⟨w', m1, m2⟩ := m_ahead R1 hj hs
      have R' : Rl v' 0 (w 1) D n m f dd := Rl_F (w' := w) R s2 rfl
      have hrk := s_rank R' s4 hs
      have e3 : rkP v' 0 (tL v 0 D n m j (dd j)) s = rkP v 0 (tL v 0 D n m j (dd j)) s := funext fun k => by
        unfold rkP
        rw [s2 (3, 0, 0) (by show 3 < 36; omega)]
      rw [e3] at hrk
      have hX := qc_le (rkP v 0 (tL v 0 D n m j (dd j)) s) n
      generalize qc (rkP v 0 (tL v 0 D n m j (dd j)) s) n = X at *
      by_cases q : tL v 0 D n m j (dd j) s = -1
      · rw [if_pos q] at hrk m1
        refine op_frm (v' := v') (w' := w') (x := -1) h ?_ ?_ s2 (MF_7 m2) rfl
        · unfold f_X6_seatOf
          rw [reqF_t R p, reqS_t R p2, s1, bnd_s, hrk, bnd_s, if_pos rfl]
        · simp only [f_X7_seatOf, jn_e, lt_e, mF, mS, bnd_s, b2_if, m1, if_pos p, if_pos p2, if_true]
      · rw [if_neg q] at hrk m1
        refine op_frm (v' := v') (w' := w') (x := nI X - nI X / 2 * 2) h ?_ ?_ s2 (MF_7 m2) rfl
        · unfold f_X6_seatOf
          rw [reqF_t R p, reqS_t R p2, s1, bnd_s, hrk, bnd_s, if_neg (qi_nM (by omega))]
        · simp only [f_X7_seatOf, jn_e, lt_e, mF, mS, bnd_s, b2_if, m1, if_pos p, if_pos p2]
          rw [if_neg (qi_nM (by omega))]
    · refine rf_1 h ?_ ?_ rfl
      · unfold f_X6_seatOf
        rw [reqF_t R p]
        exact reqS_f R p2 _
      · simp only [f_X7_seatOf, jn_e, lt_e, mF, mS, bnd_s, b2_if, m_ref, if_pos p, if_neg p2]
  · refine rf_1 h ?_ ?_ rfl
    · unfold f_X6_seatOf
      exact reqF_f R p _
    · simp only [f_X7_seatOf, jn_e, lt_e, mF, bnd_s, b2_if, m_ref, if_neg p]
theorem op_singersIn (h : IV v w) (x1 x2 : Int32) : Op c1 (f_X6_singersIn x1 x2 v) (f_X7_singersIn x1 x2 w) := by
  obtain ⟨D, n, m, f, dd, R⟩ := h.1
  have hn := R.1.2.1
  have hf := R.1.2.2.2
  have hD := R.1.1
  have R1 := th_R R 0
  have mF := fun x => m_isFeast (n := f) (w := up w 0 12 0) R1.2.1.2.2.2.2.2.2.2 hf x
  have mS := fun x => m_isSinger (n := n) (w := up w 0 12 0) R1.2.1.2.2.2.1 hn x
  by_cases p : isI x1 f
  · by_cases p2 : 0 ≤ x2 ∧ x2 ≤ 3
    · obtain ⟨j, hj, rfl⟩ := isI_of p
      obtain ⟨l, -, hl, rfl⟩ := rg_of (a := 0) (b := 3) p2 (by omega) (by omega)
      obtain ⟨v', s1, s2, s3, s4⟩ := s_tell R hj
      obtain ⟨w', m1, m2⟩ := m_inLine R1 hj (nI l)
      refine op_frm (v' := v') (w' := w') (x := nI (qc (fun i => decide (tL v 0 D n m j (dd j) i = nI l)) 30)) h ?_ ?_ s2 (MF_7 m2) rfl
      · unfold f_X6_singersIn
        rw [reqF_t R p, reqL_t v p2, s1, bnd_s, s_countIn, bnd_s, qc_cong (q := fun i => decide (tL v 0 D n m j (dd j) i = nI l)) (fun k hk => by rw [s4 k hk])]
      · simp only [f_X7_singersIn, jn_e, lt_e, mF, m_isLine, bnd_s, b2_if, m1, if_pos p, if_pos p2]
    · refine rf_1 h ?_ ?_ rfl
      · unfold f_X6_singersIn
        rw [reqF_t R p]
        exact reqL_f v p2 _
      · simp only [f_X7_singersIn, jn_e, lt_e, mF, m_isLine, bnd_s, b2_if, m_ref, if_pos p, if_neg p2]
  · refine rf_1 h ?_ ?_ rfl
    · unfold f_X6_singersIn
      exact reqF_f R p _
    · simp only [f_X7_singersIn, jn_e, lt_e, mF, bnd_s, b2_if, m_ref, if_neg p]
theorem op_placesIn (h : IV v w) (x1 x2 : Int32) : Op c1 (f_X6_placesIn x1 x2 v) (f_X7_placesIn x1 x2 w) := by
  obtain ⟨D, n, m, f, dd, R⟩ := h.1
  have hn := R.1.2.1
  have hf := R.1.2.2.2
  have hD := R.1.1
  have R1 := th_R R 0
  have mF := fun x => m_isFeast (n := f) (w := up w 0 12 0) R1.2.1.2.2.2.2.2.2.2 hf x
  have mS := fun x => m_isSinger (n := n) (w := up w 0 12 0) R1.2.1.2.2.2.1 hn x
  by_cases p : isI x1 f
  · by_cases p2 : 0 ≤ x2 ∧ x2 ≤ 3
    · obtain ⟨j, hj, rfl⟩ := isI_of p
      obtain ⟨l, -, hl, rfl⟩ := rg_of (a := 0) (b := 3) p2 (by omega) (by omega)
      have hP := fP_ok R hj (show l < 4 by omega)
      have hP1 := fP_ok R1 hj (show l < 4 by omega)
      refine op_ask (x := nI (fP v 0 j l)) h ?_ ?_ rfl
      · unfold f_X6_placesIn
        rw [reqF_t R p, reqL_t v p2, qi_inb (show j < 20 by omega) (by omega), ck_t, qi_inb (show l < 4 by omega) (by omega), ck_t, qi_ix (by omega), qi_ix (by omega), hP.2.1]
      · simp only [f_X7_placesIn, jn_e, lt_e, mF, m_isLine, bnd_s, b2_if, if_pos p, if_pos p2, m_places (show j < 20 by omega) (show l < 4 by omega), hP1.2.2]
    · refine rf_1 h ?_ ?_ rfl
      · unfold f_X6_placesIn
        rw [reqF_t R p]
        exact reqL_f v p2 _
      · simp only [f_X7_placesIn, jn_e, lt_e, mF, m_isLine, bnd_s, b2_if, m_ref, if_pos p, if_neg p2]
  · refine rf_1 h ?_ ?_ rfl
    · unfold f_X6_placesIn
      exact reqF_f R p _
    · simp only [f_X7_placesIn, jn_e, lt_e, mF, bnd_s, b2_if, m_ref, if_neg p]
theorem op_firstShortFeast (h : IV v w) : OpN (f_X6_firstShortFeast v) (f_X7_firstShortFeast w) := by
  obtain ⟨D, n, m, f, dd, R⟩ := h.1
  have R1 := th_R R 0
  have hf := R.1.2.2.2
  have hD := R.1.1
  have hr := rem_le dd f D
  obtain ⟨r, v', w', g1, g2, g3, g4⟩ := fsf (rem dd f D) D v (up w 0 12 0) 0 8192 8192 (Nat.le_refl _) (by omega) (by omega) (by omega) (Nat.le_refl _) hD R1
  refine ⟨r, v', w', ?_, ?_, IV_ask g3 (fun z hz _ => g4 z hz) (fun i _ => by rw [g4 0 (by omega)]) (IV_th 0 h)⟩
  · unfold f_X6_firstShortFeast
    rw [R.2.1.1, s_next R (by omega), bnd_s]
    exact g1
  · unfold f_X7_firstShortFeast
    rw [lt_e, inb_0, ck_t, ix_0, R1.2.1.2.1, m_next R1 (by omega), bnd_s]
    exact g2
theorem op_favoursOf (h : IV v w) (x1 : Int32) : Op c1 (f_X6_favoursOf x1 v) (f_X7_favoursOf x1 w) := by
  obtain ⟨D, n, m, f, dd, R⟩ := h.1
  have R1 := th_R R 0
  by_cases p : 0 ≤ x1 ∧ x1 ≤ 4
  · obtain ⟨c, -, hc, rfl⟩ := rg_of (a := 0) (b := 4) p (by omega) (by omega)
    have e8 : (8 : Int32) + nI c = nI (8 + c) := qi_add 8 c
    refine op_ask (x := v (30, 0, 0) c) h ?_ ?_ rfl
    · simp (disch := omega) only [f_X6_favoursOf, jn_e, s_within, bnd_s, b2_if, if_pos p, rf0, qi_inb, qi_ix, ck_t]
    · simp (disch := omega) only [f_X7_favoursOf, lt_e, m_isChoir, bnd_s, b2_if, if_pos p, e8, qi_inb, qi_ix, ck_t]
      rw [R1.2.2.2.2.2.2.2 c (by omega)]
  · refine rf_1 h ?_ ?_ rfl
    · simp only [f_X6_favoursOf, jn_e, s_within, bnd_s, b2_if, if_neg p, rf1]
    · simp only [f_X7_favoursOf, lt_e, m_isChoir, bnd_s, b2_if, if_neg p, m_ref]
end Ask2
