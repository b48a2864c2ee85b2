/-! CALLS: the snapshot is taken up again -/
section Rest2
variable {v : mC} {w : mM}
theorem op_restoreSnapshot (h : IV v w) : Op c3 (f_X6_restoreSnapshot v) (f_X7_restoreSnapshot w) := by
  have e04 : up w 0 12 0 0 4 = w 0 4 := by rw [up_r, if_neg (by omega)]
  rcases h.2.2.1 with ⟨a1, a2⟩ | ⟨a1, a2, hs⟩
  · refine op_ref (k := 3) (c := 1) (y := 0) h ?_ ?_ (by omega) (by omega) rfl (by omega)
    · unfold f_X6_restoreSnapshot
      rw [jn_e, a1, if_pos rfl]
      simp only [rf3]
    · simp only [f_X7_restoreSnapshot, lt_e, e04, a2, m_ref, bnd_s]
      rw [if_pos trivial]
      rfl
  · obtain ⟨v1, w1, k1, k2, ⟨i1, ⟨k, bk, i2⟩, i3, i4⟩, k4, k5, k6⟩ := keep_IV (IV_th 0 h)
    obtain ⟨D, n, m, f, dd, R⟩ := hs
    have R1 : Rl v1 2 (w1 3) D n m f dd := Rl_x (Ag_eq fun k j i c1 c2 => by rw [k4 (k, 2, j) (kn (by omega) _ _ _ _) (kn (by omega) _ _ _ _) (Or.inr (Or.inr (by show 2 < 3; omega)))]) (fun i _ => by rw [k5 3 (by omega) (by omega), th_1 w 0 (by omega)]) R
    obtain ⟨v2, s1, s2, s3⟩ := s_copy (v := v1) (o := 0) (o1 := 2) (n := n) (m := m) (f := f) (by omega) R1.2.1.2.2.1 R1.2.1.2.2.2.2.1 R1.2.1.2.2.2.2.2.2.1 R1.1.2.1 R1.1.2.2.1 R1.1.2.2.2
    have hl := m_lays (n0 := 1483) (n1 := 1483) (k0 := 3) (k2 := 1) (x1 := 0) (x3 := 0) (by omega) (by omega) (by omega) (by omega) (by omega) w1
    generalize hw2 : (fun z i => if z = 1 ∧ 0 ≤ i ∧ i < 0 + 1483 then w1 3 (0 + (i - 0)) else w1 z i) = w2 at hl
    have c1' : ∀ i, i < 1483 → w2 1 i = w1 3 i := fun i hi => by
      rw [← hw2]
      show (if 1 = 1 ∧ 0 ≤ i ∧ i < 0 + 1483 then w1 3 (0 + (i - 0)) else _) = _
      rw [if_pos ⟨rfl, by omega, by omega⟩, show 0 + (i - 0) = i by omega]
    have co : ∀ z, z ≠ 1 → w2 z = w1 z := fun z hz => by
      rw [← hw2]
      exact funext fun i => if_neg (fun q => hz q.1)
    have R2 : Rl v2 0 (w2 1) D n m f dd := Rl_x s2 c1' R1
    have hiv : IV v2 w2 := IV_act (CB_of s3) (fun z _ hz => co z hz) ⟨D, n, m, f, dd, R2⟩ ⟨i1, ⟨k, bk, i2⟩, i3, i4⟩
    have h12 : w2 0 12 = 0 := by rw [co 0 (by omega), k6 12 (by omega), th_12]
    refine op_ok (x := nI D) (v' := v2) (w' := w2) ?_ ?_ rfl h12 hiv
    · unfold f_X6_restoreSnapshot
      rw [jn_e, a1, if_neg (show ¬ (1 : Int32) = 0 by decide)]
      simp only [rf0]
      rw [k1, bnd_s, s1, bnd_s, R2.2.1.1]
    · simp only [f_X7_restoreSnapshot, lt_e, e04, a2]
      rw [if_neg (show ¬ (1 : Int32) = 0 by decide), k2, bnd_s]
      show (f_X7_lays 1483 1483 3 1 (nI 0) (nI 0) w1).bind _ = _
      rw [hl, bnd_s, inb_0, ck_t, ix_0, R2.2.1.2.1]
end Rest2
