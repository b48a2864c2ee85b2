/-! CALLS THAT ASK: numbers of the book, of a singer -/
def OpV (F : Option Int32) (v : mC) (G : Option (Int32 × mM)) : Prop := ∃ x w', F = some x ∧ G = some (x, w') ∧ IV v w'
def OpN (F : Option (Int32 × mC)) (G : Option (Int32 × mM)) : Prop := ∃ x v' w', F = some (x, v') ∧ G = some (x, w') ∧ IV v' w'
section Ask
variable {v : mC} {w : mM} {D n m f : Nat} {dd : Nat → Nat}
theorem reqS_t (R : Rl v 0 (w 1) D n m f dd) {x : Int32} (p : isI x n) (e : Int32 → mC → Option (Int32 × Nat × mC)) : tb (f_X6_requireSinger x v) e = e 0 v := by
  unfold f_X6_requireSinger
  simp only [jn_e, s_has R.2.1.2.2.1 R.1.2.1, bnd_s, b2_if, if_pos p, rf0]
  rfl
theorem reqS_f (R : Rl v 0 (w 1) D n m f dd) {x : Int32} (p : ¬ isI x n) (e : Int32 → mC → Option (Int32 × Nat × mC)) : tb (f_X6_requireSinger x v) e = some (0, 1, v) := by
  unfold f_X6_requireSinger
  simp only [jn_e, s_has R.2.1.2.2.1 R.1.2.1, bnd_s, b2_if, if_neg p, rf1]
  rfl
theorem reqF_t (R : Rl v 0 (w 1) D n m f dd) {x : Int32} (p : isI x f) (e : Int32 → mC → Option (Int32 × Nat × mC)) : tb (f_X6_requireFeast x v) e = e 0 v := by
  unfold f_X6_requireFeast
  simp only [jn_e, s_hasF R.2.1.2.2.2.2.2.2.1 R.1.2.2.2, bnd_s, b2_if, if_pos p, rf0]
  rfl
theorem reqF_f (R : Rl v 0 (w 1) D n m f dd) {x : Int32} (p : ¬ isI x f) (e : Int32 → mC → Option (Int32 × Nat × mC)) : tb (f_X6_requireFeast x v) e = some (0, 1, v) := by
  unfold f_X6_requireFeast
  simp only [jn_e, s_hasF R.2.1.2.2.2.2.2.2.1 R.1.2.2.2, bnd_s, b2_if, if_neg p, rf1]
  rfl
theorem reqL_t (v : mC) {x : Int32} (p : 0 ≤ x ∧ x ≤ 3) (e : Int32 → mC → Option (Int32 × Nat × mC)) : tb (f_X6_requireLine x v) e = e 0 v := by
  unfold f_X6_requireLine
  simp only [jn_e, s_isLine, bnd_s, b2_if, if_pos p, rf0]
  rfl
theorem reqL_f (v : mC) {x : Int32} (p : ¬ (0 ≤ x ∧ x ≤ 3)) (e : Int32 → mC → Option (Int32 × Nat × mC)) : tb (f_X6_requireLine x v) e = some (0, 1, v) := by
  unfold f_X6_requireLine
  simp only [jn_e, s_isLine, bnd_s, b2_if, if_neg p, rf1]
  rfl
theorem th_R (R : Rl v 0 (w 1) D n m f dd) (c : Int32) : Rl v 0 (up w 0 12 c 1) D n m f dd := by rw [th_1 w c (by omega)]; exact R
theorem th_12 (w : mM) (c : Int32) : up w 0 12 c 0 12 = c := by rw [up_r, if_pos ⟨rfl, rfl⟩]
theorem op_ask {cd : Nat → Nat} {F : Option (Int32 × Nat × mC)} {G : Option (Int32 × mM)} {x : Int32} (h : IV v w) (hF : F = some (x, 0, v)) (hG : G = some (x, up w 0 12 0)) (h0 : cd 0 = 0) : Op cd F G := op_ok hF hG h0 (th_12 w 0) (IV_th 0 h)
theorem op_singers (h : IV v w) : OpV (f_X6_singers v) v (f_X7_singers w) := by
  obtain ⟨D, n, m, f, dd, R⟩ := h.1
  refine ⟨_, _, rfl, ?_, IV_th 0 h⟩
  simp only [f_X7_singers, lt_e, inb_1, ix_1, ck_t, th_1 w 0 (show 1 ≠ 0 by omega)]
  rw [R.2.1.2.2.1, R.2.1.2.2.2.1]
theorem op_feasts (h : IV v w) : OpV (f_X6_feasts v) v (f_X7_feasts w) := by
  obtain ⟨D, n, m, f, dd, R⟩ := h.1
  refine ⟨_, _, rfl, ?_, IV_th 0 h⟩
  simp only [f_X7_feasts, lt_e, inb_3, ix_3, ck_t, th_1 w 0 (show 1 ≠ 0 by omega)]
  rw [R.2.1.2.2.2.2.2.2.1, R.2.1.2.2.2.2.2.2.2]
theorem op_day (h : IV v w) : OpV (f_X6_day v) v (f_X7_day w) := by
  obtain ⟨D, n, m, f, dd, R⟩ := h.1
  refine ⟨_, _, rfl, ?_, IV_th 0 h⟩
  simp only [f_X7_day, lt_e, inb_0, ix_0, ck_t, th_1 w 0 (show 1 ≠ 0 by omega)]
  rw [R.2.1.1, R.2.1.2.1]
theorem inb_5 : inb 5 1483 = true := rfl
theorem ix_5 : ix (5 : Int32) = 5 := rfl
theorem op_collected (h : IV v w) : OpV (f_X6_collected v) v (f_X7_collected w) := by
  obtain ⟨D, n, m, f, dd, R⟩ := h.1
  refine ⟨_, _, rfl, ?_, IV_th 0 h⟩
  simp only [f_X7_collected, lt_e, inb_4, ix_4, ck_t, th_1 w 0 (show 1 ≠ 0 by omega)]
  rw [R.2.2.2.2.2.2.1.1]
theorem op_fees (h : IV v w) : OpV (f_X6_fees v) v (f_X7_fees w) := by
  obtain ⟨D, n, m, f, dd, R⟩ := h.1
  refine ⟨_, _, rfl, ?_, IV_th 0 h⟩
  simp only [f_X7_fees, lt_e, inb_6, ix_6, ck_t, th_1 w 0 (show 1 ≠ 0 by omega)]
  rw [R.2.2.2.2.2.2.1.2.2.1]
theorem op_fines (h : IV v w) : OpV (f_X6_fines v) v (f_X7_fines w) := by
  obtain ⟨D, n, m, f, dd, R⟩ := h.1
  refine ⟨_, _, rfl, ?_, IV_th 0 h⟩
  simp only [f_X7_fines, lt_e, inb_7, ix_7, ck_t, th_1 w 0 (show 1 ≠ 0 by omega)]
  rw [R.2.2.2.2.2.2.1.2.2.2.1]
theorem op_recordedStates (h : IV v w) : OpV (f_X6_recordedStates v) v (f_X7_recordedStates w) := by
  obtain ⟨k, bk, a1, a2, a3, -⟩ := h.2.1
  refine ⟨_, _, rfl, ?_, IV_th 0 h⟩
  simp only [f_X7_recordedStates, lt_e]
  rw [up_r, if_neg (by omega), a2, a3]
theorem op_purse (h : IV v w) : OpV (f_X6_purse v) v (f_X7_purse w) := by
  obtain ⟨D, n, m, f, dd, R⟩ := h.1
  obtain ⟨p1, p2, p3, p4, p5⟩ := R.2.2.2.2.2.2.1
  refine ⟨_, _, rfl, ?_, IV_th 0 h⟩
  simp only [f_X7_purse, f_X7_coins, lt_e, inb_4, ix_4, inb_5, ix_5, inb_6, ix_6, inb_7, ix_7, ck_t, bnd_s, th_1 w 0 (show 1 ≠ 0 by omega)]
  rw [p5]
theorem op_purseByAccounts (h : IV v w) : OpV (f_X6_purseByAccounts v) v (f_X7_purseByAccounts w) := by
  obtain ⟨D, n, m, f, dd, R⟩ := h.1
  obtain ⟨p1, p2, p3, p4, p5⟩ := R.2.2.2.2.2.2.1
  refine ⟨_, _, rfl, ?_, IV_th 0 h⟩
  simp only [f_X7_purseByAccounts, f_X7_coins, lt_e, inb_4, ix_4, inb_5, ix_5, inb_6, ix_6, inb_7, ix_7, ck_t, bnd_s, th_1 w 0 (show 1 ≠ 0 by omega)]
  rw [p1, p2, p3, p4]
/-- a question about one singer -/
theorem op_one {F : Option (Int32 × Nat × mC)} {G : Option (Int32 × mM)} {n : Nat} {x1 : Int32} (h : IV v w) (hf : ¬ isI x1 n → F = some (0, 1, v) ∧ G = some (0, up (up w 0 12 0) 0 12 1)) (hok : ∀ s, s < n → x1 = nI s → ∃ x, F = some (x, 0, v) ∧ G = some (x, up w 0 12 0)) : Op c1 F G := by
  by_cases p : isI x1 n
  · obtain ⟨s, hs, e⟩ := isI_of p
    obtain ⟨x, h1, h2⟩ := hok s hs e
    exact op_ask h h1 h2 rfl
  · obtain ⟨h1, h2⟩ := hf p
    exact op_ref (k := 1) (c := 1) h h1 h2 (by omega) (by omega) rfl (by omega)
theorem op_breakDayOf (h : IV v w) (x1 : Int32) : Op c1 (f_X6_breakDayOf x1 v) (f_X7_breakDayOf x1 w) := by
  obtain ⟨D, n, m, f, dd, R⟩ := h.1
  have hn := R.1.2.1
  have hD := R.1.1
  have R1 := th_R R 0
  refine op_one (n := n) h (fun p => ⟨reqS_f R p _, ?_⟩) (fun s hs e => ?_)
  · unfold f_X7_breakDayOf
    rw [lt_e, m_isSinger R1.2.1.2.2.2.1 hn, bnd_s, b2_if, if_neg p, m_ref]
    rfl
  · have p : isI x1 n := by rw [e]; exact isI_n hs (by omega)
    obtain ⟨r0, r1, r3, r4, r5, r6, r7, r9, r10, r11, r12⟩ := R1.2.2.1 s hs
    unfold f_X6_breakDayOf f_X7_breakDayOf
    rw [reqS_t R p, lt_e, m_isSinger R1.2.1.2.2.2.1 hn, bnd_s, b2_if, if_pos p, e]
    have w6 : f_X7_its (nI s) 6 (up w 0 12 0) = some (up w 0 12 0 1 (13 + 13 * s + 6)) := m_its (j := 6) (by omega) (by omega) _
    refine ⟨v (7, 0, 0) s, ?_, ?_⟩
    · rw [qi_inb (show s < 30 by omega) (by omega), ck_t, qi_ix (by omega)]
    · rw [w6, bnd_s, r6.1]
theorem op_choirOf (h : IV v w) (x1 : Int32) : Op c1 (f_X6_choirOf x1 v) (f_X7_choirOf x1 w) := by
  obtain ⟨D, n, m, f, dd, R⟩ := h.1
  have hn := R.1.2.1
  have hD := R.1.1
  have R1 := th_R R 0
  refine op_one (n := n) h (fun p => ⟨reqS_f R p _, ?_⟩) (fun s hs e => ?_)
  · unfold f_X7_choirOf
    rw [lt_e, m_isSinger R1.2.1.2.2.2.1 hn, bnd_s, b2_if, if_neg p, m_ref]
    rfl
  · have p : isI x1 n := by rw [e]; exact isI_n hs (by omega)
    obtain ⟨r0, r1, r3, r4, r5, r6, r7, r9, r10, r11, r12⟩ := R1.2.2.1 s hs
    unfold f_X6_choirOf f_X7_choirOf
    rw [reqS_t R p, lt_e, m_isSinger R1.2.1.2.2.2.1 hn, bnd_s, b2_if, if_pos p, e]
    have w0 : f_X7_its (nI s) 0 (up w 0 12 0) = some (up w 0 12 0 1 (13 + 13 * s + 0)) := m_its (j := 0) (by omega) (by omega) _
    refine ⟨v (8, 0, 0) s, ?_, ?_⟩
    · rw [qi_inb (show s < 30 by omega) (by omega), ck_t, qi_ix (by omega)]
    · rw [w0, bnd_s, r0]
theorem op_feastsOf (h : IV v w) (x1 : Int32) : Op c1 (f_X6_feastsOf x1 v) (f_X7_feastsOf x1 w) := by
  obtain ⟨D, n, m, f, dd, R⟩ := h.1
  have hn := R.1.2.1
  have hD := R.1.1
  have R1 := th_R R 0
  refine op_one (n := n) h (fun p => ⟨reqS_f R p _, ?_⟩) (fun s hs e => ?_)
  · unfold f_X7_feastsOf
    rw [lt_e, m_isSinger R1.2.1.2.2.2.1 hn, bnd_s, b2_if, if_neg p, m_ref]
    rfl
  · have p : isI x1 n := by rw [e]; exact isI_n hs (by omega)
    obtain ⟨r0, r1, r3, r4, r5, r6, r7, r9, r10, r11, r12⟩ := R1.2.2.1 s hs
    unfold f_X6_feastsOf f_X7_feastsOf
    rw [reqS_t R p, lt_e, m_isSinger R1.2.1.2.2.2.1 hn, bnd_s, b2_if, if_pos p, e]
    have w11 : f_X7_its (nI s) 11 (up w 0 12 0) = some (up w 0 12 0 1 (13 + 13 * s + 11)) := m_its (j := 11) (by omega) (by omega) _
    refine ⟨v (12, 0, 0) s, ?_, ?_⟩
    · rw [qi_inb (show s < 30 by omega) (by omega), ck_t, qi_ix (by omega)]
    · rw [w11, bnd_s, r11]
theorem op_descantsOf (h : IV v w) (x1 : Int32) : Op c1 (f_X6_descantsOf x1 v) (f_X7_descantsOf x1 w) := by
  obtain ⟨D, n, m, f, dd, R⟩ := h.1
  have hn := R.1.2.1
  have hD := R.1.1
  have R1 := th_R R 0
  refine op_one (n := n) h (fun p => ⟨reqS_f R p _, ?_⟩) (fun s hs e => ?_)
  · unfold f_X7_descantsOf
    rw [lt_e, m_isSinger R1.2.1.2.2.2.1 hn, bnd_s, b2_if, if_neg p, m_ref]
    rfl
  · have p : isI x1 n := by rw [e]; exact isI_n hs (by omega)
    obtain ⟨r0, r1, r3, r4, r5, r6, r7, r9, r10, r11, r12⟩ := R1.2.2.1 s hs
    unfold f_X6_descantsOf f_X7_descantsOf
    rw [reqS_t R p, lt_e, m_isSinger R1.2.1.2.2.2.1 hn, bnd_s, b2_if, if_pos p, e]
    have w12 : f_X7_its (nI s) 12 (up w 0 12 0) = some (up w 0 12 0 1 (13 + 13 * s + 12)) := m_its (j := 12) (by omega) (by omega) _
    refine ⟨v (13, 0, 0) s, ?_, ?_⟩
    · rw [qi_inb (show s < 30 by omega) (by omega), ck_t, qi_ix (by omega)]
    · rw [w12, bnd_s, r12]
theorem op_isInChoir (h : IV v w) (x1 : Int32) : Op c1 (f_X6_isInChoir x1 v) (f_X7_isInChoir x1 w) := by
  obtain ⟨D, n, m, f, dd, R⟩ := h.1
  have hn := R.1.2.1
  have hD := R.1.1
  have R1 := th_R R 0
  refine op_one (n := n) h (fun p => ⟨reqS_f R p _, ?_⟩) (fun s hs e => ?_)
  · unfold f_X7_isInChoir
    rw [lt_e, m_isSinger R1.2.1.2.2.2.1 hn, bnd_s, b2_if, if_neg p, m_ref]
    rfl
  · have p : isI x1 n := by rw [e]; exact isI_n hs (by omega)
    obtain ⟨r0, r1, r3, r4, r5, r6, r7, r9, r10, r11, r12⟩ := R1.2.2.1 s hs
    unfold f_X6_isInChoir f_X7_isInChoir
    rw [reqS_t R p, lt_e, m_isSinger R1.2.1.2.2.2.1 hn, bnd_s, b2_if, if_pos p, e]
    have w7 : f_X7_its (nI s) 7 (up w 0 12 0) = some (up w 0 12 0 1 (13 + 13 * s + 7)) := m_its (j := 7) (by omega) (by omega) _
    refine ⟨b2 (nI D ≤ v (10, 0, 0) s), ?_, ?_⟩
    · rw [s_hasLeft 0 (by omega), bnd_s, R.2.1.1, b2_if]
      by_cases q : nI D ≤ v (10, 0, 0) s
      · rw [if_neg (fun z => z q), b2_t q]; rfl
      · rw [if_pos q, b2_f q]; rfl
    · rw [w7, bnd_s, i2b _ _ (left_iff R1 hs).2]
      by_cases q : nI D ≤ v (10, 0, 0) s
      · rw [if_pos q, b2_t q]; rfl
      · rw [if_neg q, b2_f q]; rfl
theorem op_awayUntil (h : IV v w) (x1 : Int32) : Op c1 (f_X6_awayUntil x1 v) (f_X7_awayUntil x1 w) := by
  obtain ⟨D, n, m, f, dd, R⟩ := h.1
  have hn := R.1.2.1
  have hD := R.1.1
  have R1 := th_R R 0
  refine op_one (n := n) h (fun p => ⟨reqS_f R p _, ?_⟩) (fun s hs e => ?_)
  · unfold f_X7_awayUntil
    rw [lt_e, m_isSinger R1.2.1.2.2.2.1 hn, bnd_s, b2_if, if_neg p, m_ref]
    rfl
  · have p : isI x1 n := by rw [e]; exact isI_n hs (by omega)
    obtain ⟨r0, r1, r3, r4, r5, r6, r7, r9, r10, r11, r12⟩ := R1.2.2.1 s hs
    unfold f_X6_awayUntil f_X7_awayUntil
    rw [reqS_t R p, lt_e, m_isSinger R1.2.1.2.2.2.1 hn, bnd_s, b2_if, if_pos p, e]
    have w10 : f_X7_its (nI s) 10 (up w 0 12 0) = some (up w 0 12 0 1 (13 + 13 * s + 10)) := m_its (j := 10) (by omega) (by omega) _
    refine ⟨if v (11, 0, 0) s < nI D then -1 else v (11, 0, 0) s, ?_, ?_⟩
    · rw [s_isAway 0 (by omega), bnd_s, R.2.1.1, b2_if, qi_inb (show s < 30 by omega) (by omega), ck_t, qi_ix (by omega)]
      by_cases q : v (11, 0, 0) s < nI D
      · rw [if_neg (fun z => z q), if_pos q]
      · rw [if_pos q, if_neg q]
    · rw [w10, bnd_s, bnd_s, inb_0, ck_t, ix_0, R1.2.1.2.1, r10]
      by_cases q : v (11, 0, 0) s < nI D
      · rw [if_neg (by rw [qi_le]; rw [qi_lt] at q; omega), if_pos q]
      · rw [if_pos (by rw [qi_le]; rw [qi_lt] at q; omega), if_neg q]
theorem op_lowestNoteOf (h : IV v w) (x1 : Int32) : Op c1 (f_X6_lowestNoteOf x1 v) (f_X7_lowestNoteOf x1 w) := by
  obtain ⟨D, n, m, f, dd, R⟩ := h.1
  have hn := R.1.2.1
  have hD := R.1.1
  have R1 := th_R R 0
  refine op_one (n := n) h (fun p => ⟨reqS_f R p _, ?_⟩) (fun s hs e => ?_)
  · unfold f_X7_lowestNoteOf
    rw [lt_e, m_isSinger R1.2.1.2.2.2.1 hn, bnd_s, b2_if, if_neg p, m_ref]
    rfl
  · have p : isI x1 n := by rw [e]; exact isI_n hs (by omega)
    obtain ⟨r0, r1, r3, r4, r5, r6, r7, r9, r10, r11, r12⟩ := R1.2.2.1 s hs
    unfold f_X6_lowestNoteOf f_X7_lowestNoteOf
    rw [reqS_t R p, lt_e, m_isSinger R1.2.1.2.2.2.1 hn, bnd_s, b2_if, if_pos p, e]
    obtain ⟨t, t1, t2, t3⟩ := r4
    refine ⟨nlow (v (7, 0, 0) s) (nI D) (nI t), ?_, ?_⟩
    · rw [qi_inb (show s < 30 by omega) (by omega), ck_t, qi_ix (by omega), s_noteOn 0 (by omega), bnd_s, R.2.1.1, t3]
    · have hnote : f_X7_note (nI s) 4 (nI D) (up w 0 12 0) = some (nlow (v (7, 0, 0) s) (nI D) (nI t)) := m_note (i := 4) (by omega) (by omega) (by omega) t1 _ r6.2 t2 r6.1
      rw [inb_0, ck_t, ix_0, R1.2.1.2.1, hnote, bnd_s]
theorem op_highestNoteOf (h : IV v w) (x1 : Int32) : Op c1 (f_X6_highestNoteOf x1 v) (f_X7_highestNoteOf x1 w) := by
  obtain ⟨D, n, m, f, dd, R⟩ := h.1
  have hn := R.1.2.1
  have hD := R.1.1
  have R1 := th_R R 0
  refine op_one (n := n) h (fun p => ⟨reqS_f R p _, ?_⟩) (fun s hs e => ?_)
  · unfold f_X7_highestNoteOf
    rw [lt_e, m_isSinger R1.2.1.2.2.2.1 hn, bnd_s, b2_if, if_neg p, m_ref]
    rfl
  · have p : isI x1 n := by rw [e]; exact isI_n hs (by omega)
    obtain ⟨r0, r1, r3, r4, r5, r6, r7, r9, r10, r11, r12⟩ := R1.2.2.1 s hs
    unfold f_X6_highestNoteOf f_X7_highestNoteOf
    rw [reqS_t R p, lt_e, m_isSinger R1.2.1.2.2.2.1 hn, bnd_s, b2_if, if_pos p, e]
    obtain ⟨t, t1, t2, t3⟩ := r5
    refine ⟨nlow (v (7, 0, 0) s) (nI D) (nI t), ?_, ?_⟩
    · rw [qi_inb (show s < 30 by omega) (by omega), ck_t, qi_ix (by omega), s_noteOn 0 (by omega), bnd_s, R.2.1.1, t3]
    · have hnote : f_X7_note (nI s) 5 (nI D) (up w 0 12 0) = some (nlow (v (7, 0, 0) s) (nI D) (nI t)) := m_note (i := 5) (by omega) (by omega) (by omega) t1 _ r6.2 t2 r6.1
      rw [inb_0, ck_t, ix_0, R1.2.1.2.1, hnote, bnd_s]
theorem op_takeSnapshot (h : IV v w) : OpN (f_X6_takeSnapshot v) (f_X7_takeSnapshot w) := by
  obtain ⟨⟨D, n, m, f, dd, R⟩, ⟨k, bk, h2⟩, h3, h4⟩ := h
  obtain ⟨v1, s1, s2, s3⟩ := s_copy (v := v) (o := 2) (o1 := 0) (n := n) (m := m) (f := f) (by omega) R.2.1.2.2.1 R.2.1.2.2.2.2.1 R.2.1.2.2.2.2.2.2.1 R.1.2.1 R.1.2.2.1 R.1.2.2.2
  have hl := m_lays (n0 := 1483) (n1 := 1483) (k0 := 1) (k2 := 3) (x1 := 0) (x3 := 0) (by omega) (by omega) (by omega) (by omega) (by omega) (up w 0 12 0)
  generalize hw1 : (fun z i => if z = 3 ∧ 0 ≤ i ∧ i < 0 + 1483 then up w 0 12 0 1 (0 + (i - 0)) else up w 0 12 0 z i) = w1 at hl
  have a3 : ∀ i, i < 1483 → w1 3 i = w 1 i := fun i hi => by
    rw [← hw1]
    show (if 3 = 3 ∧ 0 ≤ i ∧ i < 0 + 1483 then up w 0 12 0 1 (0 + (i - 0)) else _) = _
    rw [if_pos ⟨rfl, by omega, by omega⟩, th_1 w 0 (by omega), show 0 + (i - 0) = i by omega]
  have ao : ∀ z, z ≠ 3 → w1 z = up w 0 12 0 z := fun z hz => by
    rw [← hw1]
    exact funext fun i => if_neg (fun q => hz q.1)
  have a1 : w1 1 = w 1 := by rw [ao 1 (by omega), th_1 w 0 (by omega)]
  have e0 : v1 (0, 0, 0) = v (0, 0, 0) := s3 _ (Or.inl rfl)
  have hv : ∀ z : kC, z ≠ (0, 0, 0) → (z.1 = 0 ∨ 30 < z.1 ∨ z.2.1 ≠ 2) → up v1 (0, 0, 0) 3 1 z = v z := fun z h0 hz => by
    rw [← s3 z hz]
    exact funext fun i => by rw [up_r, if_neg (fun q => h0 q.1)]
  have hw : ∀ z, z ≠ 0 → z ≠ 3 → up w1 0 4 1 z = w z := fun z h0 hz => by
    rw [← th_1 w 0 h0, ← ao z hz]
    exact funext fun i => by rw [up_r, if_neg (fun q => h0 q.1)]
  have hw0 : ∀ i, i ≠ 4 → i ≠ 12 → up w1 0 4 1 0 i = w 0 i := fun i h4 h12 => by
    rw [up_r, if_neg (fun q => h4 q.2), ao 0 (by omega), up_r, if_neg (fun q => h12 q.2)]
  have hb : ∀ o, o ≠ 2 → ∀ k j i, 1 ≤ k → k ≤ 30 → up v1 (0, 0, 0) 3 1 (k, o, j) i = v (k, o, j) i := fun o ho k j i a b => by rw [hv (k, o, j) (kn (by omega) _ _ _ _) (Or.inr (Or.inr ho))]
  refine ⟨nI D, up v1 (0, 0, 0) 3 1, up w1 0 4 1, ?_, ?_, ?_, ⟨k, bk, IVr_x ?_ ?_ (fun o h1 h2 => hb o (by omega)) (hw0 2 (by omega) (by omega)) (hw 2 (by omega) (by omega)) h2⟩, Or.inr ⟨?_, ?_, ?_⟩, IVl_x ?_ ?_ (hw0 11 (by omega) (by omega)) (hw 9 (by omega) (by omega)) h4⟩
  · unfold f_X6_takeSnapshot
    rw [s1, bnd_s, lt_e, hv (1, 0, 0) (by decide) (Or.inr (Or.inr (by show 0 ≠ 2; omega))), R.2.1.1]
  · unfold f_X7_takeSnapshot
    rw [lt_e]
    show (f_X7_lays 1483 1483 1 3 (nI 0) (nI 0) (up w 0 12 0)).bind _ = _
    rw [hl, bnd_s, lt_e, inb_0, ck_t, ix_0, hw 1 (by omega) (by omega), R.2.1.2.1]
  · rw [hw 1 (by omega) (by omega)]
    exact BR_x (hb 0 (by omega)) (fun _ _ => rfl) rfl ⟨D, n, m, f, dd, R⟩
  · rw [up_r, if_neg (by omega), e0]
  · exact hv (31, 0, 0) (by decide) (Or.inr (Or.inl (by show 30 < 31; omega)))
  · rw [up_r, if_pos ⟨rfl, rfl⟩]
  · rw [up_r, if_pos ⟨rfl, rfl⟩]
  · have R2 : Rl v1 2 (w1 3) D n m f dd := Rl_x s2 a3 R
    refine ⟨D, n, m, f, dd, Rl_x (Ag_eq fun k j i a b => ?_) (fun i _ => ?_) R2⟩
    · rw [up_r, if_neg (fun q => by have := (keq3 q.1).1; omega)]
    · rw [up_r, if_neg (fun q => by omega)]
  · rw [hv (32, 0, 0) (by decide) (Or.inr (Or.inl (by show 30 < 32; omega)))]
  · exact hv (33, 0, 0) (by decide) (Or.inr (Or.inl (by show 30 < 33; omega)))
end Ask
