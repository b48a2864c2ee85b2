/-! CALLS THAT ASK, OF THE BOOK ALONE: what they answer hangs on the book; where they throw nothing has changed -/
def OA (P : Prop) (v : mC) (F : Option (Int32 × Nat × mC)) (G : Option (Int32 × mM)) : Prop := (P → ∃ x v' w', F = some (x, 0, v') ∧ G = some (x, w') ∧ CF v v') ∧ (¬ P → F = some (0, 1, v))
theorem CF_rf (v : mC) : CF v v := fun _ _ => rfl
section As
variable {v : mC} {w : mM} {D n m f : Nat} {dd : Nat → Nat}
theorem oa_frm {P : Prop} {F : Option (Int32 × Nat × mC)} {G : Option (Int32 × mM)} {x : Int32} {v' : mC} {w' : mM} (hp : P) (hF : F = some (x, 0, v')) (hG : G = some (x, w')) (hc : CF v v') : OA P v F G := ⟨fun _ => ⟨x, v', w', hF, hG, hc⟩, fun q => absurd hp q⟩
theorem oa_ask {P : Prop} {F : Option (Int32 × Nat × mC)} {G : Option (Int32 × mM)} {x : Int32} (hp : P) (hF : F = some (x, 0, v)) (hG : G = some (x, up w 0 12 0)) : OA P v F G := oa_frm hp hF hG (CF_rf v)
theorem oa_no {P : Prop} {F : Option (Int32 × Nat × mC)} {G : Option (Int32 × mM)} (hp : ¬ P) (hF : F = some (0, 1, v)) (_ : G = some (0, up (up w 0 12 0) 0 12 1)) : OA P v F G := ⟨fun q => absurd q hp, fun _ => hF⟩
theorem oa_one {F : Option (Int32 × Nat × mC)} {G : Option (Int32 × mM)} {n : Nat} {x1 : Int32} (hf : ¬ isI x1 n → F = some (0, 1, v) ∧ G = some (0, up (up w 0 12 0) 0 12 1)) (hok : ∀ s, s < n → x1 = nI s → ∃ x, F = some (x, 0, v) ∧ G = some (x, up w 0 12 0)) : OA (isI x1 n) v F G := by
  by_cases p : isI x1 n
  · obtain ⟨s, hs, e⟩ := isI_of p
    obtain ⟨x, h1, h2⟩ := hok s hs e
    exact oa_ask p h1 h2
  · obtain ⟨h1, h2⟩ := hf p
    exact oa_no p h1 h2
theorem oa_breakDayOf (R : Rl v 0 (w 1) D n m f dd) (x1 : Int32) : OA (isI x1 n) v (f_X6_breakDayOf x1 v) (f_X7_breakDayOf x1 w) := by
  have hn := R.1.2.1
  have hD := R.1.1
  have R1 := th_R R 0
  refine oa_one (w := w) (n := n) (fun p => ⟨reqS_f R p _, ?_⟩) (fun s hs e => ?_)
  · unfold f_X7_breakDayOf
    rw [lt_e, m_isSinger R1.2.1.2.2.2.1 hn, bnd_s, b2_if, if_neg p, m_ref]
    rfl
  · have p : isI x1 n := by rw [e]; exact isI_n hs (by omega)
    obtain ⟨r0, r1, r3, r4, r5, r6, r7, r9, r10, r11, r12⟩ := R1.2.2.1 s hs
    unfold f_X6_breakDayOf f_X7_breakDayOf
    rw [reqS_t R p, lt_e, m_isSinger R1.2.1.2.2.2.1 hn, bnd_s, b2_if, if_pos p, e]
    have w6 : f_X7_its (nI s) 6 (up w 0 12 0) = some (up w 0 12 0 1 (13 + 13 * s + 6)) := m_its (j := 6) (by omega) (by omega) _
    refine ⟨v (7, 0, 0) s, ?_, ?_⟩
    · rw [qi_inb (show s < 30 by omega) (by omega), ck_t, qi_ix (by omega)]
    · rw [w6, bnd_s, r6.1]
theorem oa_choirOf (R : Rl v 0 (w 1) D n m f dd) (x1 : Int32) : OA (isI x1 n) v (f_X6_choirOf x1 v) (f_X7_choirOf x1 w) := by
  have hn := R.1.2.1
  have hD := R.1.1
  have R1 := th_R R 0
  refine oa_one (w := w) (n := n) (fun p => ⟨reqS_f R p _, ?_⟩) (fun s hs e => ?_)
  · unfold f_X7_choirOf
    rw [lt_e, m_isSinger R1.2.1.2.2.2.1 hn, bnd_s, b2_if, if_neg p, m_ref]
    rfl
  · have p : isI x1 n := by rw [e]; exact isI_n hs (by omega)
    obtain ⟨r0, r1, r3, r4, r5, r6, r7, r9, r10, r11, r12⟩ := R1.2.2.1 s hs
    unfold f_X6_choirOf f_X7_choirOf
    rw [reqS_t R p, lt_e, m_isSinger R1.2.1.2.2.2.1 hn, bnd_s, b2_if, if_pos p, e]
    have w0 : f_X7_its (nI s) 0 (up w 0 12 0) = some (up w 0 12 0 1 (13 + 13 * s + 0)) := m_its (j := 0) (by omega) (by omega) _
    refine ⟨v (8, 0, 0) s, ?_, ?_⟩
    · rw [qi_inb (show s < 30 by omega) (by omega), ck_t, qi_ix (by omega)]
    · rw [w0, bnd_s, r0]
theorem oa_feastsOf (R : Rl v 0 (w 1) D n m f dd) (x1 : Int32) : OA (isI x1 n) v (f_X6_feastsOf x1 v) (f_X7_feastsOf x1 w) := by
  have hn := R.1.2.1
  have hD := R.1.1
  have R1 := th_R R 0
  refine oa_one (w := w) (n := n) (fun p => ⟨reqS_f R p _, ?_⟩) (fun s hs e => ?_)
  · unfold f_X7_feastsOf
    rw [lt_e, m_isSinger R1.2.1.2.2.2.1 hn, bnd_s, b2_if, if_neg p, m_ref]
    rfl
  · have p : isI x1 n := by rw [e]; exact isI_n hs (by omega)
    obtain ⟨r0, r1, r3, r4, r5, r6, r7, r9, r10, r11, r12⟩ := R1.2.2.1 s hs
    unfold f_X6_feastsOf f_X7_feastsOf
    rw [reqS_t R p, lt_e, m_isSinger R1.2.1.2.2.2.1 hn, bnd_s, b2_if, if_pos p, e]
    have w11 : f_X7_its (nI s) 11 (up w 0 12 0) = some (up w 0 12 0 1 (13 + 13 * s + 11)) := m_its (j := 11) (by omega) (by omega) _
    refine ⟨v (12, 0, 0) s, ?_, ?_⟩
    · rw [qi_inb (show s < 30 by omega) (by omega), ck_t, qi_ix (by omega)]
    · rw [w11, bnd_s, r11]
theorem oa_descantsOf (R : Rl v 0 (w 1) D n m f dd) (x1 : Int32) : OA (isI x1 n) v (f_X6_descantsOf x1 v) (f_X7_descantsOf x1 w) := by
  have hn := R.1.2.1
  have hD := R.1.1
  have R1 := th_R R 0
  refine oa_one (w := w) (n := n) (fun p => ⟨reqS_f R p _, ?_⟩) (fun s hs e => ?_)
  · unfold f_X7_descantsOf
    rw [lt_e, m_isSinger R1.2.1.2.2.2.1 hn, bnd_s, b2_if, if_neg p, m_ref]
    rfl
  · have p : isI x1 n := by rw [e]; exact isI_n hs (by omega)
    obtain ⟨r0, r1, r3, r4, r5, r6, r7, r9, r10, r11, r12⟩ := R1.2.2.1 s hs
    unfold f_X6_descantsOf f_X7_descantsOf
    rw [reqS_t R p, lt_e, m_isSinger R1.2.1.2.2.2.1 hn, bnd_s, b2_if, if_pos p, e]
    have w12 : f_X7_its (nI s) 12 (up w 0 12 0) = some (up w 0 12 0 1 (13 + 13 * s + 12)) := m_its (j := 12) (by omega) (by omega) _
    refine ⟨v (13, 0, 0) s, ?_, ?_⟩
    · rw [qi_inb (show s < 30 by omega) (by omega), ck_t, qi_ix (by omega)]
    · rw [w12, bnd_s, r12]
theorem oa_isInChoir (R : Rl v 0 (w 1) D n m f dd) (x1 : Int32) : OA (isI x1 n) v (f_X6_isInChoir x1 v) (f_X7_isInChoir x1 w) := by
  have hn := R.1.2.1
  have hD := R.1.1
  have R1 := th_R R 0
  refine oa_one (w := w) (n := n) (fun p => ⟨reqS_f R p _, ?_⟩) (fun s hs e => ?_)
  · unfold f_X7_isInChoir
    rw [lt_e, m_isSinger R1.2.1.2.2.2.1 hn, bnd_s, b2_if, if_neg p, m_ref]
    rfl
  · have p : isI x1 n := by rw [e]; exact isI_n hs (by omega)
    obtain ⟨r0, r1, r3, r4, r5, r6, r7, r9, r10, r11, r12⟩ := R1.2.2.1 s hs
    unfold f_X6_isInChoir f_X7_isInChoir
    rw [reqS_t R p, lt_e, m_isSinger R1.2.1.2.2.2.1 hn, bnd_s, b2_if, if_pos p, e]
    have w7 : f_X7_its (nI s) 7 (up w 0 12 0) = some (up w 0 12 0 1 (13 + 13 * s + 7)) := m_its (j := 7) (by omega) (by omega) _
    refine ⟨b2 (nI D ≤ v (10, 0, 0) s), ?_, ?_⟩
    · rw [s_hasLeft 0 (by omega), bnd_s, R.2.1.1, b2_if]
      by_cases q : nI D ≤ v (10, 0, 0) s
      · rw [if_neg (fun z => z q), b2_t q]; rfl
      · rw [if_pos q, b2_f q]; rfl
    · rw [w7, bnd_s, i2b _ _ (left_iff R1 hs).2]
      by_cases q : nI D ≤ v (10, 0, 0) s
      · rw [if_pos q, b2_t q]; rfl
      · rw [if_neg q, b2_f q]; rfl
theorem oa_awayUntil (R : Rl v 0 (w 1) D n m f dd) (x1 : Int32) : OA (isI x1 n) v (f_X6_awayUntil x1 v) (f_X7_awayUntil x1 w) := by
  have hn := R.1.2.1
  have hD := R.1.1
  have R1 := th_R R 0
  refine oa_one (w := w) (n := n) (fun p => ⟨reqS_f R p _, ?_⟩) (fun s hs e => ?_)
  · unfold f_X7_awayUntil
    rw [lt_e, m_isSinger R1.2.1.2.2.2.1 hn, bnd_s, b2_if, if_neg p, m_ref]
    rfl
  · have p : isI x1 n := by rw [e]; exact isI_n hs (by omega)
    obtain ⟨r0, r1, r3, r4, r5, r6, r7, r9, r10, r11, r12⟩ := R1.2.2.1 s hs
    unfold f_X6_awayUntil f_X7_awayUntil
    rw [reqS_t R p, lt_e, m_isSinger R1.2.1.2.2.2.1 hn, bnd_s, b2_if, if_pos p, e]
    have w10 : f_X7_its (nI s) 10 (up w 0 12 0) = some (up w 0 12 0 1 (13 + 13 * s + 10)) := m_its (j := 10) (by omega) (by omega) _
    refine ⟨if v (11, 0, 0) s < nI D then -1 else v (11, 0, 0) s, ?_, ?_⟩
    · rw [s_isAway 0 (by omega), bnd_s, R.2.1.1, b2_if, qi_inb (show s < 30 by omega) (by omega), ck_t, qi_ix (by omega)]
      by_cases q : v (11, 0, 0) s < nI D
      · rw [if_neg (fun z => z q), if_pos q]
      · rw [if_pos q, if_neg q]
    · rw [w10, bnd_s, bnd_s, inb_0, ck_t, ix_0, R1.2.1.2.1, r10]
      by_cases q : v (11, 0, 0) s < nI D
      · rw [if_neg (by rw [qi_le]; rw [qi_lt] at q; omega), if_pos q]
      · rw [if_pos (by rw [qi_le]; rw [qi_lt] at q; omega), if_neg q]
theorem oa_lowestNoteOf (R : Rl v 0 (w 1) D n m f dd) (x1 : Int32) : OA (isI x1 n) v (f_X6_lowestNoteOf x1 v) (f_X7_lowestNoteOf x1 w) := by
  have hn := R.1.2.1
  have hD := R.1.1
  have R1 := th_R R 0
  refine oa_one (w := w) (n := n) (fun p => ⟨reqS_f R p _, ?_⟩) (fun s hs e => ?_)
  · unfold f_X7_lowestNoteOf
    rw [lt_e, m_isSinger R1.2.1.2.2.2.1 hn, bnd_s, b2_if, if_neg p, m_ref]
    rfl
  · have p : isI x1 n := by rw [e]; exact isI_n hs (by omega)
    obtain ⟨r0, r1, r3, r4, r5, r6, r7, r9, r10, r11, r12⟩ := R1.2.2.1 s hs
    unfold f_X6_lowestNoteOf f_X7_lowestNoteOf
    rw [reqS_t R p, lt_e, m_isSinger R1.2.1.2.2.2.1 hn, bnd_s, b2_if, if_pos p, e]
    obtain ⟨t, t1, t2, t3⟩ := r4
    refine ⟨nlow (v (7, 0, 0) s) (nI D) (nI t), ?_, ?_⟩
    · rw [qi_inb (show s < 30 by omega) (by omega), ck_t, qi_ix (by omega), s_noteOn 0 (by omega), bnd_s, R.2.1.1, t3]
    · have hnote : f_X7_note (nI s) 4 (nI D) (up w 0 12 0) = some (nlow (v (7, 0, 0) s) (nI D) (nI t)) := m_note (i := 4) (by omega) (by omega) (by omega) t1 _ r6.2 t2 r6.1
      rw [inb_0, ck_t, ix_0, R1.2.1.2.1, hnote, bnd_s]
theorem oa_dayOf (R : Rl v 0 (w 1) D n m f dd) (x1 : Int32) : OA (isI x1 f) v (f_X6_dayOf x1 v) (f_X7_dayOf x1 w) := by
  have hn := R.1.2.1
  have hf := R.1.2.2.2
  have hD := R.1.1
  have R1 := th_R R 0
  have mF := fun x => m_isFeast (n := f) (w := up w 0 12 0) R1.2.1.2.2.2.2.2.2.2 hf x
  have mS := fun x => m_isSinger (n := n) (w := up w 0 12 0) R1.2.1.2.2.2.1 hn x
  by_cases p : isI x1 f
  · obtain ⟨j, hj, rfl⟩ := isI_of p
    have hd := (R.2.2.2.2.1 j hj).1
    have hd1 := (R1.2.2.2.2.1 j hj).1
    refine oa_ask (w := w) (x := nI (dd j)) p ?_ ?_
    · unfold f_X6_dayOf
      rw [reqF_t R p, qi_inb (show j < 20 by omega) (by omega), ck_t, qi_ix (by omega), hd.2.2.2]
    · simp only [f_X7_dayOf, lt_e, mF, bnd_s, b2_if, m_dayAt (show j < 20 by omega), hd1.2.2.1]
      rw [if_pos p]
  · refine oa_no (w := w) p ?_ ?_
    · unfold f_X6_dayOf
      try simp only [jn_e]
      exact reqF_f R p _
    · have n10 : ¬ (1 : Int32) = 0 := by decide
      simp only [f_X7_dayOf, f_X7_toCome, lt_e, mF, bnd_s, b2_if, m_ref, if_neg p, n10, if_false]
      try rfl
theorem oa_shortfall (R : Rl v 0 (w 1) D n m f dd) (x1 : Int32) : OA (isI x1 f) v (f_X6_shortfall x1 v) (f_X7_shortfall x1 w) := by
  have hn := R.1.2.1
  have hf := R.1.2.2.2
  have hD := R.1.1
  have R1 := th_R R 0
  have mF := fun x => m_isFeast (n := f) (w := up w 0 12 0) R1.2.1.2.2.2.2.2.2.2 hf x
  have mS := fun x => m_isSinger (n := n) (w := up w 0 12 0) R1.2.1.2.2.2.1 hn x
  by_cases p : isI x1 f
  · obtain ⟨j, hj, rfl⟩ := isI_of p
    have hd := (R.2.2.2.2.1 j hj).1
    have hd1 := (R1.2.2.2.2.1 j hj).1
    obtain ⟨v', s1, s2, s3, s4⟩ := s_tell R hj
    obtain ⟨w', m1, m2, m3⟩ := m_tells R1 hj
    have hq := qc_le (fun i => decide (tL v 0 D n m j (dd j) i = -1)) 30
    have R' : Rl v' 0 (w 1) D n m f dd := Rl_F (w' := w) R s2 rfl
    have eP : fP v' 0 j = fP v 0 j := funext fun l => by
      show ix (v' (26, 0, j) l) = ix (v (26, 0, j) l)
      rw [s2 (26, 0, j) (by show 26 < 36; omega)]
    have hall : f_X3_countAll v' = some (nI (30 - qc (fun i => decide (tL v 0 D n m j (dd j) i = -1)) 30)) := by
      rw [s_countAll, qc_cong (q := fun i => decide (tL v 0 D n m j (dd j) i = -1)) (fun k hk => by rw [s4 k hk])]
    refine oa_frm (v' := v') (w' := w') (x := nI (qs (fP v 0 j) 4) - nI (30 - qc (fun i => decide (tL v 0 D n m j (dd j) i = -1)) 30)) p ?_ ?_ s2
    · unfold f_X6_shortfall
      rw [reqF_t R p, s1, bnd_s, s_allP R' hj, bnd_s, hall, bnd_s, eP]
    · simp only [f_X7_shortfall, lt_e, mF, bnd_s, b2_if, m_allP R1 hj, m1]
      rw [if_pos p]
  · refine oa_no (w := w) p ?_ ?_
    · unfold f_X6_shortfall
      try simp only [jn_e]
      exact reqF_f R p _
    · have n10 : ¬ (1 : Int32) = 0 := by decide
      simp only [f_X7_shortfall, f_X7_toCome, lt_e, mF, bnd_s, b2_if, m_ref, if_neg p, n10, if_false]
      try rfl
theorem oa_descantIn (R : Rl v 0 (w 1) D n m f dd) (x1 : Int32) : OA (isI x1 f) v (f_X6_descantIn x1 v) (f_X7_descantIn x1 w) := by
  have hn := R.1.2.1
  have hf := R.1.2.2.2
  have hD := R.1.1
  have R1 := th_R R 0
  have mF := fun x => m_isFeast (n := f) (w := up w 0 12 0) R1.2.1.2.2.2.2.2.2.2 hf x
  have mS := fun x => m_isSinger (n := n) (w := up w 0 12 0) R1.2.1.2.2.2.1 hn x
  by_cases p : isI x1 f
  · obtain ⟨j, hj, rfl⟩ := isI_of p
    have hd := (R.2.2.2.2.1 j hj).1
    have hd1 := (R1.2.2.2.2.1 j hj).1
    by_cases q : nI D < nI (dd j)
    · have q2 : D < dd j := (qi_nlt (by omega) (by omega)).mp q
      obtain ⟨r, v', w', s1, m1, s2, m2⟩ := come_eq R1 hj q2
      refine oa_frm (w' := w') (v' := v') (x := r) p ?_ ?_ s2
      · unfold f_X6_descantIn
        rw [reqF_t R p, s_held 0 (by omega), bnd_s, b2_if, R.2.1.1, hd.2.2.2, if_neg (fun z => z q), s1, bnd_s]
      · simp only [f_X7_descantIn, lt_e, mF, bnd_s, b2_if, if_pos p, m_held (show j < 20 by omega), R1.2.1.2.1, hd1.2.2.1, q, not_true_eq_false, if_false, m1]
    · have q2 : dd j ≤ D := by
        rw [qi_nlt (by omega) (by omega)] at q
        omega
      have ea : ((583 : Int32) + 45 * nI j) + 14 = nI (597 + 45 * j) := by
        rw [show (583 : Int32) = nI 583 from rfl, show (45 : Int32) = nI 45 from rfl, show (14 : Int32) = nI 14 from rfl, qi_mul, qi_add, qi_add]
        exact congrArg nI (by omega)
      refine oa_ask (w := w) (x := v (21, 0, 0) j) p ?_ ?_
      · unfold f_X6_descantIn
        rw [reqF_t R p, s_held 0 (by omega), bnd_s, b2_if, R.2.1.1, hd.2.2.2, if_pos q, qi_inb (show j < 20 by omega) (by omega), ck_t, qi_ix (by omega)]
      · simp (disch := omega) only [f_X7_descantIn, lt_e, mF, bnd_s, b2_if, if_pos p, m_held (show j < 20 by omega), R1.2.1.2.1, hd1.2.2.1, q, not_false_eq_true, if_true, ea, qi_inb, qi_ix, ck_t]
        rw [((R1.2.2.2.2.1 j hj).2.2.2 q2).1]
  · refine oa_no (w := w) p ?_ ?_
    · unfold f_X6_descantIn
      try simp only [jn_e]
      exact reqF_f R p _
    · have n10 : ¬ (1 : Int32) = 0 := by decide
      simp only [f_X7_descantIn, f_X7_toCome, lt_e, mF, bnd_s, b2_if, m_ref, if_neg p, n10, if_false]
      try rfl
theorem oa_singersIn (R : Rl v 0 (w 1) D n m f dd) (x1 x2 : Int32) : OA (isI x1 f ∧ (0 ≤ x2 ∧ x2 ≤ 3)) v (f_X6_singersIn x1 x2 v) (f_X7_singersIn x1 x2 w) := by
  have hn := R.1.2.1
  have hf := R.1.2.2.2
  have hD := R.1.1
  have R1 := th_R R 0
  have mF := fun x => m_isFeast (n := f) (w := up w 0 12 0) R1.2.1.2.2.2.2.2.2.2 hf x
  have mS := fun x => m_isSinger (n := n) (w := up w 0 12 0) R1.2.1.2.2.2.1 hn x
  by_cases p : isI x1 f
  · by_cases p2 : 0 ≤ x2 ∧ x2 ≤ 3
    · obtain ⟨j, hj, rfl⟩ := isI_of p
      obtain ⟨l, -, hl, rfl⟩ := rg_of (a := 0) (b := 3) p2 (by omega) (by omega)
      obtain ⟨v', s1, s2, s3, s4⟩ := s_tell R hj
      obtain ⟨w', m1, m2⟩ := m_inLine R1 hj (nI l)
      refine oa_frm (v' := v') (w' := w') (x := nI (qc (fun i => decide (tL v 0 D n m j (dd j) i = nI l)) 30)) ⟨p, p2⟩ ?_ ?_ s2
      · unfold f_X6_singersIn
        rw [reqF_t R p, reqL_t v p2, s1, bnd_s, s_countIn, bnd_s, qc_cong (q := fun i => decide (tL v 0 D n m j (dd j) i = nI l)) (fun k hk => by rw [s4 k hk])]
      · simp only [f_X7_singersIn, jn_e, lt_e, mF, m_isLine, bnd_s, b2_if, m1, if_pos p, if_pos p2]
    · refine oa_no (w := w) (fun q => p2 q.2) ?_ ?_
      · unfold f_X6_singersIn
        rw [reqF_t R p]
        exact reqL_f v p2 _
      · simp only [f_X7_singersIn, jn_e, lt_e, mF, m_isLine, bnd_s, b2_if, m_ref, if_pos p, if_neg p2]
  · refine oa_no (w := w) (fun q => p q.1) ?_ ?_
    · unfold f_X6_singersIn
      exact reqF_f R p _
    · simp only [f_X7_singersIn, jn_e, lt_e, mF, bnd_s, b2_if, m_ref, if_neg p]
theorem oa_placesIn (R : Rl v 0 (w 1) D n m f dd) (x1 x2 : Int32) : OA (isI x1 f ∧ (0 ≤ x2 ∧ x2 ≤ 3)) v (f_X6_placesIn x1 x2 v) (f_X7_placesIn x1 x2 w) := by
  have hn := R.1.2.1
  have hf := R.1.2.2.2
  have hD := R.1.1
  have R1 := th_R R 0
  have mF := fun x => m_isFeast (n := f) (w := up w 0 12 0) R1.2.1.2.2.2.2.2.2.2 hf x
  have mS := fun x => m_isSinger (n := n) (w := up w 0 12 0) R1.2.1.2.2.2.1 hn x
  by_cases p : isI x1 f
  · by_cases p2 : 0 ≤ x2 ∧ x2 ≤ 3
    · obtain ⟨j, hj, rfl⟩ := isI_of p
      obtain ⟨l, -, hl, rfl⟩ := rg_of (a := 0) (b := 3) p2 (by omega) (by omega)
      have hP := fP_ok R hj (show l < 4 by omega)
      have hP1 := fP_ok R1 hj (show l < 4 by omega)
      refine oa_ask (w := w) (x := nI (fP v 0 j l)) ⟨p, p2⟩ ?_ ?_
      · unfold f_X6_placesIn
        rw [reqF_t R p, reqL_t v p2, qi_inb (show j < 20 by omega) (by omega), ck_t, qi_inb (show l < 4 by omega) (by omega), ck_t, qi_ix (by omega), qi_ix (by omega), hP.2.1]
      · simp only [f_X7_placesIn, jn_e, lt_e, mF, m_isLine, bnd_s, b2_if, if_pos p, if_pos p2, m_places (show j < 20 by omega) (show l < 4 by omega), hP1.2.2]
    · refine oa_no (w := w) (fun q => p2 q.2) ?_ ?_
      · unfold f_X6_placesIn
        rw [reqF_t R p]
        exact reqL_f v p2 _
      · simp only [f_X7_placesIn, jn_e, lt_e, mF, m_isLine, bnd_s, b2_if, m_ref, if_pos p, if_neg p2]
  · refine oa_no (w := w) (fun q => p q.1) ?_ ?_
    · unfold f_X6_placesIn
      exact reqF_f R p _
    · simp only [f_X7_placesIn, jn_e, lt_e, mF, bnd_s, b2_if, m_ref, if_neg p]
theorem oa_favoursOf (R : Rl v 0 (w 1) D n m f dd) (x1 : Int32) : OA (0 ≤ x1 ∧ x1 ≤ 4) v (f_X6_favoursOf x1 v) (f_X7_favoursOf x1 w) := by
  have R1 := th_R R 0
  by_cases p : 0 ≤ x1 ∧ x1 ≤ 4
  · obtain ⟨c, -, hc, rfl⟩ := rg_of (a := 0) (b := 4) p (by omega) (by omega)
    have e8 : (8 : Int32) + nI c = nI (8 + c) := qi_add 8 c
    refine oa_ask (w := w) (x := v (30, 0, 0) c) p ?_ ?_
    · simp (disch := omega) only [f_X6_favoursOf, jn_e, s_within, bnd_s, b2_if, if_pos p, rf0, qi_inb, qi_ix, ck_t]
    · simp (disch := omega) only [f_X7_favoursOf, lt_e, m_isChoir, bnd_s, b2_if, if_pos p, e8, qi_inb, qi_ix, ck_t]
      rw [R1.2.2.2.2.2.2.2 c (by omega)]
  · refine oa_no (w := w) p ?_ ?_
    · simp only [f_X6_favoursOf, jn_e, s_within, bnd_s, b2_if, if_neg p, rf1]
    · simp only [f_X7_favoursOf, lt_e, m_isChoir, bnd_s, b2_if, if_neg p, m_ref]
end As
