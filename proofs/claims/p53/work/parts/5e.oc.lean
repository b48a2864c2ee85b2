/-! AN ACT OF THE LAW'S: refused, and nothing has changed; or one more state is recorded and the rest of what is kept stays -/
def KP (w w' : mM) : Prop := (w 0 2 = nI 4 → w' 0 2 = nI 4 ∧ (∀ i, i < 4449 → w' 2 i = w 2 (i + 1483)) ∧ ∀ i, i < 1483 → w' 2 (4449 + i) = w 1 i) ∧ (w 0 2 = nI 0 → w' 0 2 = nI 1) ∧ w' 3 = w 3 ∧ w' 0 4 = w 0 4 ∧ w' 0 11 = w 0 11
def Oc (v : mC) (w : mM) (F : Option (Int32 × Nat × mC)) (G : Option (Int32 × mM)) : Prop := ∃ x k v' y w', F = some (x, k, v') ∧ G = some (y, w') ∧ ((k ≤ 3 ∧ k ≠ 0 ∧ v' = v) ∨ (k = 0 ∧ ¬ x < -1999 ∧ IV v' w' ∧ KP w w'))
theorem lb_n {n : Nat} (h : n < 2147483648) : ¬ nI n < -1999 := fun q => by
  rw [qi_lt, qi_I h, show (-1999 : Int32).toInt = -1999 from rfl] at q
  omega
theorem oc_ref {v : mC} {w : mM} {F : Option (Int32 × Nat × mC)} {G : Option (Int32 × mM)} {y : Int32} {w' : mM} {k : Nat} (hF : F = some (0, k, v)) (hG : G = some (y, w')) (hk : k ≤ 3) (hk0 : k ≠ 0) : Oc v w F G := ⟨0, k, v, y, w', hF, hG, Or.inl ⟨hk, hk0, rfl⟩⟩
theorem oc_ok {v : mC} {w : mM} {F : Option (Int32 × Nat × mC)} {G : Option (Int32 × mM)} {x y : Int32} {v' : mC} {w' : mM} (hF : F = some (x, 0, v')) (hG : G = some (y, w')) (hx : ¬ x < -1999) (h : IV v' w') (hk : KP w w') : Oc v w F G := ⟨x, 0, v', y, w', hF, hG, Or.inr ⟨rfl, hx, h, hk⟩⟩
theorem kp_1 {w w1 w2 : mM} (h : KP w w1) (hm : ∀ z, z ≠ 1 → w2 z = w1 z) : KP w w2 := by
  unfold KP
  rw [hm 0 (by omega), hm 2 (by omega), hm 3 (by omega)]
  exact h
theorem kp_1b {w w1 w2 : mM} (h : KP w w1) (hm : MB w1 w2) : KP w w2 := by
  unfold KP
  rw [hm 0 (by omega) (by omega), hm 2 (by omega) (by omega), hm 3 (by omega) (by omega)]
  exact h
theorem kp_s {v : mC} {w w1 : mM} (h : IV v w) (hs : f_X7_saves 1 (up w 0 12 0) = some w1) : KP w w1 := by
  obtain ⟨-, ⟨k, bk, a1, a2, a3, -⟩, -⟩ := h
  obtain ⟨w1', s1, s2, s3, s4⟩ := m_saves (w := up w 0 12 0) (k1 := 1) a1 (by rw [up_r, if_neg (by omega)]; exact a3) (Or.inl rfl)
  have e := Option.some.inj (hs.symm.trans s1)
  subst e
  refine ⟨fun h4 => ?_, fun h0 => ?_, ?_, ?_, ?_⟩
  · have hk : k = 4 := (qi_neq (by omega) (by omega)).mp (a3.symm.trans h4)
    rw [if_pos hk] at s4
    exact ⟨s4.1, fun i hi => by rw [s4.2.1 i hi, th_1 w 0 (by omega)], fun i hi => by rw [s4.2.2 i hi, th_1 w 0 (by omega)]⟩
  · have hk : k = 0 := (qi_neq (by omega) (by omega)).mp (a3.symm.trans h0)
    rw [if_neg (by omega)] at s4
    rw [s4.1, hk]
  · rw [s2 3 (by omega) (by omega), th_1 w 0 (by omega)]
  · rw [s3 4 (by omega), up_r, if_neg (by omega)]
  · rw [s3 11 (by omega), up_r, if_neg (by omega)]
theorem act_keep2 {v : mC} {w : mM} (h : IV v w) {D n m f : Nat} {dd : Nat → Nat} (R : Rl v 0 (w 1) D n m f dd) : ∃ v1 w1, f_X6_keepState v = some v1 ∧ f_X7_saves 1 (up w 0 12 0) = some w1 ∧ IV v1 w1 ∧ Rl v1 0 (w1 1) D n m f dd ∧ w1 0 12 = 0 ∧ KP w w1 := by
  obtain ⟨v1, w1, k1, k2, k3, k4, k5⟩ := act_keep h R
  exact ⟨v1, w1, k1, k2, k3, k4, k5, kp_s h k2⟩
section Oc1
variable {v : mC} {w : mM} {D n m f : Nat} {dd : Nat → Nat}
theorem dismiss_eq2 {o : Nat} (R : Rl v o (w 1) D n m f dd) {s : Nat} (hs : s < n) : ∃ x v' w', x ≤ n ∧ f_X0_dismiss o (nI s) v = some (nI x, v') ∧ f_X7_leaves (nI s) w = some (nI x, w') ∧ Rl v' o (w' 1) D n m f dd ∧ CB o v v' ∧ ∀ z, z ≠ 1 → w' z = w z := by
  have hn := R.1.2.1
  have hD := R.1.1
  obtain ⟨c1, c2, c3, c4, c5, c6, c7, c8⟩ := R.2.1
  have hV := R.2.2.2.2.2.2.2
  have hP := R.2.2.2.2.2.2.1
  obtain ⟨r0, r1, r3, r4, r5, r6, r7, r9, r10, r11, r12⟩ := R.2.2.1 s hs
  generalize hv' : up v (10, o, 0) s (nI D - 1) = v'
  have ao : ∀ z i, ¬ (z = (10, o, 0) ∧ i = s) → v' z i = v z i := fun z i hz => by rw [← hv', up_r, if_neg hz]
  have a10 : v' (10, o, 0) s = nI D - 1 := by rw [← hv', up_r, if_pos ⟨rfl, rfl⟩]
  have az : ∀ z, z ≠ (10, o, 0) → v' z = v z := fun z hz => funext fun i => ao z i (fun q => hz q.1)
  have lk : f_X7_lay (nI s) 7 1 w = some (up w 1 (13 + 13 * s + 7) 1) := m_lay (j := 7) (by omega) (by omega) 1 w
  generalize hw' : up w 1 (13 + 13 * s + 7) 1 = w' at lk
  have wo : ∀ i, i ≠ 13 + 13 * s + 7 → w' 1 i = w 1 i := fun i hi => by rw [← hw', up_r, if_neg (fun q => hi q.2)]
  have w7 : w' 1 (13 + 13 * s + 7) = 1 := by rw [← hw', up_r, if_pos ⟨rfl, rfl⟩]
  have R' : Rl v' o (w' 1) D n m f dd := by
    refine mod_Rl R hs (fun z h1 h30 h3 => az z (h3 10 (by omega) (by omega))) (by rw [az _ (kn (by decide) _ _ _ _)]; exact c1) (fun k i k3 k13 hi => ao _ _ (fun q => hi q.2)) (fun i i4 i13 => wo i (by omega)) ?_ ?_ (fun c hc => by rw [wo _ (by omega), az _ (kn (by decide) _ _ _ _)]; exact hV c hc)
    · unfold RS
      rw [wo _ (by omega), wo _ (by omega), wo _ (by omega), wo _ (by omega), wo _ (by omega), wo _ (by omega), wo _ (by omega), w7, a10, wo _ (by omega), wo _ (by omega), wo _ (by omega), wo _ (by omega), wo _ (by omega),
        az (3, o, 0) (kn (by decide) _ _ _ _), az (4, o, 0) (kn (by decide) _ _ _ _), az (5, o, 0) (kn (by decide) _ _ _ _), az (6, o, 0) (kn (by decide) _ _ _ _), az (7, o, 0) (kn (by decide) _ _ _ _), az (8, o, 0) (kn (by decide) _ _ _ _), az (9, o, 0) (kn (by decide) _ _ _ _), az (11, o, 0) (kn (by decide) _ _ _ _), az (12, o, 0) (kn (by decide) _ _ _ _), az (13, o, 0) (kn (by decide) _ _ _ _)]
      refine ⟨r0, r1, r3, r4, r5, r6, Or.inl ⟨rfl, ?_⟩, r9, r10, r11, r12⟩
      rw [show (1 : Int32) = nI 1 from rfl, qi_subI (by omega) (by omega)]
      omega
    · rw [wo 4 (by omega), wo 5 (by omega), wo 6 (by omega), wo 7 (by omega), az (1, o, 0) (kn (by decide) _ _ _ _)]
      exact hP
  refine ⟨qc (inC v' o D) n, v', w', qc_le _ _, ?_, ?_, R', CB_of fun z hz => az z (CB_ne hz (by omega) (by omega)), fun z hz => by rw [← hw']; exact funext fun i => by rw [up_r, if_neg (fun q => hz q.1)]⟩
  · unfold f_X0_dismiss
    rw [qi_inb (show s < 30 by omega) (by omega), ck_t, qi_ix (by omega), c1, lt_e, hv', az (1, o, 0) (kn (by decide) _ _ _ _), c1, s_inCh R', bnd_s]
  · unfold f_X7_leaves
    rw [lk, bnd_s, m_there R', bnd_s]
theorem oc_register (h : IV v w) (x1 x2 x3 x4 x5 : Int32) : Oc v w (f_X6_register x1 x2 x3 x4 x5 v) (f_X7_register x1 x2 x3 x4 x5 w) := by
  obtain ⟨D, n, m, f, dd, R⟩ := h.1
  have hn := R.1.2.1
  have e11 : up w 0 12 0 1 1 = nI n := by rw [th_1 w 0 (by omega)]; exact R.2.1.2.2.2.1
  unfold f_X6_register f_X7_register
  simp only [jn_e, lt_e, s_refEnrol R.2.1.2.2.1 hn, bnd_s, m_isOwn, m_areNotes, b2_if, m_ref, inb_1, ix_1, ck_t, e11]
  by_cases p : (7 ≤ x1 ∧ x1 ≤ 70) ∧ pH x2 ∧ (x5 = 0 ∨ (12 ≤ x5 ∧ x5 ≤ 17))
  · rw [if_pos p]
    by_cases p2 : pN x3 x4
    · have pp := And.intro p p2
      rw [if_pos p2, if_pos pp]
      by_cases p3 : n = 30
      · rw [if_pos p3, if_pos (by rw [p3]; rfl)]
        exact oc_ref (k := 3) (rf3 _ _) rfl (by omega) (by omega)
      · rw [if_neg p3, if_neg (show ¬ nI n = 30 from fun q => p3 ((qi_neq (b := 30) (by omega) (by omega)).mp q)), rf0]
        obtain ⟨v1, w1, k1, k2, k3, k4, k5, kk⟩ := act_keep2 h R
        obtain ⟨v2, w2, a1, a2, a3, a4, a5⟩ := enrol_eq k4 (by omega) p.1 p.2.1 p2 p.2.2
        obtain ⟨i1, i2⟩ := act_end k3 k5 a4 a5 a3
        rw [k1, bnd_s, a1, bnd_s, k2, bnd_s, a2, bnd_s]
        exact oc_ok rfl rfl (lb_n (by omega)) i1 (kp_1 kk a5)
    · rw [if_neg p2, if_neg (fun q => p2 q.2)]
      exact oc_ref (k := 2) (rf2 _ _) rfl (by omega) (by omega)
  · rw [if_neg p, if_neg (fun q => p q.1)]
    exact oc_ref (k := 2) (rf2 _ _) rfl (by omega) (by omega)
theorem oc_leave (h : IV v w) (x1 : Int32) : Oc v w (f_X6_leave x1 v) (f_X7_leave x1 w) := by
  obtain ⟨D, n, m, f, dd, R⟩ := h.1
  have hn := R.1.2.1
  have R1 : Rl v 0 (up w 0 12 0 1) D n m f dd := by rw [th_1 w 0 (by omega)]; exact R
  unfold f_X6_leave f_X7_leave
  simp only [lt_e, f_X0_refusalToDismiss, s_has R.2.1.2.2.1 hn, bnd_s, m_isSinger R1.2.1.2.2.2.1 hn, b2_if, m_ref]
  by_cases p : isI x1 n
  · rw [if_pos p, if_pos p]
    obtain ⟨s, hs, rfl⟩ := isI_of p
    have w7 : f_X7_its (nI s) 7 (up w 0 12 0) = some (up w 0 12 0 1 (13 + 13 * s + 7)) := m_its (j := 7) (by omega) (by omega) _
    rw [s_hasLeft 0 (by omega), bnd_s, R.2.1.1, b2_if, w7, bnd_s, i2b _ _ (left_iff R1 hs).1]
    by_cases q : ¬ nI D ≤ v (10, 0, 0) s
    · rw [if_pos q, if_pos q, bnd_s]
      exact oc_ref (k := 3) (rf3 _ _) rfl (by omega) (by omega)
    · rw [if_neg q, if_neg q, bnd_s, rf0]
      obtain ⟨v1, w1, k1, k2, k3, k4, k5, kk⟩ := act_keep2 h R
      obtain ⟨x, v2, w2, hx, a1, a2, a3, a4, a5⟩ := dismiss_eq2 k4 hs
      obtain ⟨i1, i2⟩ := act_end k3 k5 a4 a5 a3
      rw [k1, bnd_s, a1, bnd_s, k2, bnd_s, a2, bnd_s]
      exact oc_ok rfl rfl (lb_n (by omega)) i1 (kp_1 kk a5)
  · rw [if_neg p, if_neg p, bnd_s]
    exact oc_ref (k := 1) (rf1 _ _) rfl (by omega) (by omega)
theorem oc_passDays (h : IV v w) (x1 : Int32) : Oc v w (f_X6_passDays x1 v) (f_X7_passDays x1 w) := by
  obtain ⟨D, n, m, f, dd, R⟩ := h.1
  have hD := R.1.1
  have e10 : up w 0 12 0 1 0 = nI D := by rw [th_1 w 0 (by omega)]; exact R.2.1.2.1
  unfold f_X6_passDays f_X7_passDays
  simp only [lt_e, f_X0_refusalToAdvance, s_within, bnd_s, m_in, b2_if, m_ref, inb_0, ix_0, ck_t, e10, R.2.1.1]
  by_cases p : 1 ≤ x1 ∧ x1 ≤ 99
  · rw [if_pos p, if_pos p]
    obtain ⟨d, d1, d2, rfl⟩ := rg_of (a := 1) (b := 99) p (by omega) (by omega)
    rw [qi_add]
    by_cases q : D + d ≤ 9999
    · rw [if_pos (show nI (D + d) ≤ 9999 from nI_le (b := 9999) q (by omega)), if_pos (show nI (D + d) ≤ 9999 from nI_le (b := 9999) q (by omega)), bnd_s, rf0]
      obtain ⟨v1, w1, k1, k2, k3, k4, k5, kk⟩ := act_keep2 h R
      obtain ⟨c, v2, w2, a1, a2, a3, a4, a5, hx⟩ := days_eq2 k4 d2 q
      rw [k1, bnd_s, a1, bnd_s, k2, bnd_s, a2, bnd_s]
      exact oc_ok rfl rfl (lb_n (by omega)) (IV_act a4 a5 ⟨_, _, _, _, _, a3⟩ k3) (kp_1b kk a5)
    · rw [if_neg (show ¬ nI (D + d) ≤ 9999 from nI_ge (a := 9999) (by omega) (by omega)), if_neg (show ¬ nI (D + d) ≤ 9999 from nI_ge (a := 9999) (by omega) (by omega)), bnd_s]
      exact oc_ref (k := 3) (rf3 _ _) rfl (by omega) (by omega)
  · rw [if_neg p, if_neg p, bnd_s]
    exact oc_ref (k := 2) (rf2 _ _) rfl (by omega) (by omega)
theorem oc_setLine (h : IV v w) (x1 x2 x3 x4 x5 : Int32) : Oc v w (f_X6_setLine x1 x2 x3 x4 x5 v) (f_X7_setLine x1 x2 x3 x4 x5 w) := by
  obtain ⟨D, n, m, f, dd, R⟩ := h.1
  have hD := R.1.1
  have hf := R.1.2.2.2
  have R1 : Rl v 0 (up w 0 12 0 1) D n m f dd := by rw [th_1 w 0 (by omega)]; exact R
  unfold f_X6_setLine f_X7_setLine
  simp only [jn_e, lt_e, f_X0_refusalToArrange, s_hasF R.2.1.2.2.2.2.2.2.1 hf, s_isLine, s_within, s_isRange, bnd_s, m_isFeast R1.2.1.2.2.2.2.2.2.2 hf, m_isLine, m_in, m_areNotes, b2_if, m_ref]
  by_cases p : isI x1 f
  · rw [if_pos p, if_pos p]
    by_cases p2 : 0 ≤ x2 ∧ x2 ≤ 3
    · rw [if_pos p2, if_pos p2]
      by_cases p3 : 0 ≤ x3 ∧ x3 ≤ 6
      · rw [if_pos p3, if_pos p3]
        by_cases p4 : pN x4 x5
        · rw [if_pos p4, if_pos p4]
          obtain ⟨j, hj, rfl⟩ := isI_of p
          obtain ⟨l, -, hl, rfl⟩ := rg_of (a := 0) (b := 3) p2 (by omega) (by omega)
          obtain ⟨q, -, hq, rfl⟩ := rg_of (a := 0) (b := 6) p3 (by omega) (by omega)
          have hd := (R.2.2.2.2.1 j hj).1
          have hd1 := (R1.2.2.2.2.1 j hj).1
          rw [s_held 0 (by omega), m_held (by omega), bnd_s, bnd_s, b2_if, b2_if, R.2.1.1, hd.2.2.2, R1.2.1.2.1, hd1.2.2.1]
          by_cases p5 : ¬ nI D < nI (dd j)
          · rw [if_pos p5, if_pos p5, bnd_s]
            exact oc_ref (k := 3) (rf3 _ _) rfl (by omega) (by omega)
          · rw [if_neg p5, if_neg p5, bnd_s, rf0]
            obtain ⟨v1, w1, k1, k2, k3, k4, k5, kk⟩ := act_keep2 h R
            obtain ⟨S, v2, w2, hx, a1, a2, a3, a4, a5⟩ := line_eq k4 hj (show l < 4 by omega) hq x4 x5
            obtain ⟨i1, i2⟩ := act_end k3 k5 a4 a5 a3
            rw [k1, bnd_s, a1, bnd_s, k2, bnd_s, a2, bnd_s]
            exact oc_ok rfl rfl (lb_n (by omega)) i1 (kp_1 kk a5)
        · rw [if_neg p4, if_neg p4, bnd_s]
          exact oc_ref (k := 2) (rf2 _ _) rfl (by omega) (by omega)
      · rw [if_neg p3, if_neg p3, bnd_s]
        exact oc_ref (k := 2) (rf2 _ _) rfl (by omega) (by omega)
    · rw [if_neg p2, if_neg p2, bnd_s]
      exact oc_ref (k := 1) (rf1 _ _) rfl (by omega) (by omega)
  · rw [if_neg p, if_neg p, bnd_s]
    exact oc_ref (k := 1) (rf1 _ _) rfl (by omega) (by omega)
theorem oc_borrow (h : IV v w) (x1 x2 x3 x4 x5 x6 : Int32) : Oc v w (f_X6_borrow x1 x2 x3 x4 x5 x6 v) (f_X7_borrow x1 x2 x3 x4 x5 x6 w) := by
  obtain ⟨D, n, m, f, dd, R⟩ := h.1
  have hn := R.1.2.1
  have e1 : up w 0 12 0 1 = w 1 := th_1 w 0 (by omega)
  have e11 : w 1 1 = nI n := R.2.1.2.2.2.1
  have n10 : ¬ (1 : Int32) = 0 := by decide
  unfold f_X6_borrow f_X7_borrow
  simp only [jn_e, lt_e, f_X0_refusalToHire, s_within, s_isHR, s_isFull R.2.1.2.2.1 hn, bnd_s, m_isChoir, m_in, m_isHigh, m_areNotes, b2_if, m_ref, inb_1, ix_1, ck_t, e1, e11, n10, if_true, if_false]
  by_cases p : 0 ≤ x1 ∧ x1 ≤ 4
  · rw [if_pos p, if_pos p]
    obtain ⟨c, -, hc, rfl⟩ := rg_of (a := 0) (b := 4) p (by omega) (by omega)
    have r2 : ∀ {F : Option (Int32 × Nat × mC)}, F = some (0, 2, v) → Oc v w F (some (0, up (up w 0 12 0) 0 12 2)) := fun hF => oc_ref (k := 2) hF rfl (by omega) (by omega)
    by_cases p2 : 0 ≤ x2 ∧ x2 ≤ 9
    · rw [if_pos p2, if_pos p2]
      by_cases p3 : pH x3
      · rw [if_pos p3]
        by_cases p4 : pN x4 x5
        · rw [if_pos p4]
          by_cases p6 : 1 ≤ x6 ∧ x6 ≤ 90
          · rw [if_pos p6, if_pos p6, if_pos (show pH x3 ∧ pN x4 x5 from ⟨p3, p4⟩)]
            have e8 : (8 : Int32) + nI c = nI (8 + c) := qi_add 8 c
            have ef : w 1 (8 + c) = v (30, 0, 0) c := R.2.2.2.2.2.2.2 c (by omega)
            by_cases p7 : n = 30
            · rw [if_pos p7, if_pos (by rw [p7]; rfl), bnd_s]
              exact oc_ref (k := 3) (rf3 _ _) rfl (by omega) (by omega)
            · rw [if_neg p7, if_neg (show ¬ nI n = 30 from fun q => p7 ((qi_neq (b := 30) (by omega) (by omega)).mp q))]
              simp (disch := omega) only [e8, qi_inb, qi_ix, ck_t, ef]
              have key : (-2 : Int32) ≤ v (30, 0, 0) c ↔ (-3 : Int32) < v (30, 0, 0) c := by
                rw [qi_le, qi_lt, show (-2 : Int32).toInt = -2 from rfl, show (-3 : Int32).toInt = -3 from rfl]
                omega
              rw [i2b _ _ key]
              by_cases p8 : (-3 : Int32) < v (30, 0, 0) c
              · rw [if_pos p8, if_pos p8, bnd_s, rf0]
                obtain ⟨v1, w1, k1, k2, k3, k4, k5, kk⟩ := act_keep2 h R
                obtain ⟨v2, u1, u2, u3, a1, a2, a3, a4, a5, a6, a7⟩ := hire_eq k4 (by omega) (show c < 5 by omega) (x2 := x2) p3 p4 p6
                obtain ⟨i1, i2⟩ := act_end k3 k5 a6 a7 a5
                rw [k1, bnd_s, a1, bnd_s, k2, bnd_s, a2, bnd_s]
                simp only [a3, bnd_s, a4, inb_0, ix_0, ck_t]
                exact oc_ok rfl rfl (lb_n (by omega)) i1 (kp_1 kk a7)
              · rw [if_neg p8, if_neg p8, bnd_s]
                exact oc_ref (k := 3) (rf3 _ _) rfl (by omega) (by omega)
          · rw [if_neg p6, if_neg p6, bnd_s]
            exact r2 (rf2 _ _)
        · rw [if_neg p4]
          by_cases p6 : 1 ≤ x6 ∧ x6 ≤ 90
          · rw [if_pos p6, if_neg (show ¬ (pH x3 ∧ pN x4 x5) from fun q => p4 q.2), bnd_s]; exact r2 (rf2 _ _)
          · rw [if_neg p6, bnd_s]; exact r2 (rf2 _ _)
      · rw [if_neg p3]
        by_cases p6 : 1 ≤ x6 ∧ x6 ≤ 90
        · rw [if_pos p6, if_neg (show ¬ (pH x3 ∧ pN x4 x5) from fun q => p3 q.1), bnd_s]; exact r2 (rf2 _ _)
        · rw [if_neg p6, bnd_s]; exact r2 (rf2 _ _)
    · rw [if_neg p2, if_neg p2, bnd_s]
      exact r2 (rf2 _ _)
  · rw [if_neg p, if_neg p, bnd_s]
    exact oc_ref (k := 1) (rf1 _ _) rfl (by omega) (by omega)
theorem oc_lend (h : IV v w) (x1 x2 x3 : Int32) : Oc v w (f_X6_lend x1 x2 x3 v) (f_X7_lend x1 x2 x3 w) := by
  obtain ⟨D, n, m, f, dd, R⟩ := h.1
  have hn := R.1.2.1
  have R1 : Rl v 0 (up w 0 12 0 1) D n m f dd := by rw [th_1 w 0 (by omega)]; exact R
  unfold f_X6_lend f_X7_lend
  simp only [jn_e, lt_e, s_refSend R, bnd_s, m_isSinger R1.2.1.2.2.2.1 hn, m_isChoir, m_in, b2_if, m_ref]
  by_cases p : isI x1 n
  · rw [if_pos p, if_pos p]
    obtain ⟨s, hs, rfl⟩ := isI_of p
    rw [qi_ix (by omega)]
    by_cases p2 : 0 ≤ x2 ∧ x2 ≤ 4
    · rw [if_pos p2, if_pos p2]
      obtain ⟨c, -, hc, rfl⟩ := rg_of (a := 0) (b := 4) p2 (by omega) (by omega)
      by_cases p3 : 1 ≤ x3 ∧ x3 ≤ 90
      · rw [if_pos p3, if_pos p3, m_canLend R1 hs, bnd_s, b2_if]
        by_cases q : nI D ≤ v (10, 0, 0) s ∧ v (8, 0, 0) s = -1 ∧ v (11, 0, 0) s < nI D
        · rw [if_pos q, if_pos q, rf0]
          obtain ⟨v1, w1, k1, k2, k3, k4, k5, kk⟩ := act_keep2 h R
          obtain ⟨x, v2, w2, a1, a2, hx, a3, a4, a5⟩ := send_eq k4 hs (show c < 5 by omega) x3
          obtain ⟨i1, i2⟩ := act_end k3 k5 a4 a5 a3
          rw [k1, bnd_s, a1, bnd_s, k2, bnd_s, a2, bnd_s]
          exact oc_ok rfl rfl (by
            obtain ⟨y, -, hy, rfl⟩ := rg_of (a := 1) (b := 90) p3 (by omega) (by omega)
            have := R.1.1
            rw [hx, qi_add]
            exact lb_n (by omega)) i1 (kp_1 kk a5)
        · rw [if_neg q, if_neg q]
          exact oc_ref (k := 3) (rf3 _ _) rfl (by omega) (by omega)
      · rw [if_neg p3, if_neg p3]
        exact oc_ref (k := 2) (rf2 _ _) rfl (by omega) (by omega)
    · rw [if_neg p2, if_neg p2]
      exact oc_ref (k := 1) (rf1 _ _) rfl (by omega) (by omega)
  · rw [if_neg p, if_neg p]
    exact oc_ref (k := 1) (rf1 _ _) rfl (by omega) (by omega)
theorem oc_excuse (h : IV v w) (x1 x2 x3 : Int32) : Oc v w (f_X6_excuse x1 x2 x3 v) (f_X7_excuse x1 x2 x3 w) := by
  obtain ⟨D, n, m, f, dd, R⟩ := h.1
  have hn := R.1.2.1
  have R1 : Rl v 0 (up w 0 12 0 1) D n m f dd := by rw [th_1 w 0 (by omega)]; exact R
  obtain ⟨k, hk, g1, g2, g3, g4⟩ := s_refNote R x1 x2 x3
  obtain ⟨t, ht, t1, t2⟩ := m_areDays R1 x2 x3
  unfold f_X6_excuse f_X7_excuse
  simp only [lt_e, hk, ht, bnd_s, m_isSinger R1.2.1.2.2.2.1 hn, b2_if, m_ref]
  by_cases p : isI x1 n
  · rw [if_pos p]
    obtain ⟨s, hs, rfl⟩ := isI_of p
    rw [qi_ix (by omega)] at g3 g4
    by_cases p2 : pD D x2 x3
    · rw [if_neg (show ¬ t = 0 by rw [t1 p2]; decide), m_canExc R1 hs, bnd_s, b2_if]
      by_cases q : nI D ≤ v (10, 0, 0) s ∧ qc (hitC v 0 (nI s) x2 x3) m = 0 ∧ m < 60
      · rw [if_pos q, g3 p p2 q, rf0]
        obtain ⟨v1, w1, k1, k2, k3, k4, k5, kk⟩ := act_keep2 h R
        obtain ⟨a, b, b1, b2, b3, b4, rfl, rfl⟩ := p2
        obtain ⟨x, v2, w2, a1, a2, -, hx, a3, a4, a5⟩ := note_eq k4 q.2.2 (nI s) b2 (show b ≤ 10059 by omega)
        obtain ⟨i1, i2⟩ := act_end k3 k5 a4 a5 a3
        rw [k1, bnd_s, a1, bnd_s, k2, bnd_s, a2, bnd_s]
        exact oc_ok rfl rfl (lb_n (by omega)) i1 (kp_1 kk a5)
      · rw [if_neg q, g4 p p2 q]
        exact oc_ref (k := 3) (rf3 _ _) rfl (by omega) (by omega)
    · rw [if_pos (t2 p2), g2 p p2]
      exact oc_ref (k := 2) (rf2 _ _) rfl (by omega) (by omega)
  · rw [if_neg p, g1 p]
    exact oc_ref (k := 1) (rf1 _ _) rfl (by omega) (by omega)
theorem oc_announce (h : IV v w) (x1 x2 : Int32) : Oc v w (f_X6_announce x1 x2 v) (f_X7_announce x1 x2 w) := by
  obtain ⟨D, n, m, f, dd, R⟩ := h.1
  have hD := R.1.1
  have hf := R.1.2.2.2
  have R1 : Rl v 0 (up w 0 12 0 1) D n m f dd := by rw [th_1 w 0 (by omega)]; exact R
  unfold f_X6_announce f_X7_announce
  simp only [jn_e, lt_e, f_X0_refusalToAddFeast, s_within, s_isFullF R.2.1.2.2.2.2.2.2.1 hf, s_feastOn R, m_isFut R1, m_in, m_canAnn R1, bnd_s, b2_if, m_ref, R.2.1.1]
  by_cases p : nI D + 1 ≤ x1 ∧ x1 ≤ 9999
  · rw [if_pos p, if_pos p]
    by_cases p2 : 1 ≤ x2 ∧ x2 ≤ 3
    · rw [if_pos p2, if_pos p2]
      by_cases p3 : f = 20
      · rw [if_pos p3, if_neg (fun q => absurd q.1 (by omega)), bnd_s]
        exact oc_ref (k := 3) (rf3 _ _) rfl (by omega) (by omega)
      · rw [if_neg p3]
        by_cases p4 : 0 < qc (onD dd x1) f
        · rw [if_pos p4, if_neg (fun q => q.2 p4), bnd_s]
          exact oc_ref (k := 3) (rf3 _ _) rfl (by omega) (by omega)
        · rw [if_neg p4, if_pos (show f < 20 ∧ ¬ 0 < qc (onD dd x1) f from ⟨by omega, p4⟩), bnd_s, rf0]
          rw [nI_1] at p
          obtain ⟨d, d1, d2, rfl⟩ := rg_of (a := D + 1) (b := 9999) p (by omega) (by omega)
          obtain ⟨v1, w1, k1, k2, k3, k4, k5, kk⟩ := act_keep2 h R
          have hno : ∀ j, j < f → dd j ≠ d := fun j hj e => p4 (qc_pos.mpr ⟨j, hj, decide_eq_true (by rw [e])⟩)
          obtain ⟨v2, w2, a1, a2, a3, a4, a5⟩ := feast_eq k4 (by omega) (by omega) d2 hno x2
          obtain ⟨i1, i2⟩ := act_end k3 k5 a4 a5 a3
          rw [k1, bnd_s, a1, bnd_s, k2, bnd_s, a2, bnd_s]
          exact oc_ok rfl rfl (lb_n (by omega)) i1 (kp_1 kk a5)
    · rw [if_neg p2, if_neg p2, bnd_s]
      exact oc_ref (k := 2) (rf2 _ _) rfl (by omega) (by omega)
  · rw [if_neg p, if_neg p, bnd_s]
    exact oc_ref (k := 2) (rf2 _ _) rfl (by omega) (by omega)
theorem rs_ok (h : IV v w) (h4 : w 0 4 = 1) : ∃ D v' w', D ≤ 9999 ∧ f_X6_restoreSnapshot v = some (nI D, 0, v') ∧ w 3 0 = nI D ∧ IV v' w' ∧ (∀ i, i < 1483 → w' 1 i = w 3 i) ∧ KP w w' := by
  have e04 : up w 0 12 0 0 4 = w 0 4 := by rw [up_r, if_neg (by omega)]
  rcases h.2.2.1 with ⟨a1, a2⟩ | ⟨a1, a2, hs⟩
  · exact absurd (a2.symm.trans h4) (by decide)
  · obtain ⟨v1, w1, k1, k2, ⟨i1, ⟨k, bk, i2⟩, i3, i4⟩, k4, k5, k6⟩ := keep_IV (IV_th 0 h)
    have kk : KP w w1 := kp_s h k2
    obtain ⟨D, n, m, f, dd, R⟩ := hs
    have R1 : Rl v1 2 (w1 3) D n m f dd := Rl_x (Ag_eq fun k j i c1 c2 => by rw [k4 (k, 2, j) (kn (by omega) _ _ _ _) (kn (by omega) _ _ _ _) (Or.inr (Or.inr (by show 2 < 3; omega)))]) (fun i _ => by rw [k5 3 (by omega) (by omega), th_1 w 0 (by omega)]) R
    obtain ⟨v2, s1, s2, s3⟩ := s_copy (v := v1) (o := 0) (o1 := 2) (n := n) (m := m) (f := f) (by omega) R1.2.1.2.2.1 R1.2.1.2.2.2.2.1 R1.2.1.2.2.2.2.2.2.1 R1.1.2.1 R1.1.2.2.1 R1.1.2.2.2
    have hl := m_lays (n0 := 1483) (n1 := 1483) (k0 := 3) (k2 := 1) (x1 := 0) (x3 := 0) (by omega) (by omega) (by omega) (by omega) (by omega) w1
    generalize hw2 : (fun z i => if z = 1 ∧ 0 ≤ i ∧ i < 0 + 1483 then w1 3 (0 + (i - 0)) else w1 z i) = w2 at hl
    have c1' : ∀ i, i < 1483 → w2 1 i = w1 3 i := fun i hi => by
      rw [← hw2]
      show (if 1 = 1 ∧ 0 ≤ i ∧ i < 0 + 1483 then w1 3 (0 + (i - 0)) else _) = _
      rw [if_pos ⟨rfl, by omega, by omega⟩, show 0 + (i - 0) = i by omega]
    have co : ∀ z, z ≠ 1 → w2 z = w1 z := fun z hz => by
      rw [← hw2]
      exact funext fun i => if_neg (fun q => hz q.1)
    have R2 : Rl v2 0 (w2 1) D n m f dd := Rl_x s2 c1' R1
    have hiv : IV v2 w2 := IV_act (CB_of s3) (fun z _ hz => co z hz) ⟨D, n, m, f, dd, R2⟩ ⟨i1, ⟨k, bk, i2⟩, i3, i4⟩
    refine ⟨D, v2, w2, R.1.1, ?_, R.2.1.2.1, hiv, fun i hi => by rw [c1' i hi, k5 3 (by omega) (by omega), th_1 w 0 (by omega)], kp_1 kk co⟩
    · unfold f_X6_restoreSnapshot
      rw [jn_e, a1, if_neg (show ¬ (1 : Int32) = 0 by decide)]
      simp only [rf0]
      rw [k1, bnd_s, s1, bnd_s, R2.2.1.1]
theorem ts_ok (h : IV v w) : ∃ D v' w', f_X6_takeSnapshot v = some (nI D, v') ∧ w 1 0 = nI D ∧ IV v' w' ∧ (∀ i, i < 1483 → w' 3 i = w 1 i) ∧ w' 1 = w 1 ∧ w' 0 4 = 1 ∧ w' 0 2 = w 0 2 ∧ w' 0 11 = w 0 11 := by
  obtain ⟨⟨D, n, m, f, dd, R⟩, ⟨k, bk, h2⟩, h3, h4⟩ := h
  obtain ⟨v1, s1, s2, s3⟩ := s_copy (v := v) (o := 2) (o1 := 0) (n := n) (m := m) (f := f) (by omega) R.2.1.2.2.1 R.2.1.2.2.2.2.1 R.2.1.2.2.2.2.2.2.1 R.1.2.1 R.1.2.2.1 R.1.2.2.2
  have hl := m_lays (n0 := 1483) (n1 := 1483) (k0 := 1) (k2 := 3) (x1 := 0) (x3 := 0) (by omega) (by omega) (by omega) (by omega) (by omega) (up w 0 12 0)
  generalize hw1 : (fun z i => if z = 3 ∧ 0 ≤ i ∧ i < 0 + 1483 then up w 0 12 0 1 (0 + (i - 0)) else up w 0 12 0 z i) = w1 at hl
  have a3 : ∀ i, i < 1483 → w1 3 i = w 1 i := fun i hi => by
    rw [← hw1]
    show (if 3 = 3 ∧ 0 ≤ i ∧ i < 0 + 1483 then up w 0 12 0 1 (0 + (i - 0)) else _) = _
    rw [if_pos ⟨rfl, by omega, by omega⟩, th_1 w 0 (by omega), show 0 + (i - 0) = i by omega]
  have ao : ∀ z, z ≠ 3 → w1 z = up w 0 12 0 z := fun z hz => by
    rw [← hw1]
    exact funext fun i => if_neg (fun q => hz q.1)
  have a1 : w1 1 = w 1 := by rw [ao 1 (by omega), th_1 w 0 (by omega)]
  have e0 : v1 (0, 0, 0) = v (0, 0, 0) := s3 _ (Or.inl rfl)
  have hv : ∀ z : kC, z ≠ (0, 0, 0) → (z.1 = 0 ∨ 30 < z.1 ∨ z.2.1 ≠ 2) → up v1 (0, 0, 0) 3 1 z = v z := fun z h0 hz => by
    rw [← s3 z hz]
    exact funext fun i => by rw [up_r, if_neg (fun q => h0 q.1)]
  have hw : ∀ z, z ≠ 0 → z ≠ 3 → up w1 0 4 1 z = w z := fun z h0 hz => by
    rw [← th_1 w 0 h0, ← ao z hz]
    exact funext fun i => by rw [up_r, if_neg (fun q => h0 q.1)]
  have hw0 : ∀ i, i ≠ 4 → i ≠ 12 → up w1 0 4 1 0 i = w 0 i := fun i h4 h12 => by
    rw [up_r, if_neg (fun q => h4 q.2), ao 0 (by omega), up_r, if_neg (fun q => h12 q.2)]
  have hb : ∀ o, o ≠ 2 → ∀ k j i, 1 ≤ k → k ≤ 30 → up v1 (0, 0, 0) 3 1 (k, o, j) i = v (k, o, j) i := fun o ho k j i a b => by rw [hv (k, o, j) (kn (by omega) _ _ _ _) (Or.inr (Or.inr ho))]
  refine ⟨D, up v1 (0, 0, 0) 3 1, up w1 0 4 1, ?_, R.2.1.2.1, ⟨?_, ⟨k, bk, IVr_x ?_ ?_ (fun o h1 h2 => hb o (by omega)) (hw0 2 (by omega) (by omega)) (hw 2 (by omega) (by omega)) h2⟩, Or.inr ⟨?_, ?_, ?_⟩, IVl_x ?_ ?_ (hw0 11 (by omega) (by omega)) (hw 9 (by omega) (by omega)) h4⟩, fun i hi => by rw [up_r, if_neg (by omega)]; exact a3 i hi, hw 1 (by omega) (by omega), by rw [up_r, if_pos ⟨rfl, rfl⟩], hw0 2 (by omega) (by omega), hw0 11 (by omega) (by omega)⟩
  · unfold f_X6_takeSnapshot
    rw [s1, bnd_s, lt_e, hv (1, 0, 0) (by decide) (Or.inr (Or.inr (by show 0 ≠ 2; omega))), R.2.1.1]
  · rw [hw 1 (by omega) (by omega)]
    exact BR_x (hb 0 (by omega)) (fun _ _ => rfl) rfl ⟨D, n, m, f, dd, R⟩
  · rw [up_r, if_neg (by omega), e0]
  · exact hv (31, 0, 0) (by decide) (Or.inr (Or.inl (by show 30 < 31; omega)))
  · rw [up_r, if_pos ⟨rfl, rfl⟩]
  · rw [up_r, if_pos ⟨rfl, rfl⟩]
  · have R2 : Rl v1 2 (w1 3) D n m f dd := Rl_x s2 a3 R
    refine ⟨D, n, m, f, dd, Rl_x (Ag_eq fun k j i a b => ?_) (fun i _ => ?_) R2⟩
    · rw [up_r, if_neg (fun q => by have := (keq3 q.1).1; omega)]
    · rw [up_r, if_neg (fun q => by omega)]
  · rw [hv (32, 0, 0) (by decide) (Or.inr (Or.inl (by show 30 < 32; omega)))]
  · exact hv (33, 0, 0) (by decide) (Or.inr (Or.inl (by show 30 < 33; omega)))
theorem ud_0 (h : IV v w) (h2 : w 0 2 = nI 0) : f_X6_undo v = some (0, 3, v) := by
  obtain ⟨-, ⟨k, bk, a1, a2, a3, -⟩, -⟩ := h
  have hk : k = 0 := (qi_neq (by omega) (by omega)).mp (a3.symm.trans h2)
  subst hk
  unfold f_X6_undo
  rw [jn_e, a2, if_pos (show nI 0 ≤ 0 by decide)]
  simp only [rf3]
theorem ud_ok {r : Nat} (h : IV v w) (hr : r < 4) (h2 : w 0 2 = nI (r + 1)) : ∃ v' w', f_X6_undo v = some (nI r, 0, v') ∧ IV v' w' ∧ w' 0 2 = nI r ∧ (∀ i, i < 1483 → w' 1 i = w 2 (1483 * r + i)) ∧ w' 2 = w 2 ∧ w' 3 = w 3 ∧ w' 0 4 = w 0 4 ∧ w' 0 11 = w 0 11 := by
  have h0 := h
  obtain ⟨h1, ⟨k, bk, a1, a2, a3, a4, a5, a6⟩, h3, h4⟩ := h
  have hk : k = r + 1 := (qi_neq (by omega) (by omega)).mp (a3.symm.trans h2)
  have hk1 : k - 1 = r := by omega
  obtain ⟨D, n, m, f, dd, R⟩ := a6 (k - 1) (by omega)
  obtain ⟨b1, b2, b3⟩ := a4 (k - 1) (by omega)
  obtain ⟨u, hu⟩ : ∃ u, u = up v (0, 0, 0) 5 (nI (k - 1)) := ⟨_, rfl⟩
  have uo : ∀ z, z ≠ (0, 0, 0) → u z = v z := fun z hz => by rw [hu]; exact funext fun i => by rw [up_r, if_neg (fun q => hz q.1)]
  have u5 : u (0, 0, 0) 5 = nI (k - 1) := by rw [hu, up_r, if_pos ⟨rfl, rfl⟩]
  have ui : ∀ i, i ≠ 5 → u (0, 0, 0) i = v (0, 0, 0) i := fun i hi => by rw [hu, up_r, if_neg (fun q => hi q.2)]
  have Ru : Rl u (bk (k - 1)) (fun t => w 2 (1483 * (k - 1) + t)) D n m f dd := Rl_x (Ag_eq fun k j i c1 c2 => by rw [uo _ (kn (by omega) _ _ _ _)]) (fun _ _ => rfl) R
  obtain ⟨v1, s1, s2, s3⟩ := s_copy (v := u) (o := 0) (o1 := bk (k - 1)) (n := n) (m := m) (f := f) (by omega) Ru.2.1.2.2.1 Ru.2.1.2.2.2.2.1 Ru.2.1.2.2.2.2.2.2.1 Ru.1.2.1 Ru.1.2.2.1 Ru.1.2.2.2
  have e0 : v1 (0, 0, 0) = u (0, 0, 0) := s3 _ (Or.inl rfl)
  obtain ⟨x, hx⟩ : ∃ x, x = up (up w 0 12 0) 0 2 (nI (k - 1)) := ⟨_, rfl⟩
  have xo : ∀ z, z ≠ 0 → x z = w z := fun z hz => by rw [hx]; exact funext fun i => by rw [up_r, if_neg (fun q => hz q.1), up_r, if_neg (fun q => hz q.1)]
  have x2 : x 0 2 = nI (k - 1) := by rw [hx, up_r, if_pos ⟨rfl, rfl⟩]
  have xi : ∀ i, i ≠ 2 → i ≠ 12 → x 0 i = w 0 i := fun i c1 c2 => by rw [hx, up_r, if_neg (fun q => c1 q.2), up_r, if_neg (fun q => c2 q.2)]
  have x12 : x 0 12 = 0 := by rw [hx, up_r, if_neg (by omega), up_r, if_pos ⟨rfl, rfl⟩]
  have hl := m_lays (n0 := 5932) (n1 := 1483) (k0 := 2) (k2 := 1) (x1 := 1483 * (k - 1)) (x3 := 0) (by omega) (by omega) (by omega) (by omega) (by omega) x
  generalize hw1 : (fun z i => if z = 1 ∧ 0 ≤ i ∧ i < 0 + 1483 then x 2 (1483 * (k - 1) + (i - 0)) else x z i) = w1 at hl
  have c1' : ∀ i, i < 1483 → w1 1 i = w 2 (1483 * (k - 1) + i) := fun i hi => by
    rw [← hw1]
    show (if 1 = 1 ∧ 0 ≤ i ∧ i < 0 + 1483 then x 2 (1483 * (k - 1) + (i - 0)) else _) = _
    rw [if_pos ⟨rfl, by omega, by omega⟩, xo 2 (by omega), Nat.sub_zero]
  have co : ∀ z, z ≠ 1 → w1 z = x z := fun z hz => by
    rw [← hw1]
    exact funext fun i => if_neg (fun q => hz q.1)
  have hvo : ∀ z : kC, z ≠ (0, 0, 0) → (z.1 = 0 ∨ 30 < z.1 ∨ z.2.1 ≠ 0) → v1 z = v z := fun z z0 hz => (s3 z hz).trans (uo z z0)
  have hb : ∀ o, o ≠ 0 → ∀ k j i, 1 ≤ k → k ≤ 30 → v1 (k, o, j) i = v (k, o, j) i := fun o ho k j i a b => by rw [hvo (k, o, j) (kn (by omega) _ _ _ _) (Or.inr (Or.inr ho))]
  refine ⟨v1, w1, ?_, ⟨⟨D, n, m, f, dd, Rl_x s2 c1' Ru⟩, ⟨k - 1, bk, by omega, by rw [e0, u5], by rw [co 0 (by omega), x2], fun i hi => ?_, a5, fun i hi => ?_⟩, IVs_x (by rw [e0, ui 3 (by omega)]) (hb 2 (by omega)) (by rw [co 0 (by omega), xi 4 (by omega) (by omega)]) (by rw [co 3 (by omega), xo 3 (by omega)]) h3, IVl_x (by rw [hvo (32, 0, 0) (by decide) (Or.inr (Or.inl (by show 30 < 32; omega)))]) (hvo (33, 0, 0) (by decide) (Or.inr (Or.inl (by show 30 < 33; omega)))) (by rw [co 0 (by omega), xi 11 (by omega) (by omega)]) (by rw [co 9 (by omega), xo 9 (by omega)]) h4⟩, by rw [co 0 (by omega), x2, hk1], fun i hi => by rw [c1' i hi, hk1], by rw [co 2 (by omega), xo 2 (by omega)], by rw [co 3 (by omega), xo 3 (by omega)], by rw [co 0 (by omega), xi 4 (by omega) (by omega)], by rw [co 0 (by omega), xi 11 (by omega) (by omega)]⟩
  · unfold f_X6_undo
    rw [jn_e, a2, if_neg (show ¬ nI k ≤ 0 from nI_ge (a := 0) (by omega) (by omega))]
    simp only [rf0, a2]
    rw [show nI k - 1 = nI (k - 1) from qi_sub (b := 1) (by omega), lt_e, ← hu, u5, qi_inb (show k - 1 < 4 by omega) (by omega), ck_t, qi_ix (by omega), uo (31, 0, 0) (by decide), b1, qi_ix (by omega), decide_eq_true (show bk (k - 1) < 7 by omega), ck_t, s1, bnd_s, e0, u5, hk1]
  · rw [hvo (31, 0, 0) (by decide) (Or.inr (Or.inl (by show 30 < 31; omega)))]
    exact a4 i hi
  · have := a4 i (by omega)
    refine BR_x (hb (bk i) (by omega)) (fun t ht => ?_) rfl (a6 i (by omega))
    show w1 2 _ = w 2 _
    rw [co 2 (by omega), xo 2 (by omega)]
end Oc1
/-! THE LAW'S CALLS OF ACTS -/
def AR (v : mC) (w : mM) (F : Option (Int32 × mC)) : Prop := ∃ d v', F = some (d, v') ∧ ((d < -1999 ∧ v' = v) ∨ (¬ d < -1999 ∧ ∃ w', IV v' w' ∧ KP w w'))
theorem hc_tbe {F : Option (Int32 × Nat × mC)} : hc (tb F fun r w => some (r, 0, w)) = hc F := by
  rcases F with _ | ⟨x, k, v⟩
  · rfl
  · by_cases h : k = 0
    · subst h; rfl
    · unfold tb
      rw [bnd_s, if_neg h]
      unfold hc
      rw [bnd_s, bnd_s]
      dsimp only
      rw [if_neg h, if_neg h]
theorem ar_of {v : mC} {w : mM} {F : Option (Int32 × Nat × mC)} {G : Option (Int32 × mM)} (h : Oc v w F G) : AR v w (hc F) := by
  obtain ⟨x, k, v', y, w', hF, -, h1 | h1⟩ := h
  · obtain ⟨h2, h3, h4⟩ := h1
    subst h4
    rcases (show k = 1 ∨ k = 2 ∨ k = 3 by omega) with e | e | e <;> subst e
    · exact ⟨-2011, v', by rw [hF]; rfl, Or.inl ⟨by decide, rfl⟩⟩
    · exact ⟨-2012, v', by rw [hF]; rfl, Or.inl ⟨by decide, rfl⟩⟩
    · exact ⟨-2013, v', by rw [hF]; rfl, Or.inl ⟨by decide, rfl⟩⟩
  · obtain ⟨rfl, h2, h3, h4⟩ := h1
    exact ⟨x, v', by rw [hF]; rfl, Or.inr ⟨h2, w', h3, h4⟩⟩
section Ac
variable {v : mC} {w : mM}
theorem ac_0 (h : IV v w) (x2 x3 x4 : Int32) : AR v w (f_L_call 0 x2 x3 x4 v) := by
  have e : f_L_call 0 x2 x3 x4 v = hc (f_X6_register x2 x3 (x4 &&& (127 : Int32)) ((x4 >>> ((7 : Int32) &&& 31)) &&& (127 : Int32)) (x4 >>> ((14 : Int32) &&& 31)) v) := by
    unfold f_L_call f_L_act
    rw [if_pos (show (0 : Int32) < 8 by decide)]
    rw [if_pos rfl]
    simp only [lt_e, hc_tbe]
  rw [e]
  exact ar_of (oc_register h _ _ _ _ _)
theorem ac_1 (h : IV v w) (x2 x3 x4 : Int32) : AR v w (f_L_call 1 x2 x3 x4 v) := by
  have e : f_L_call 1 x2 x3 x4 v = hc (f_X6_leave x2 v) := by
    unfold f_L_call f_L_act
    rw [if_pos (show (1 : Int32) < 8 by decide)]
    rw [if_neg (show ¬ (1 : Int32) = 0 by decide)]
    rw [if_pos rfl]
    simp only [lt_e, hc_tbe]
  rw [e]
  exact ar_of (oc_leave h _)
theorem ac_2 (h : IV v w) (x2 x3 x4 : Int32) : AR v w (f_L_call 2 x2 x3 x4 v) := by
  have e : f_L_call 2 x2 x3 x4 v = hc (f_X6_borrow x2 (x3 &&& (15 : Int32)) ((90 : Int32) + (x3 >>> ((4 : Int32) &&& 31))) (x4 &&& (63 : Int32)) ((x4 >>> ((6 : Int32) &&& 31)) &&& (63 : Int32)) (x4 >>> ((12 : Int32) &&& 31)) v) := by
    unfold f_L_call f_L_act
    rw [if_pos (show (2 : Int32) < 8 by decide)]
    rw [if_neg (show ¬ (2 : Int32) = 0 by decide)]
    rw [if_neg (show ¬ (2 : Int32) = 1 by decide)]
    rw [if_pos rfl]
    simp only [lt_e, hc_tbe]
  rw [e]
  exact ar_of (oc_borrow h _ _ _ _ _ _)
theorem ac_3 (h : IV v w) (x2 x3 x4 : Int32) : AR v w (f_L_call 3 x2 x3 x4 v) := by
  have e : f_L_call 3 x2 x3 x4 v = hc (f_X6_lend x2 x3 x4 v) := by
    unfold f_L_call f_L_act
    rw [if_pos (show (3 : Int32) < 8 by decide)]
    rw [if_neg (show ¬ (3 : Int32) = 0 by decide)]
    rw [if_neg (show ¬ (3 : Int32) = 1 by decide)]
    rw [if_neg (show ¬ (3 : Int32) = 2 by decide)]
    rw [if_pos rfl]
    simp only [lt_e, hc_tbe]
  rw [e]
  exact ar_of (oc_lend h _ _ _)
theorem ac_4 (h : IV v w) (x2 x3 x4 : Int32) : AR v w (f_L_call 4 x2 x3 x4 v) := by
  have e : f_L_call 4 x2 x3 x4 v = hc (f_X6_excuse x2 x3 x4 v) := by
    unfold f_L_call f_L_act
    rw [if_pos (show (4 : Int32) < 8 by decide)]
    rw [if_neg (show ¬ (4 : Int32) = 0 by decide)]
    rw [if_neg (show ¬ (4 : Int32) = 1 by decide)]
    rw [if_neg (show ¬ (4 : Int32) = 2 by decide)]
    rw [if_neg (show ¬ (4 : Int32) = 3 by decide)]
    rw [if_pos rfl]
    simp only [lt_e, hc_tbe]
  rw [e]
  exact ar_of (oc_excuse h _ _ _)
theorem ac_5 (h : IV v w) (x2 x3 x4 : Int32) : AR v w (f_L_call 5 x2 x3 x4 v) := by
  have e : f_L_call 5 x2 x3 x4 v = hc (f_X6_announce x2 x3 v) := by
    unfold f_L_call f_L_act
    rw [if_pos (show (5 : Int32) < 8 by decide)]
    rw [if_neg (show ¬ (5 : Int32) = 0 by decide)]
    rw [if_neg (show ¬ (5 : Int32) = 1 by decide)]
    rw [if_neg (show ¬ (5 : Int32) = 2 by decide)]
    rw [if_neg (show ¬ (5 : Int32) = 3 by decide)]
    rw [if_neg (show ¬ (5 : Int32) = 4 by decide)]
    rw [if_pos rfl]
    simp only [lt_e, hc_tbe]
  rw [e]
  exact ar_of (oc_announce h _ _)
theorem ac_6 (h : IV v w) (x2 x3 x4 : Int32) : AR v w (f_L_call 6 x2 x3 x4 v) := by
  have e : f_L_call 6 x2 x3 x4 v = hc (f_X6_setLine x2 x3 (x4 &&& (7 : Int32)) ((x4 >>> ((3 : Int32) &&& 31)) &&& (63 : Int32)) (x4 >>> ((9 : Int32) &&& 31)) v) := by
    unfold f_L_call f_L_act
    rw [if_pos (show (6 : Int32) < 8 by decide)]
    rw [if_neg (show ¬ (6 : Int32) = 0 by decide)]
    rw [if_neg (show ¬ (6 : Int32) = 1 by decide)]
    rw [if_neg (show ¬ (6 : Int32) = 2 by decide)]
    rw [if_neg (show ¬ (6 : Int32) = 3 by decide)]
    rw [if_neg (show ¬ (6 : Int32) = 4 by decide)]
    rw [if_neg (show ¬ (6 : Int32) = 5 by decide)]
    rw [if_pos rfl]
    simp only [lt_e, hc_tbe]
  rw [e]
  exact ar_of (oc_setLine h _ _ _ _ _)
theorem ac_7 (h : IV v w) (x2 x3 x4 : Int32) : AR v w (f_L_call 7 x2 x3 x4 v) := by
  have e : f_L_call 7 x2 x3 x4 v = hc (f_X6_passDays x2 v) := by
    unfold f_L_call f_L_act
    rw [if_pos (show (7 : Int32) < 8 by decide)]
    rw [if_neg (show ¬ (7 : Int32) = 0 by decide)]
    rw [if_neg (show ¬ (7 : Int32) = 1 by decide)]
    rw [if_neg (show ¬ (7 : Int32) = 2 by decide)]
    rw [if_neg (show ¬ (7 : Int32) = 3 by decide)]
    rw [if_neg (show ¬ (7 : Int32) = 4 by decide)]
    rw [if_neg (show ¬ (7 : Int32) = 5 by decide)]
    rw [if_neg (show ¬ (7 : Int32) = 6 by decide)]
    simp only [lt_e, hc_tbe]
  rw [e]
  exact ar_of (oc_passDays h _)
theorem ac_34 (h : IV v w) (h4 : w 0 4 = 1) (x2 x3 x4 : Int32) : AR v w (f_L_call 34 x2 x3 x4 v) := by
  have e : f_L_call 34 x2 x3 x4 v = hc (f_X6_restoreSnapshot v) := by
    unfold f_L_call f_L_rest
    rw [if_neg (by decide), if_neg (by decide), if_neg (by decide), if_neg (by decide), if_neg (by decide), if_neg (by decide), if_neg (by decide)]
    simp only [hc_tbe]
  obtain ⟨D, v', w', hD, h1, -, h2, -, h3⟩ := rs_ok h h4
  rw [e, h1]
  exact ⟨nI D, v', rfl, Or.inr ⟨lb_n (by omega), w', h2, h3⟩⟩
theorem ac_33 (h : IV v w) (h2 : w 0 2 = nI 0) (x2 x3 x4 : Int32) : f_L_call 33 x2 x3 x4 v = some (-2013, v) := by
  have e : f_L_call 33 x2 x3 x4 v = hc (f_X6_undo v) := by
    unfold f_L_call f_L_rest
    rw [if_neg (by decide), if_neg (by decide), if_neg (by decide), if_neg (by decide), if_neg (by decide), if_neg (by decide), if_pos rfl]
    simp only [hc_tbe]
  rw [e, ud_0 h h2]
  rfl
end Ac
