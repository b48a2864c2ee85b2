/-! ACTS ON SINGERS: on both sides -/
theorem rg_of {x : Int32} {a b : Nat} (h : nI a ≤ x ∧ x ≤ nI b) (ha : a < 2147483648) (hb : b < 2147483648) : ∃ k, a ≤ k ∧ k ≤ b ∧ x = nI k := by
  obtain ⟨h1, h2⟩ := h
  rw [qi_le, qi_I ha] at h1
  rw [qi_le, qi_I hb] at h2
  obtain ⟨k, hk, rfl⟩ := isI_of (x := x) (n := b + 1) ⟨by omega, by omega⟩
  rw [qi_I (by omega)] at h1
  exact ⟨k, by omega, by omega, rfl⟩
section Acts
variable {v : mC} {o : Nat} {w : mM} {D n m f : Nat} {dd : Nat → Nat}
theorem CB_of {v' : mC} (h : ∀ z : kC, (z.1 = 0 ∨ 30 < z.1 ∨ z.2.1 ≠ o) → v' z = v z) : CB o v v' := fun z _ hz => h z hz
theorem enrol_eq (R : Rl v o (w 1) D n m f dd) (hn : n < 30) {x1 x2 x3 x4 x5 : Int32} (h1 : 7 ≤ x1 ∧ x1 ≤ 70) (h2 : pH x2) (h3 : pN x3 x4) (h5 : x5 = 0 ∨ (12 ≤ x5 ∧ x5 ≤ 17)) :
    ∃ v' w', f_X0_enrol o x1 x2 x3 x4 x5 v = some (nI n, v') ∧ f_X7_registers x1 x2 x3 x4 x5 w = some (nI n, w') ∧ Rl v' o (w' 1) D (n + 1) m f dd ∧ CB o v v' ∧ ∀ z, z ≠ 1 → w' z = w z := by
  obtain ⟨y, y1, y2, rfl⟩ := rg_of (a := 7) (b := 70) h1 (by omega) (by omega)
  obtain ⟨hh, -, hh2, rfl⟩ := rg_of (a := 90) (b := 210) h2 (by omega) (by omega)
  obtain ⟨lo, -, lo2, rfl⟩ := rg_of (a := 0) (b := 48) h3.1 (by omega) (by omega)
  obtain ⟨hi, -, hi2, rfl⟩ := rg_of (a := lo) (b := 48) h3.2 (by omega) (by omega)
  obtain ⟨b, b1, rfl⟩ : ∃ b : Nat, b ≤ 17 ∧ x5 = nI b := by
    rcases h5 with e | e
    · exact ⟨0, by omega, e⟩
    · obtain ⟨b, -, b2, rfl⟩ := rg_of (a := 12) (b := 17) e (by omega) (by omega)
      exact ⟨b, b2, rfl⟩
  have hD := R.1.1
  obtain ⟨c1, c2, c3, c4, c5, c6, c7, c8⟩ := R.2.1
  have hV := R.2.2.2.2.2.2.2
  have eb : v (1, o, 0) 0 - nI y * 360 = nI D - nI (y * 360) := by rw [c1, show (360 : Int32) = nI 360 from rfl, qi_mul]
  obtain ⟨v1, s1, s2, s3, s4, t3, t4, t5, t6, t7, t8, t9, t10, t11, t12, t13⟩ := s_add (o := o) c3 hn (nI D - nI (y * 360)) (nI hh) (nI lo) (nI hi)
  obtain ⟨w1, m1, m2, m3, m4, u0, u1, u2, u3, u4, u5, u6, u7, u8, u9, u10, u11, u12⟩ := m_enters (w := w) c4 hn (-1) (nI y) (nI hh) (nI lo) (nI hi)
  have v1k : ∀ k j, k ≠ 2 → ¬ (3 ≤ k ∧ k ≤ 13) → v1 (k, o, j) = v (k, o, j) := fun k j h2 h3 => s2 _ (kn h2 _ _ _ _) (fun t t1 t2 => kn (by omega) _ _ _ _)
  have cb1 : CB o v v1 := CB_of fun z hz => s2 z (CB_ne hz (by omega) (by omega)) (fun k k1 k2 => CB_ne hz (by omega) (by omega))
  -- the break
  obtain ⟨x, hx⟩ : ∃ x : Int32, x = if b ≤ y then -1 else nI (D + (b - y) * 360) := ⟨_, rfl⟩
  have hx2 : x = -1 ∨ ∃ q : Nat, q ≤ 13599 ∧ x = nI q := by
    rw [hx]
    by_cases e : b ≤ y
    · rw [if_pos e]; exact Or.inl rfl
    · rw [if_neg e]; exact Or.inr ⟨_, by omega, rfl⟩
  obtain ⟨v2, hv2⟩ : ∃ v2, v2 = if b ≤ y then v1 else up v1 (7, o, 0) n x := ⟨_, rfl⟩
  have a7 : v2 (7, o, 0) n = x := by
    rw [hv2]
    by_cases e : b ≤ y
    · rw [if_pos e, t7, hx, if_pos e]
    · rw [if_neg e, up_r, if_pos ⟨rfl, rfl⟩]
  have ao : ∀ z i, ¬ (z = (7, o, 0) ∧ i = n) → v2 z i = v1 z i := fun z i hz => by
    rw [hv2]
    by_cases e : b ≤ y
    · rw [if_pos e]
    · rw [if_neg e, up_r, if_neg hz]
  have az : ∀ z, z ≠ (7, o, 0) → v2 z = v1 z := fun z hz => funext fun i => ao z i (fun q => hz q.1)
  have lx : f_X7_lay (nI n) 6 x w1 = some (up w1 1 (13 + 13 * n + 6) x) := m_lay (j := 6) hn (by omega) x w1
  have wk : ∀ i, i ≠ 13 + 13 * n + 6 → up w1 1 (13 + 13 * n + 6) x 1 i = w1 1 i := fun i hi => by rw [up_r, if_neg (fun q => hi q.2)]
  refine ⟨v2, up w1 1 (13 + 13 * n + 6) x, ?_, ?_, add_Rl R hn (fun z h2 h30 h3 => ?_) ?_ (fun k i k3 k13 hi => ?_) (fun i i1 i8 i13 => ?_) ?_ ⟨?_, ⟨y, D, y1, y2, Nat.le_refl _, ?_, ?_, ?_⟩, ⟨hh, hh2, ?_, ?_⟩, ⟨lo, lo2, ?_, ?_⟩, ⟨hi, hi2, ?_, ?_⟩, ⟨?_, ?_⟩, Or.inr ⟨?_, ?_, Or.inl ⟨?_, ?_⟩⟩, ?_, ?_, ?_, ?_⟩ (fun c hc => ?_), CB_t cb1 (CB_of fun z hz => az z (CB_ne hz (by omega) (by omega))), fun z hz => ?_⟩
  · unfold f_X0_enrol
    rw [eb, s1, bnd_s]
    by_cases e : b ≤ y
    · rw [if_pos e] at hv2
      rw [if_pos (nI_le e (by omega)), hv2]
    · rw [if_neg e] at hv2 hx
      rw [if_neg (nI_ge (by omega) (by omega)), lt_e]
      have ex : v1 (1, o, 0) 0 + (nI b - nI y) * 360 = x := by
        rw [v1k 1 0 (by omega) (by omega), c1, qi_sub (by omega), show (360 : Int32) = nI 360 from rfl, qi_mul, qi_add, hx]
      show ck (inb (nI n) 30) (lt (up v1 (7, o, 0) (ix (nI n)) (v1 (1, o, 0) 0 + (nI b - nI y) * 360)) _) = _
      rw [ex, qi_inb hn (by omega), qi_ix (by omega), ck_t, lt_e, hv2]
  · unfold f_X7_registers
    rw [jn_e, m1, bnd_s]
    by_cases e : b ≤ y
    · rw [if_pos e] at hx
      rw [if_pos (nI_le e (by omega))]
      show (f_X7_lay (nI n) 6 (-1) w1).bind _ = _
      rw [← hx, lx, bnd_s]
    · rw [if_neg e] at hx
      rw [if_neg (nI_ge (by omega) (by omega)), inb_0, ck_t, ix_0, lt_e]
      have ex : w1 1 0 + 360 * (nI b - nI y) = x := by
        rw [m3 0 (by omega) (by omega), c2, qi_sub (by omega), show (360 : Int32) = nI 360 from rfl, qi_mul, qi_add, hx, Nat.mul_comm]
      show (f_X7_lay (nI n) 6 (w1 1 0 + 360 * (nI b - nI y)) w1).bind _ = _
      rw [ex, lx, bnd_s]
  · rw [az z (h3 7 (by omega) (by omega)), s2 z h2 h3]
  · rw [ao _ _ (fun q => absurd (keq3 q.1).1 (by decide)), s3]
  · rw [ao _ _ (fun q => hi q.2), s4 k i k3 k13 hi]
  · rw [wk i (by omega), m3 i i1 i13]
  · rw [wk 1 (by omega), m4]
  · rw [wk _ (by omega), u0, ao _ _ (fun q => absurd (keq3 q.1).1 (by decide)), t8]
  · rw [wk _ (by omega), u1]
  · rw [wk _ (by omega), u2, c2]
  · rw [ao _ _ (fun q => absurd (keq3 q.1).1 (by decide)), t6]
  · rw [wk _ (by omega), u3]
  · rw [ao _ _ (fun q => absurd (keq3 q.1).1 (by decide)), t3]
  · rw [wk _ (by omega), u4]
  · rw [ao _ _ (fun q => absurd (keq3 q.1).1 (by decide)), t4]
  · rw [wk _ (by omega), u5]
  · rw [ao _ _ (fun q => absurd (keq3 q.1).1 (by decide)), t5]
  · rw [up_r, if_pos ⟨rfl, rfl⟩, a7]
  · rw [a7]; exact hx2
  · rw [wk _ (by omega), u7]; rfl
  · rw [ao _ _ (fun q => absurd (keq3 q.1).1 (by decide)), t10, show (1000000 : Int32) = nI 1000000 from rfl, qi_I (by omega)]
    omega
  · rw [ao _ _ (fun q => absurd (keq3 q.1).1 (by decide)), t8]
  · rw [ao _ _ (fun q => absurd (keq3 q.1).1 (by decide)), t10]
    rfl
  · rw [wk _ (by omega), u9, ao _ _ (fun q => absurd (keq3 q.1).1 (by decide)), t9]
  · rw [wk _ (by omega), u10, ao _ _ (fun q => absurd (keq3 q.1).1 (by decide)), t11]
  · rw [wk _ (by omega), u11, ao _ _ (fun q => absurd (keq3 q.1).1 (by decide)), t12]
  · rw [wk _ (by omega), u12, ao _ _ (fun q => absurd (keq3 q.1).1 (by decide)), t13]
  · rw [wk _ (by omega), m3 _ (by omega) (by omega), az _ (kn (by decide) _ _ _ _), v1k 30 0 (by omega) (by omega)]
    exact hV c hc
  · rw [← m2 z hz]
    exact funext fun i => by rw [up_r, if_neg (fun q => hz q.1)]
/-- how many are in the choir -/
def inC (v : mC) (o D : Nat) (s : Nat) : Bool := decide (nI D ≤ v (10, o, 0) s)
theorem s_inCh (R : Rl v o (w 1) D n m f dd) : f_X5_countInChoir o (nI D) v = some (nI (qc (inC v o D) n)) := by
  have hn := R.1.2.1
  have hn1 := R.2.1.2.2.1
  unfold f_X5_countInChoir
  refine lp_go (fuel := 8192) (ev := fun k (X : Int32 → Int32 → Option Int32) => X (nI (qc (inC v o D) k)) (nI k)) n (by omega) (fun k hk self => ?_) (fun self => ?_)
  · show L_X5_countInChoir_4 o (nI D) v self (nI (qc (inC v o D) k)) (nI k) = self (nI (qc (inC v o D) k + (if inC v o D k then 1 else 0))) (nI (k + 1))
    simp (disch := omega) only [L_X5_countInChoir_4, hn1, qi_nle, s_hasLeft o (show k < 30 by omega), bnd_s, b2_if, nI_1]
    rw [if_neg (by omega)]
    unfold inC
    by_cases p : nI D ≤ v (10, o, 0) k
    · rw [if_neg (fun q => q p), if_pos (decide_eq_true p)]
    · rw [if_pos p, if_neg (by rw [decide_eq_false p]; decide)]
      rfl
  · show L_X5_countInChoir_4 o (nI D) v self _ (nI n) = _
    simp (disch := omega) only [L_X5_countInChoir_4, hn1, qi_nle]
    rw [if_pos (Nat.le_refl n)]
theorem m_there (R : Rl v o (w 1) D n m f dd) : f_X7_there w = some (nI (qc (inC v o D) n)) := by
  have hn := R.1.2.1
  have hD := R.1.1
  have hn1 := R.2.1.2.2.2.1
  unfold f_X7_there
  refine lp_go (fuel := 8192) (ev := fun k (X : Int32 → Int32 → Option Int32) => X (nI (qc (inC v o D) k)) (nI k)) n (by omega) (fun k hk self => ?_) (fun self => ?_)
  · show L_X7_there_4 w self (nI (qc (inC v o D) k)) (nI k) = self (nI (qc (inC v o D) k + (if inC v o D k then 1 else 0))) (nI (k + 1))
    obtain ⟨-, -, -, -, -, -, r7, -⟩ := R.2.2.1 k hk
    have w7 : f_X7_its (nI k) 7 w = some (w 1 (13 + 13 * k + 7)) := m_its (j := 7) (by omega) (by omega) w
    simp (disch := omega) only [L_X7_there_4, inb_1, ix_1, hn1, qi_nle, ck_t, w7, bnd_s, nI_1]
    rw [if_neg (by omega)]
    unfold inC
    rcases r7 with ⟨e, g⟩ | ⟨e, g, -⟩
    · rw [e, if_neg (by rw [decide_eq_false (by rw [qi_le, qi_I (by omega)]; omega)]; decide), show (1 : Int32) - nI 1 = 0 by decide, qi_add0]
      rfl
    · rw [e, if_pos (decide_eq_true (by rw [qi_le, qi_I (by omega)]; omega)), show (1 : Int32) - nI 0 = nI 1 by decide, qi_add]
  · show L_X7_there_4 w self _ (nI n) = _
    simp (disch := omega) only [L_X7_there_4, inb_1, ix_1, hn1, qi_nle, ck_t]
    rw [if_pos (Nat.le_refl n)]
theorem dismiss_eq (R : Rl v o (w 1) D n m f dd) {s : Nat} (hs : s < n) : ∃ x v' w', f_X0_dismiss o (nI s) v = some (nI x, v') ∧ f_X7_leaves (nI s) w = some (nI x, w') ∧ Rl v' o (w' 1) D n m f dd ∧ CB o v v' ∧ ∀ z, z ≠ 1 → w' z = w z := by
  have hn := R.1.2.1
  have hD := R.1.1
  obtain ⟨c1, c2, c3, c4, c5, c6, c7, c8⟩ := R.2.1
  have hV := R.2.2.2.2.2.2.2
  have hP := R.2.2.2.2.2.2.1
  obtain ⟨r0, r1, r3, r4, r5, r6, r7, r9, r10, r11, r12⟩ := R.2.2.1 s hs
  generalize hv' : up v (10, o, 0) s (nI D - 1) = v'
  have ao : ∀ z i, ¬ (z = (10, o, 0) ∧ i = s) → v' z i = v z i := fun z i hz => by rw [← hv', up_r, if_neg hz]
  have a10 : v' (10, o, 0) s = nI D - 1 := by rw [← hv', up_r, if_pos ⟨rfl, rfl⟩]
  have az : ∀ z, z ≠ (10, o, 0) → v' z = v z := fun z hz => funext fun i => ao z i (fun q => hz q.1)
  have lk : f_X7_lay (nI s) 7 1 w = some (up w 1 (13 + 13 * s + 7) 1) := m_lay (j := 7) (by omega) (by omega) 1 w
  generalize hw' : up w 1 (13 + 13 * s + 7) 1 = w' at lk
  have wo : ∀ i, i ≠ 13 + 13 * s + 7 → w' 1 i = w 1 i := fun i hi => by rw [← hw', up_r, if_neg (fun q => hi q.2)]
  have w7 : w' 1 (13 + 13 * s + 7) = 1 := by rw [← hw', up_r, if_pos ⟨rfl, rfl⟩]
  have R' : Rl v' o (w' 1) D n m f dd := by
    refine mod_Rl R hs (fun z h1 h30 h3 => az z (h3 10 (by omega) (by omega))) (by rw [az _ (kn (by decide) _ _ _ _)]; exact c1) (fun k i k3 k13 hi => ao _ _ (fun q => hi q.2)) (fun i i4 i13 => wo i (by omega)) ?_ ?_ (fun c hc => by rw [wo _ (by omega), az _ (kn (by decide) _ _ _ _)]; exact hV c hc)
    · unfold RS
      rw [wo _ (by omega), wo _ (by omega), wo _ (by omega), wo _ (by omega), wo _ (by omega), wo _ (by omega), wo _ (by omega), w7, a10, wo _ (by omega), wo _ (by omega), wo _ (by omega), wo _ (by omega), wo _ (by omega),
        az (3, o, 0) (kn (by decide) _ _ _ _), az (4, o, 0) (kn (by decide) _ _ _ _), az (5, o, 0) (kn (by decide) _ _ _ _), az (6, o, 0) (kn (by decide) _ _ _ _), az (7, o, 0) (kn (by decide) _ _ _ _), az (8, o, 0) (kn (by decide) _ _ _ _), az (9, o, 0) (kn (by decide) _ _ _ _), az (11, o, 0) (kn (by decide) _ _ _ _), az (12, o, 0) (kn (by decide) _ _ _ _), az (13, o, 0) (kn (by decide) _ _ _ _)]
      refine ⟨r0, r1, r3, r4, r5, r6, Or.inl ⟨rfl, ?_⟩, r9, r10, r11, r12⟩
      rw [show (1 : Int32) = nI 1 from rfl, qi_subI (by omega) (by omega)]
      omega
    · rw [wo 4 (by omega), wo 5 (by omega), wo 6 (by omega), wo 7 (by omega), az (1, o, 0) (kn (by decide) _ _ _ _)]
      exact hP
  refine ⟨qc (inC v' o D) n, v', w', ?_, ?_, R', CB_of fun z hz => az z (CB_ne hz (by omega) (by omega)), fun z hz => by rw [← hw']; exact funext fun i => by rw [up_r, if_neg (fun q => hz q.1)]⟩
  · unfold f_X0_dismiss
    rw [qi_inb (show s < 30 by omega) (by omega), ck_t, qi_ix (by omega), c1, lt_e, hv', az (1, o, 0) (kn (by decide) _ _ _ _), c1, s_inCh R', bnd_s]
  · unfold f_X7_leaves
    rw [lk, bnd_s, m_there R', bnd_s]
theorem send_eq (R : Rl v o (w 1) D n m f dd) {s c : Nat} (hs : s < n) (hc : c < 5) (x3 : Int32) : ∃ x v' w', f_X0_sendAway o (nI s) (nI c) x3 v = some (x, v') ∧ f_X7_lends (nI s) (nI c) x3 w = some (x, w') ∧ x = nI D + x3 ∧ Rl v' o (w' 1) D n m f dd ∧ CB o v v' ∧ ∀ z, z ≠ 1 → w' z = w z := by
  have hn := R.1.2.1
  have hD := R.1.1
  obtain ⟨c1, c2, c3, c4, c5, c6, c7, c8⟩ := R.2.1
  have hV := R.2.2.2.2.2.2.2
  obtain ⟨p1, p2, p3, p4, p5⟩ := R.2.2.2.2.2.2.1
  obtain ⟨r0, r1, r3, r4, r5, r6, r7, r9, r10, r11, r12⟩ := R.2.2.1 s hs
  obtain ⟨v', hv'⟩ : ∃ v', v' = up (up (up (up v (11, o, 0) s (nI D + x3)) (30, o, 0) c (v (30, o, 0) c + 1)) (1, o, 0) 6 (v (1, o, 0) 6 + 2 * x3)) (1, o, 0) 5 (v (1, o, 0) 5 + 2 * x3) := ⟨_, rfl⟩
  have ao : ∀ z, z ≠ (11, o, 0) → z ≠ (30, o, 0) → z ≠ (1, o, 0) → v' z = v z := fun z h1 h2 h3 => funext fun i => by
    rw [hv', up_r, if_neg (fun q => h3 q.1), up_r, if_neg (fun q => h3 q.1), up_r, if_neg (fun q => h2 q.1), up_r, if_neg (fun q => h1 q.1)]
  have a11 : ∀ i, v' (11, o, 0) i = if i = s then nI D + x3 else v (11, o, 0) i := fun i => by
    rw [hv', up_r, if_neg (fun q => absurd (keq3 q.1).1 (by decide)), up_r, if_neg (fun q => absurd (keq3 q.1).1 (by decide)), up_r, if_neg (fun q => absurd (keq3 q.1).1 (by decide)), up_r]
    by_cases q : i = s
    · rw [if_pos ⟨rfl, q⟩, if_pos q]
    · rw [if_neg (fun e => q e.2), if_neg q]
  have a30 : ∀ i, v' (30, o, 0) i = if i = c then v (30, o, 0) c + 1 else v (30, o, 0) i := fun i => by
    rw [hv', up_r, if_neg (fun q => absurd (keq3 q.1).1 (by decide)), up_r, if_neg (fun q => absurd (keq3 q.1).1 (by decide)), up_r]
    by_cases q : i = c
    · rw [if_pos ⟨rfl, q⟩, if_pos q]
    · rw [if_neg (fun e => q e.2), if_neg q, up_r, if_neg (fun q => absurd (keq3 q.1).1 (by decide))]
  have a1 : ∀ i, i ≠ 5 → i ≠ 6 → v' (1, o, 0) i = v (1, o, 0) i := fun i h5 h6 => by
    rw [hv', up_r, if_neg (fun q => h5 q.2), up_r, if_neg (fun q => h6 q.2), up_r, if_neg (fun q => absurd (keq3 q.1).1 (by decide)), up_r, if_neg (fun q => absurd (keq3 q.1).1 (by decide))]
  have a15 : v' (1, o, 0) 5 = v (1, o, 0) 5 + 2 * x3 := by rw [hv', up_r, if_pos ⟨rfl, rfl⟩]
  have a16 : v' (1, o, 0) 6 = v (1, o, 0) 6 + 2 * x3 := by rw [hv', up_r, if_neg (fun q => absurd q.2 (by decide)), up_r, if_pos ⟨rfl, rfl⟩]
  have lk : f_X7_lay (nI s) 10 (nI D + x3) w = some (up w 1 (13 + 13 * s + 10) (nI D + x3)) := m_lay (j := 10) (by omega) (by omega) _ w
  obtain ⟨w', hw'⟩ : ∃ w', w' = up (up (up w 1 (13 + 13 * s + 10) (nI D + x3)) 1 (8 + c) (w 1 (8 + c) + 1)) 1 5 (w 1 5 + 2 * x3) := ⟨_, rfl⟩
  have wo : ∀ i, i ≠ 13 + 13 * s + 10 → i ≠ 8 + c → i ≠ 5 → w' 1 i = w 1 i := fun i h1 h2 h3 => by
    rw [hw', up_r, if_neg (fun q => h3 q.2), up_r, if_neg (fun q => h2 q.2), up_r, if_neg (fun q => h1 q.2)]
  have w10 : w' 1 (13 + 13 * s + 10) = nI D + x3 := by rw [hw', up_r, if_neg (by omega), up_r, if_neg (by omega), up_r, if_pos ⟨rfl, rfl⟩]
  have w8 : w' 1 (8 + c) = w 1 (8 + c) + 1 := by rw [hw', up_r, if_neg (by omega), up_r, if_pos ⟨rfl, rfl⟩]
  have w5 : w' 1 5 = w 1 5 + 2 * x3 := by rw [hw', up_r, if_pos ⟨rfl, rfl⟩]
  have ec : (8 : Int32) + nI c = nI (8 + c) := qi_add 8 c
  refine ⟨nI D + x3, v', w', ?_, ?_, rfl, mod_Rl R hs (fun z h1 h30 h3 => ao z (h3 11 (by omega) (by omega)) h30 h1) (by rw [a1 0 (by omega) (by omega)]; exact c1) (fun k i k3 k13 hi => ?_) (fun i i4 i13 => wo i (by omega) (by omega) (by omega)) ?_ ?_ (fun g hg => ?_), CB_of fun z hz => ao z (CB_ne hz (by omega) (by omega)) (CB_ne hz (by omega) (by omega)) (CB_ne hz (by omega) (by omega)), fun z hz => ?_⟩
  · have e30 : up v (11, o, 0) s (nI D + x3) (30, o, 0) c = v (30, o, 0) c := by rw [up_r, if_neg (fun q => absurd (keq3 q.1).1 (by decide))]
    have e6 : up (up v (11, o, 0) s (nI D + x3)) (30, o, 0) c (v (30, o, 0) c + 1) (1, o, 0) 6 = v (1, o, 0) 6 := by
      rw [up_r, if_neg (fun q => absurd (keq3 q.1).1 (by decide)), up_r, if_neg (fun q => absurd (keq3 q.1).1 (by decide))]
    have e5 : up (up (up v (11, o, 0) s (nI D + x3)) (30, o, 0) c (v (30, o, 0) c + 1)) (1, o, 0) 6 (v (1, o, 0) 6 + 2 * x3) (1, o, 0) 5 = v (1, o, 0) 5 := by
      rw [up_r, if_neg (fun q => absurd q.2 (by decide)), up_r, if_neg (fun q => absurd (keq3 q.1).1 (by decide)), up_r, if_neg (fun q => absurd (keq3 q.1).1 (by decide))]
    have e11 := a11 s
    rw [if_pos rfl] at e11
    simp (disch := omega) only [f_X0_sendAway, qi_inb, qi_ix, ck_t, lt_e, c1, e30, e6, e5, ← hv', e11]
  · have e8 : up w 1 (13 + 13 * s + 10) (nI D + x3) 1 (8 + c) = w 1 (8 + c) := by rw [up_r, if_neg (by omega)]
    have e5 : up (up w 1 (13 + 13 * s + 10) (nI D + x3)) 1 (8 + c) (w 1 (8 + c) + 1) 1 5 = w 1 5 := by rw [up_r, if_neg (by omega), up_r, if_neg (by omega)]
    have e0 : w' 1 0 = nI D := by rw [wo 0 (by omega) (by omega) (by omega)]; exact c2
    have i5 : inb 5 1483 = true := rfl
    have x5 : ix (5 : Int32) = 5 := rfl
    simp (disch := omega) only [f_X7_lends, inb_0, ix_0, ck_t, c2, lk, bnd_s, ec, qi_inb, qi_ix, lt_e, i5, x5, e8, e5, ← hw', e0]
  · by_cases q : k = 11
    · rw [q, a11, if_neg hi]
    · rw [ao _ (kn q _ _ _ _) (kn (by omega) _ _ _ _) (kn (by omega) _ _ _ _)]
  · have e11 := a11 s
    rw [if_pos rfl] at e11
    unfold RS
    rw [wo _ (by omega) (by omega) (by omega), wo (13 + 13 * s + 1) (by omega) (by omega) (by omega), wo (13 + 13 * s + 2) (by omega) (by omega) (by omega), wo (13 + 13 * s + 3) (by omega) (by omega) (by omega), wo (13 + 13 * s + 4) (by omega) (by omega) (by omega), wo (13 + 13 * s + 5) (by omega) (by omega) (by omega), wo (13 + 13 * s + 6) (by omega) (by omega) (by omega), wo (13 + 13 * s + 7) (by omega) (by omega) (by omega), wo (13 + 13 * s + 8) (by omega) (by omega) (by omega), wo (13 + 13 * s + 9) (by omega) (by omega) (by omega), w10, wo (13 + 13 * s + 11) (by omega) (by omega) (by omega), wo (13 + 13 * s + 12) (by omega) (by omega) (by omega), e11,
      ao (3, o, 0) (kn (by decide) _ _ _ _) (kn (by decide) _ _ _ _) (kn (by decide) _ _ _ _), ao (4, o, 0) (kn (by decide) _ _ _ _) (kn (by decide) _ _ _ _) (kn (by decide) _ _ _ _), ao (5, o, 0) (kn (by decide) _ _ _ _) (kn (by decide) _ _ _ _) (kn (by decide) _ _ _ _), ao (6, o, 0) (kn (by decide) _ _ _ _) (kn (by decide) _ _ _ _) (kn (by decide) _ _ _ _), ao (7, o, 0) (kn (by decide) _ _ _ _) (kn (by decide) _ _ _ _) (kn (by decide) _ _ _ _), ao (8, o, 0) (kn (by decide) _ _ _ _) (kn (by decide) _ _ _ _) (kn (by decide) _ _ _ _), ao (9, o, 0) (kn (by decide) _ _ _ _) (kn (by decide) _ _ _ _) (kn (by decide) _ _ _ _), ao (10, o, 0) (kn (by decide) _ _ _ _) (kn (by decide) _ _ _ _) (kn (by decide) _ _ _ _), ao (12, o, 0) (kn (by decide) _ _ _ _) (kn (by decide) _ _ _ _) (kn (by decide) _ _ _ _), ao (13, o, 0) (kn (by decide) _ _ _ _) (kn (by decide) _ _ _ _) (kn (by decide) _ _ _ _)]
    exact ⟨r0, r1, r3, r4, r5, r6, r7, r9, rfl, r11, r12⟩
  · rw [wo 4 (by omega) (by omega) (by omega), w5, wo 6 (by omega) (by omega) (by omega), wo 7 (by omega) (by omega) (by omega), a1 7 (by omega) (by omega), a16, a1 8 (by omega) (by omega), a1 9 (by omega) (by omega), a15]
    refine ⟨p1, by rw [p2], p3, p4, ?_⟩
    rw [p5]
    simp only [Int32.sub_eq_add_neg]
    ac_rfl
  · rw [a30]
    by_cases q : g = c
    · rw [if_pos q, q, w8, hV c hc]
    · rw [if_neg q, wo _ (by omega) (by omega) (by omega)]
      exact hV g hg
  · rw [hw']
    exact funext fun i => by rw [up_r, if_neg (fun q => hz q.1), up_r, if_neg (fun q => hz q.1), up_r, if_neg (fun q => hz q.1)]
end Acts
