/-! ACTS: a singer is borrowed, a note is taken, a feast is announced, a line is set -/
section Acts2
variable {v : mC} {o : Nat} {w : mM} {D n m f : Nat} {dd : Nat → Nat}
theorem hire_eq (R : Rl v o (w 1) D n m f dd) (hn : n < 30) {c : Nat} (hc : c < 5) {x2 x3 x4 x5 x6 : Int32} (h3 : pH x3) (h4 : pN x4 x5) (h6 : 1 ≤ x6 ∧ x6 ≤ 90) :
    ∃ v' w1 w2 w3, f_X0_hire o (nI c) x2 x3 x4 x5 x6 v = some (nI n, v') ∧ f_X7_enters (nI c) 30 x3 x4 x5 w = some (nI n, w1) ∧ f_X7_lay (nI n) 9 x2 w1 = some w2 ∧ f_X7_lay (nI n) 8 (w2 1 0 + x6) w2 = some w3 ∧ Rl v' o (up w3 1 (8 + c) (w3 1 (8 + c) - 1) 1) D (n + 1) m f dd ∧ CB o v v' ∧ ∀ z, z ≠ 1 → up w3 1 (8 + c) (w3 1 (8 + c) - 1) z = w z := by
  obtain ⟨hh, -, hh2, rfl⟩ := rg_of (a := 90) (b := 210) h3 (by omega) (by omega)
  obtain ⟨lo, -, lo2, rfl⟩ := rg_of (a := 0) (b := 48) h4.1 (by omega) (by omega)
  obtain ⟨hi, -, hi2, rfl⟩ := rg_of (a := lo) (b := 48) h4.2 (by omega) (by omega)
  obtain ⟨dy, dy1, dy2, rfl⟩ := rg_of (a := 1) (b := 90) h6 (by omega) (by omega)
  have hD := R.1.1
  obtain ⟨c1, c2, c3, c4, c5, c6, c7, c8⟩ := R.2.1
  have hV := R.2.2.2.2.2.2.2
  have eb : v (1, o, 0) 0 - 10800 = nI D - nI (30 * 360) := by rw [c1]; rfl
  obtain ⟨v1, s1, s2, s3, s4, t3, t4, t5, t6, t7, t8, t9, t10, t11, t12, t13⟩ := s_add (o := o) c3 hn (nI D - nI (30 * 360)) (nI hh) (nI lo) (nI hi)
  obtain ⟨w1, m1, m2, m3, m4, u0, u1, u2, u3, u4, u5, u6, u7, u8, u9, u10, u11, u12⟩ := m_enters (w := w) c4 hn (nI c) 30 (nI hh) (nI lo) (nI hi)
  have v1k : ∀ k j, k ≠ 2 → ¬ (3 ≤ k ∧ k ≤ 13) → v1 (k, o, j) = v (k, o, j) := fun k j h2 h3 => s2 _ (kn h2 _ _ _ _) (fun t t1 t2 => kn (by omega) _ _ _ _)
  have cb1 : CB o v v1 := CB_of fun z hz => s2 z (CB_ne hz (by omega) (by omega)) (fun k k1 k2 => CB_ne hz (by omega) (by omega))
  obtain ⟨v2, hv2⟩ : ∃ v2, v2 = up (up (up (up v1 (8, o, 0) n (nI c)) (9, o, 0) n x2) (10, o, 0) n (nI D + nI dy)) (30, o, 0) c (v (30, o, 0) c - 1) := ⟨_, rfl⟩
  have ao : ∀ z, z ≠ (8, o, 0) → z ≠ (9, o, 0) → z ≠ (10, o, 0) → z ≠ (30, o, 0) → v2 z = v1 z := fun z h1 h2 h3 h4 => funext fun i => by
    rw [hv2, up_r, if_neg (fun q => h4 q.1), up_r, if_neg (fun q => h3 q.1), up_r, if_neg (fun q => h2 q.1), up_r, if_neg (fun q => h1 q.1)]
  have ai : ∀ k i, k ≠ 30 → i ≠ n → v2 (k, o, 0) i = v1 (k, o, 0) i := fun k i hk hi => by
    rw [hv2, up_r, if_neg (fun q => hk (keq3 q.1).1), up_r, if_neg (fun q => hi q.2), up_r, if_neg (fun q => hi q.2), up_r, if_neg (fun q => hi q.2)]
  have a8 : v2 (8, o, 0) n = nI c := by rw [hv2]; simp [up_r]
  have a9 : v2 (9, o, 0) n = x2 := by rw [hv2]; simp [up_r]
  have a10 : v2 (10, o, 0) n = nI D + nI dy := by rw [hv2]; simp [up_r]
  have a30 : ∀ i, v2 (30, o, 0) i = if i = c then v (30, o, 0) c - 1 else v (30, o, 0) i := fun i => by
    rw [hv2, up_r]
    by_cases q : i = c
    · rw [if_pos ⟨rfl, q⟩, if_pos q]
    · rw [if_neg (fun e => q e.2), if_neg q, up_r, if_neg (fun q => absurd (keq3 q.1).1 (by decide)), up_r, if_neg (fun q => absurd (keq3 q.1).1 (by decide)), up_r, if_neg (fun q => absurd (keq3 q.1).1 (by decide)), v1k 30 0 (by omega) (by omega)]
  have l9 : f_X7_lay (nI n) 9 x2 w1 = some (up w1 1 (13 + 13 * n + 9) x2) := m_lay (j := 9) hn (by omega) x2 w1
  have e20 : up w1 1 (13 + 13 * n + 9) x2 1 0 = nI D := by rw [up_r, if_neg (by omega), m3 0 (by omega) (by omega), c2]
  have l8 : f_X7_lay (nI n) 8 (up w1 1 (13 + 13 * n + 9) x2 1 0 + nI dy) (up w1 1 (13 + 13 * n + 9) x2) = some (up (up w1 1 (13 + 13 * n + 9) x2) 1 (13 + 13 * n + 8) (nI D + nI dy)) := by
    rw [e20]
    exact m_lay (j := 8) hn (by omega) _ _
  refine ⟨v2, w1, _, _, ?_, m1, l9, l8, ?_⟩
  · have e9 : up (up (up v1 (8, o, 0) n (nI c)) (9, o, 0) n x2) (10, o, 0) n (nI D + nI dy) (30, o, 0) c = v (30, o, 0) c := by
      rw [up_r, if_neg (fun q => absurd (keq3 q.1).1 (by decide)), up_r, if_neg (fun q => absurd (keq3 q.1).1 (by decide)), up_r, if_neg (fun q => absurd (keq3 q.1).1 (by decide)), v1k 30 0 (by omega) (by omega)]
    have e1 : up (up v1 (8, o, 0) n (nI c)) (9, o, 0) n x2 (1, o, 0) 0 = nI D := by
      rw [up_r, if_neg (fun q => absurd (keq3 q.1).1 (by decide)), up_r, if_neg (fun q => absurd (keq3 q.1).1 (by decide)), v1k 1 0 (by omega) (by omega), c1]
    simp (disch := omega) only [f_X0_hire, eb, s1, bnd_s, qi_inb, qi_ix, ck_t, lt_e, e1, e9, ← hv2]
  · generalize hw3 : up (up w1 1 (13 + 13 * n + 9) x2) 1 (13 + 13 * n + 8) (nI D + nI dy) = w3
    have b3 : ∀ i, i ≠ 13 + 13 * n + 9 → i ≠ 13 + 13 * n + 8 → w3 1 i = w1 1 i := fun i h1 h2 => by rw [← hw3, up_r, if_neg (fun q => h2 q.2), up_r, if_neg (fun q => h1 q.2)]
    have b8 : w3 1 (13 + 13 * n + 8) = nI D + nI dy := by rw [← hw3, up_r, if_pos ⟨rfl, rfl⟩]
    have b9 : w3 1 (13 + 13 * n + 9) = x2 := by rw [← hw3, up_r, if_neg (by omega), up_r, if_pos ⟨rfl, rfl⟩]
    have bc : w3 1 (8 + c) = w 1 (8 + c) := by rw [b3 _ (by omega) (by omega), m3 _ (by omega) (by omega)]
    rw [bc]
    generalize hw4 : up w3 1 (8 + c) (w 1 (8 + c) - 1) = w4
    have d3 : ∀ i, i ≠ 8 + c → w4 1 i = w3 1 i := fun i h1 => by rw [← hw4, up_r, if_neg (fun q => h1 q.2)]
    have d8 : w4 1 (8 + c) = w 1 (8 + c) - 1 := by rw [← hw4, up_r, if_pos ⟨rfl, rfl⟩]
    have wk : ∀ j, j < 13 → j ≠ 8 → j ≠ 9 → w4 1 (13 + 13 * n + j) = w1 1 (13 + 13 * n + j) := fun j hj h8 h9 => by rw [d3 _ (by omega), b3 _ (by omega) (by omega)]
    refine ⟨add_Rl R hn (fun z h2 h30 h3 => ?_) ?_ (fun k i k3 k13 hi => ?_) (fun i i1 i8 i13 => ?_) ?_ ⟨?_, ⟨30, D, by omega, by omega, Nat.le_refl _, ?_, ?_, ?_⟩, ⟨hh, hh2, ?_, ?_⟩, ⟨lo, lo2, ?_, ?_⟩, ⟨hi, hi2, ?_, ?_⟩, ⟨?_, Or.inl ?_⟩, Or.inr ⟨?_, ?_, Or.inr ⟨?_, ?_⟩⟩, ?_, ?_, ?_, ?_⟩ (fun g hg => ?_), CB_t cb1 (CB_of fun z hz => ao z (CB_ne hz (by omega) (by omega)) (CB_ne hz (by omega) (by omega)) (CB_ne hz (by omega) (by omega)) (CB_ne hz (by omega) (by omega))), fun z hz => ?_⟩
    · rw [ao z (h3 8 (by omega) (by omega)) (h3 9 (by omega) (by omega)) (h3 10 (by omega) (by omega)) h30, s2 z h2 h3]
    · rw [ao _ (kn (by decide) _ _ _ _) (kn (by decide) _ _ _ _) (kn (by decide) _ _ _ _) (kn (by decide) _ _ _ _), s3]
    · rw [ai k i (by omega) hi, s4 k i k3 k13 hi]
    · rw [d3 i (by omega), b3 i (by omega) (by omega), m3 i i1 i13]
    · rw [d3 1 (by omega), b3 1 (by omega) (by omega), m4]
    · rw [wk 0 (by omega) (by omega) (by omega), u0, a8]
    · rw [wk 1 (by omega) (by omega) (by omega), u1]; rfl
    · rw [wk 2 (by omega) (by omega) (by omega), u2, c2]
    · rw [ao _ (kn (by decide) _ _ _ _) (kn (by decide) _ _ _ _) (kn (by decide) _ _ _ _) (kn (by decide) _ _ _ _), t6]
    · rw [wk 3 (by omega) (by omega) (by omega), u3]
    · rw [ao _ (kn (by decide) _ _ _ _) (kn (by decide) _ _ _ _) (kn (by decide) _ _ _ _) (kn (by decide) _ _ _ _), t3]
    · rw [wk 4 (by omega) (by omega) (by omega), u4]
    · rw [ao _ (kn (by decide) _ _ _ _) (kn (by decide) _ _ _ _) (kn (by decide) _ _ _ _) (kn (by decide) _ _ _ _), t4]
    · rw [wk 5 (by omega) (by omega) (by omega), u5]
    · rw [ao _ (kn (by decide) _ _ _ _) (kn (by decide) _ _ _ _) (kn (by decide) _ _ _ _) (kn (by decide) _ _ _ _), t5]
    · rw [wk 6 (by omega) (by omega) (by omega), u6, ao _ (kn (by decide) _ _ _ _) (kn (by decide) _ _ _ _) (kn (by decide) _ _ _ _) (kn (by decide) _ _ _ _), t7]
    · rw [ao _ (kn (by decide) _ _ _ _) (kn (by decide) _ _ _ _) (kn (by decide) _ _ _ _) (kn (by decide) _ _ _ _), t7]
    · rw [wk 7 (by omega) (by omega) (by omega), u7]; rfl
    · rw [a10, qi_add, qi_I (by omega)]; omega
    · rw [a8]; exact qi_nM (by omega)
    · rw [a10, d3 _ (by omega), b8]
    · rw [d3 _ (by omega), b9, a9]
    · rw [wk 10 (by omega) (by omega) (by omega), u10, ao _ (kn (by decide) _ _ _ _) (kn (by decide) _ _ _ _) (kn (by decide) _ _ _ _) (kn (by decide) _ _ _ _), t11]
    · rw [wk 11 (by omega) (by omega) (by omega), u11, ao _ (kn (by decide) _ _ _ _) (kn (by decide) _ _ _ _) (kn (by decide) _ _ _ _) (kn (by decide) _ _ _ _), t12]
    · rw [wk 12 (by omega) (by omega) (by omega), u12, ao _ (kn (by decide) _ _ _ _) (kn (by decide) _ _ _ _) (kn (by decide) _ _ _ _) (kn (by decide) _ _ _ _), t13]
    · rw [a30]
      by_cases q : g = c
      · rw [if_pos q, q, d8, hV c hc]
      · rw [if_neg q, d3 _ (by omega), b3 _ (by omega) (by omega), m3 _ (by omega) (by omega)]
        exact hV g hg
    · rw [← m2 z hz, ← hw4, ← hw3]
      exact funext fun i => by rw [up_r, if_neg (fun q => hz q.1), up_r, if_neg (fun q => hz q.1), up_r, if_neg (fun q => hz q.1)]
theorem note_eq (R : Rl v o (w 1) D n m f dd) (hm : m < 60) (x1 : Int32) {p q : Nat} (hp : p ≤ 9999) (hq : q ≤ 10059) : ∃ x v' w', f_X0_takeNote o x1 (nI p) (nI q) v = some (nI x, v') ∧ f_X7_excuses x1 (nI p) (nI q) w = some (nI x, w') ∧ 0 < x ∧ x ≤ 60 ∧ Rl v' o (w' 1) D n (m + 1) f dd ∧ CB o v v' ∧ ∀ z, z ≠ 1 → w' z = w z := by
  obtain ⟨⟨b1, b2, b3, b4⟩, ⟨c1, c2, c3, c4, c5, c6, c7, c8⟩, hS, hN, hF, hU, hP, hV⟩ := R
  obtain ⟨v', hv'⟩ : ∃ v', v' = up (up (up (up v (15, o, 0) m x1) (16, o, 0) m (nI p)) (17, o, 0) m (nI q)) (14, o, 0) 0 (nI (m + 1)) := ⟨_, rfl⟩
  have ao : ∀ z, z ≠ (15, o, 0) → z ≠ (16, o, 0) → z ≠ (17, o, 0) → z ≠ (14, o, 0) → v' z = v z := fun z h1 h2 h3 h4 => funext fun i => by
    rw [hv', up_r, if_neg (fun q => h4 q.1), up_r, if_neg (fun q => h3 q.1), up_r, if_neg (fun q => h2 q.1), up_r, if_neg (fun q => h1 q.1)]
  have vk : ∀ k j, ¬ (14 ≤ k ∧ k ≤ 17) → v' (k, o, j) = v (k, o, j) := fun k j hk => ao _ (kn (by omega) _ _ _ _) (kn (by omega) _ _ _ _) (kn (by omega) _ _ _ _) (kn (by omega) _ _ _ _)
  have ai : ∀ k i, k ≠ 14 → i ≠ m → v' (k, o, 0) i = v (k, o, 0) i := fun k i hk hi => by
    rw [hv', up_r, if_neg (fun q => hk (keq3 q.1).1), up_r, if_neg (fun q => hi q.2), up_r, if_neg (fun q => hi q.2), up_r, if_neg (fun q => hi q.2)]
  have a15 : v' (15, o, 0) m = x1 := by rw [hv']; simp [up_r]
  have a16 : v' (16, o, 0) m = nI p := by rw [hv']; simp [up_r]
  have a17 : v' (17, o, 0) m = nI q := by rw [hv']; simp [up_r]
  have a14 : v' (14, o, 0) 0 = nI (m + 1) := by rw [hv', up_r, if_pos ⟨rfl, rfl⟩]
  obtain ⟨w', hw'⟩ : ∃ w', w' = up (up (up (up w 1 (403 + 3 * m) x1) 1 (404 + 3 * m) (nI p)) 1 (405 + 3 * m) (nI q)) 1 2 (nI (m + 1)) := ⟨_, rfl⟩
  have wo : ∀ i, i ≠ 403 + 3 * m → i ≠ 404 + 3 * m → i ≠ 405 + 3 * m → i ≠ 2 → w' 1 i = w 1 i := fun i h1 h2 h3 h4 => by
    rw [hw', up_r, if_neg (fun q => h4 q.2), up_r, if_neg (fun q => h3 q.2), up_r, if_neg (fun q => h2 q.2), up_r, if_neg (fun q => h1 q.2)]
  have w2 : w' 1 2 = nI (m + 1) := by rw [hw', up_r, if_pos ⟨rfl, rfl⟩]
  have w5 : w' 1 (405 + 3 * m) = nI q := by rw [hw', up_r, if_neg (by omega), up_r, if_pos ⟨rfl, rfl⟩]
  have w4 : w' 1 (404 + 3 * m) = nI p := by rw [hw', up_r, if_neg (by omega), up_r, if_neg (by omega), up_r, if_pos ⟨rfl, rfl⟩]
  have w3 : w' 1 (403 + 3 * m) = x1 := by rw [hw', up_r, if_neg (by omega), up_r, if_neg (by omega), up_r, if_neg (by omega), up_r, if_pos ⟨rfl, rfl⟩]
  have R' : Rl v' o (w' 1) D n (m + 1) f dd := by
    refine ⟨⟨b1, b2, by omega, b4⟩, ⟨?_, ?_, ?_, ?_, a14, w2, ?_, ?_⟩, fun s hs => ?_, fun k hk => ?_, fun j hj => ?_, hU, ?_, fun c hc => ?_⟩
    · rw [vk 1 0 (by omega)]; exact c1
    · rw [wo 0 (by omega) (by omega) (by omega) (by omega)]; exact c2
    · rw [vk 2 0 (by omega)]; exact c3
    · rw [wo 1 (by omega) (by omega) (by omega) (by omega)]; exact c4
    · rw [vk 18 0 (by omega)]; exact c7
    · rw [wo 3 (by omega) (by omega) (by omega) (by omega)]; exact c8
    · have h := hS s hs
      have aj : ∀ j, j < 13 → w' 1 (13 + 13 * s + j) = w 1 (13 + 13 * s + j) := fun j hj => wo _ (by omega) (by omega) (by omega) (by omega)
      unfold RS at h ⊢
      rw [aj 0 (by omega), aj 1 (by omega), aj 2 (by omega), aj 3 (by omega), aj 4 (by omega), aj 5 (by omega), aj 6 (by omega), aj 7 (by omega), aj 8 (by omega), aj 9 (by omega), aj 10 (by omega), aj 11 (by omega), aj 12 (by omega), vk 3 0 (by omega), vk 4 0 (by omega), vk 5 0 (by omega), vk 6 0 (by omega), vk 7 0 (by omega), vk 8 0 (by omega), vk 9 0 (by omega), vk 10 0 (by omega), vk 11 0 (by omega), vk 12 0 (by omega), vk 13 0 (by omega)]
      exact h
    · by_cases e : k = m
      · rw [e]
        exact ⟨by rw [w3, a15], ⟨p, hp, w4, a16⟩, ⟨q, hq, w5, a17⟩⟩
      · have h := hN k (by omega)
        unfold RN at h ⊢
        rw [wo _ (by omega) (by omega) (by omega) (by omega), wo _ (by omega) (by omega) (by omega) (by omega), wo _ (by omega) (by omega) (by omega) (by omega), ai 15 k (by omega) e, ai 16 k (by omega) e, ai 17 k (by omega) e]
        exact h
    · have h := hF j hj
      unfold RF at h ⊢
      rw [wo (583 + 45 * j) (by omega) (by omega) (by omega) (by omega), wo (584 + 45 * j) (by omega) (by omega) (by omega) (by omega), wo (597 + 45 * j) (by omega) (by omega) (by omega) (by omega), vk 19 0 (by omega), vk 20 0 (by omega), vk 21 0 (by omega)]
      refine ⟨h.1, h.2.1, fun l hl => ?_, fun hd => ⟨(h.2.2.2 hd).1, fun k hk => ?_⟩⟩
      · rw [wo _ (by omega) (by omega) (by omega) (by omega), wo _ (by omega) (by omega) (by omega) (by omega), wo _ (by omega) (by omega) (by omega) (by omega), vk 26 j (by omega), vk 27 j (by omega), vk 28 j (by omega)]
        exact h.2.2.1 l hl
      · rw [wo _ (by omega) (by omega) (by omega) (by omega), vk 29 j (by omega)]
        exact (h.2.2.2 hd).2 k hk
    · rw [wo 4 (by omega) (by omega) (by omega) (by omega), wo 5 (by omega) (by omega) (by omega) (by omega), wo 6 (by omega) (by omega) (by omega) (by omega), wo 7 (by omega) (by omega) (by omega) (by omega), vk 1 0 (by omega)]
      exact hP
    · rw [wo _ (by omega) (by omega) (by omega) (by omega), vk 30 0 (by omega)]
      exact hV c hc
  have hcnt : qc (hitM (w' 1) x1 0 99999) (m + 1) = qc (fun k => decide (v' (15, o, 0) k = x1)) (m + 1) := qc_cong fun k hk => by
    obtain ⟨g1, ⟨p', g2, g3, -⟩, ⟨q', g4, g5, -⟩⟩ := R'.2.2.2.1 k hk
    unfold hitM
    rw [g1, g3, g5]
    by_cases e : v' (15, o, 0) k = x1
    · rw [decide_eq_true e, decide_eq_true ⟨e, nI_nlt (b := p') (a := 99999) (by omega) (by omega), nI_nlt (b := 0) (Nat.zero_le _) (by omega)⟩]
    · rw [decide_eq_false e, decide_eq_false (fun z => e z.1)]
  refine ⟨qc (fun k => decide (v' (15, o, 0) k = x1)) (m + 1), v', w', ?_, ?_, qc_pos.mpr ⟨m, by omega, decide_eq_true a15⟩, Nat.le_trans (qc_le _ _) (by omega), R', CB_of fun z hz => ao z (CB_ne hz (by omega) (by omega)) (CB_ne hz (by omega) (by omega)) (CB_ne hz (by omega) (by omega)) (CB_ne hz (by omega) (by omega)), fun z hz => ?_⟩
  · have e1 : up v (15, o, 0) m x1 (14, o, 0) 0 = nI m := by rw [up_r, if_neg (fun q => absurd (keq3 q.1).1 (by decide)), c5]
    have e2 : up (up v (15, o, 0) m x1) (16, o, 0) m (nI p) (14, o, 0) 0 = nI m := by rw [up_r, if_neg (fun q => absurd (keq3 q.1).1 (by decide)), e1]
    have e3 : up (up (up v (15, o, 0) m x1) (16, o, 0) m (nI p)) (17, o, 0) m (nI q) (14, o, 0) 0 = nI m := by rw [up_r, if_neg (fun q => absurd (keq3 q.1).1 (by decide)), e2]
    have key : lp (fun _ _ => none) (L_X4_add_46 o x1 v') 8192 (nI (qc (fun k => decide (v' (15, o, 0) k = x1)) 0)) (nI 0) = some (nI (qc (fun k => decide (v' (15, o, 0) k = x1)) (m + 1)), v') := by
      refine lp_go (fuel := 8192) (ev := fun k (X : Int32 → Int32 → Option (Int32 × mC)) => X (nI (qc (fun k => decide (v' (15, o, 0) k = x1)) k)) (nI k)) (m + 1) (by omega) (fun k hk self => ?_) (fun self => ?_)
      · show L_X4_add_46 o x1 v' self (nI (qc (fun k => decide (v' (15, o, 0) k = x1)) k)) (nI k) = self (nI (qc (fun k => decide (v' (15, o, 0) k = x1)) (k + 1))) (nI (k + 1))
        simp (disch := omega) only [L_X4_add_46, a14, qi_nle, qi_inb, qi_ix, ck_t, qc_s, nI_1]
        rw [if_neg (by omega)]
        by_cases e : v' (15, o, 0) k = x1
        · simp only [e, if_true, decide_true]
        · simp only [e, if_false, decide_false, Bool.false_eq_true, Nat.add_zero]
      · show L_X4_add_46 o x1 v' self _ (nI (m + 1)) = _
        simp (disch := omega) only [L_X4_add_46, a14, qi_nle]
        rw [if_pos (Nat.le_refl _)]
    unfold f_X0_takeNote f_X4_add
    rw [c5, qi_inb (show m < 60 by omega) (by omega), ck_t, qi_ix (by omega), lt_e, e1, qi_inb (show m < 60 by omega) (by omega), ck_t, qi_ix (by omega), lt_e, e2, qi_inb (show m < 60 by omega) (by omega), ck_t, qi_ix (by omega), lt_e, e3, nI_1, lt_e, ← hv']
    show (lp (fun _ _ => none) (L_X4_add_46 o x1 v') 8192 (nI (qc (fun k => decide (v' (15, o, 0) k = x1)) 0)) (nI 0)).bind _ = _
    rw [key, bnd_s]
  · have ea : (403 : Int32) + 3 * nI m = nI (403 + 3 * m) := by rw [show (403 : Int32) = nI 403 from rfl, show (3 : Int32) = nI 3 from rfl, qi_mul, qi_add]
    have eb : nI (403 + 3 * m) + 1 = nI (404 + 3 * m) := by rw [nI_1, show 403 + 3 * m + 1 = 404 + 3 * m by omega]
    have ec : nI (403 + 3 * m) + 2 = nI (405 + 3 * m) := by rw [show (2 : Int32) = nI 2 from rfl, qi_add, show 403 + 3 * m + 2 = 405 + 3 * m by omega]
    have ed : up (up (up w 1 (403 + 3 * m) x1) 1 (404 + 3 * m) (nI p)) 1 (405 + 3 * m) (nI q) 1 2 = nI m := by rw [up_r, if_neg (by omega), up_r, if_neg (by omega), up_r, if_neg (by omega), c6]
    have hno := m_notes (w := w') w2 (by omega) x1 0 99999
    rw [hcnt] at hno
    unfold f_X7_excuses
    rw [inb_2, ck_t, ix_2, c6, ea, lt_e, qi_inb (show 403 + 3 * m < 1483 by omega) (by omega), ck_t, qi_ix (by omega), lt_e, eb, qi_inb (show 404 + 3 * m < 1483 by omega) (by omega), ck_t, qi_ix (by omega), lt_e, ec, qi_inb (show 405 + 3 * m < 1483 by omega) (by omega), ck_t, qi_ix (by omega), lt_e, ck_t, ck_t, ed, nI_1, lt_e, ← hw', hno, bnd_s]
  · rw [hw']
    exact funext fun i => by rw [up_r, if_neg (fun q => hz q.1), up_r, if_neg (fun q => hz q.1), up_r, if_neg (fun q => hz q.1), up_r, if_neg (fun q => hz q.1)]
end Acts2
