/-! WHAT HOLDS BETWEEN CALLS: the book, the recorded states, the snapshot, the letter -/
def BR (v : mC) (o : Nat) (a : Nat → Int32) : Prop := ∃ D n m f dd, Rl v o a D n m f dd
def IVr (v : mC) (w : mM) (k : Nat) (bk : Nat → Nat) : Prop :=
  k ≤ 4 ∧ v (0, 0, 0) 5 = nI k ∧ w 0 2 = nI k ∧ (∀ i, i < 4 → v (31, 0, 0) i = nI (bk i) ∧ 3 ≤ bk i ∧ bk i ≤ 6) ∧ (∀ i j, i < 4 → j < 4 → bk i = bk j → i = j) ∧ ∀ i, i < k → BR v (bk i) (fun t => w 2 (1483 * i + t))
def IVs (v : mC) (w : mM) : Prop := (v (0, 0, 0) 3 = 0 ∧ w 0 4 = 0) ∨ (v (0, 0, 0) 3 = 1 ∧ w 0 4 = 1 ∧ BR v 2 (w 3))
def IVl (v : mC) (w : mM) : Prop := ∃ len : Nat, len ≤ 80 ∧ v (32, 0, 0) 1 = nI len ∧ w 0 11 = nI len ∧ ∀ i, i < len → v (33, 0, 0) i = w 9 i ∧ ∃ c : Nat, c ≤ 65535 ∧ w 9 i = nI c
def IV (v : mC) (w : mM) : Prop := BR v 0 (w 1) ∧ (∃ k bk, IVr v w k bk) ∧ IVs v w ∧ IVl v w
theorem BR_x {v v' : mC} {o o' : Nat} {a a' : Nat → Int32} (hv : ∀ k j i, 1 ≤ k → k ≤ 30 → v' (k, o, j) i = v (k, o, j) i) (ha : ∀ i, i < 1483 → a' i = a i) (he : o' = o) (h : BR v o a) : BR v' o' a' := by
  subst he
  obtain ⟨D, n, m, f, dd, R⟩ := h
  exact ⟨D, n, m, f, dd, Rl_x (Ag_eq hv) ha R⟩
/-- the class's book o alone is touched, and the lineup -/
theorem IVr_x {v v' : mC} {w w' : mM} {k : Nat} {bk : Nat → Nat} (h0 : v' (0, 0, 0) 5 = v (0, 0, 0) 5) (h31 : v' (31, 0, 0) = v (31, 0, 0)) (hb : ∀ o, 3 ≤ o → o ≤ 6 → ∀ k j i, 1 ≤ k → k ≤ 30 → v' (k, o, j) i = v (k, o, j) i) (g0 : w' 0 2 = w 0 2) (g2 : w' 2 = w 2) (h : IVr v w k bk) : IVr v' w' k bk := by
  obtain ⟨a1, a2, a3, a4, a5, a6⟩ := h
  refine ⟨a1, by rw [h0, a2], by rw [g0, a3], fun i hi => by rw [h31]; exact a4 i hi, a5, fun i hi => ?_⟩
  obtain ⟨b1, b2, b3⟩ := a4 i (by omega)
  rw [g2]
  exact BR_x (hb (bk i) b2 b3) (fun _ _ => rfl) rfl (a6 i hi)
theorem IVs_x {v v' : mC} {w w' : mM} (h0 : v' (0, 0, 0) 3 = v (0, 0, 0) 3) (hb : ∀ k j i, 1 ≤ k → k ≤ 30 → v' (k, 2, j) i = v (k, 2, j) i) (g0 : w' 0 4 = w 0 4) (g3 : w' 3 = w 3) (h : IVs v w) : IVs v' w' := by
  rcases h with ⟨a, b⟩ | ⟨a, b, c⟩
  · exact Or.inl ⟨by rw [h0, a], by rw [g0, b]⟩
  · refine Or.inr ⟨by rw [h0, a], by rw [g0, b], ?_⟩
    rw [g3]
    exact BR_x hb (fun _ _ => rfl) rfl c
theorem IVl_x {v v' : mC} {w w' : mM} (h1 : v' (32, 0, 0) 1 = v (32, 0, 0) 1) (h2 : v' (33, 0, 0) = v (33, 0, 0)) (g0 : w' 0 11 = w 0 11) (g9 : w' 9 = w 9) (h : IVl v w) : IVl v' w' := by
  obtain ⟨len, a, b, c, d⟩ := h
  exact ⟨len, a, by rw [h1, b], by rw [g0, c], by rw [h2, g9]; exact d⟩
/-- an act on the book itself -/
theorem IV_act {v v' : mC} {w w' : mM} (hc : CB 0 v v') (hm : MB w w') (hb : BR v' 0 (w' 1)) (h : IV v w) : IV v' w' := by
  obtain ⟨-, ⟨k, bk, h2⟩, h3, h4⟩ := h
  have e0 : v' (0, 0, 0) = v (0, 0, 0) := hc _ (by show 0 < 36; omega) (Or.inl rfl)
  have m0 : w' 0 = w 0 := hm 0 (by omega) (by omega)
  refine ⟨hb, ⟨k, bk, IVr_x (by rw [e0]) (hc _ (by show 31 < 36; omega) (Or.inr (Or.inl (by show 30 < 31; omega)))) (fun o h1 h2 k j i h3 h4 => by rw [hc (k, o, j) (by show k < 36; omega) (Or.inr (Or.inr (by show o ≠ 0; omega)))]) (by rw [m0]) (hm 2 (by omega) (by omega)) h2⟩,
    IVs_x (by rw [e0]) (fun k j i h3 h4 => by rw [hc (k, 2, j) (by show k < 36; omega) (Or.inr (Or.inr (by show 2 ≠ 0; omega)))]) (by rw [m0]) (hm 3 (by omega) (by omega)) h3,
    IVl_x (by rw [hc (32, 0, 0) (by show 32 < 36; omega) (Or.inr (Or.inl (by show 30 < 32; omega)))]) (hc (33, 0, 0) (by show 33 < 36; omega) (Or.inr (Or.inl (by show 30 < 33; omega)))) (by rw [m0]) (hm 9 (by omega) (by omega)) h4⟩
theorem IV_ask {v v' : mC} {w w' : mM} (hc : CF v v') (hm : ∀ z, (z < 5 ∨ 8 < z) → z ≠ 0 → w' z = w z) (hm0 : ∀ i, i ≠ 12 → w' 0 i = w 0 i) (h : IV v w) : IV v' w' := by
  obtain ⟨h1, ⟨k, bk, h2⟩, h3, h4⟩ := h
  have e0 : v' (0, 0, 0) = v (0, 0, 0) := hc _ (by show 0 < 36; omega)
  have hk : ∀ o k j i, 1 ≤ k → k ≤ 30 → v' (k, o, j) i = v (k, o, j) i := fun o k j i a b => by rw [hc (k, o, j) (by show k < 36; omega)]
  refine ⟨by rw [hm 1 (by omega) (by omega)]; exact BR_x (hk 0) (fun _ _ => rfl) rfl h1, ⟨k, bk, IVr_x (by rw [e0]) (hc _ (by show 31 < 36; omega)) (fun o _ _ => hk o) (hm0 2 (by omega)) (hm 2 (by omega) (by omega)) h2⟩,
    IVs_x (by rw [e0]) (hk 2) (hm0 4 (by omega)) (hm 3 (by omega) (by omega)) h3,
    IVl_x (by rw [hc (32, 0, 0) (by show 32 < 36; omega)]) (hc (33, 0, 0) (by show 33 < 36; omega)) (hm0 11 (by omega)) (hm 9 (by omega) (by omega)) h4⟩
/-- the shelf moves up by one -/
theorem s_forget {v : mC} {bk : Nat → Nat} (h : ∀ i, i < 4 → v (31, 0, 0) i = nI (bk i) ∧ 3 ≤ bk i ∧ bk i ≤ 6) : ∃ v', f_X6_forgetOldestState v = some v' ∧ (∀ z, z ≠ (0, 0, 0) → z ≠ (31, 0, 0) → v' z = v z) ∧ (∀ i, i ≠ 5 → v' (0, 0, 0) i = v (0, 0, 0) i) ∧ v' (0, 0, 0) 5 = nI 3 ∧ ∀ i, i < 4 → v' (31, 0, 0) i = nI (if i = 3 then bk 0 else bk (i + 1)) := by
  have i0 : ix (0 : Int32) = 0 := rfl
  have i3 : ix (3 : Int32) = 3 := rfl
  have b0 : inb 0 4 = true := rfl
  have b3 : inb 3 4 = true := rfl
  obtain ⟨g, hg⟩ : ∃ g : Nat → mC, g = fun k z i => if z = (31, 0, 0) ∧ i + 1 < k then v (31, 0, 0) (i + 1) else v z i := ⟨_, rfl⟩
  have e1 : g 1 = v := by
    rw [hg]
    exact funext fun z => funext fun i => if_neg (by omega)
  have gi : ∀ k i, i + 1 < k → g k (31, 0, 0) i = v (31, 0, 0) (i + 1) := fun k i hi => by rw [hg]; exact if_pos ⟨rfl, hi⟩
  have gn : ∀ k i, ¬ i + 1 < k → g k (31, 0, 0) i = v (31, 0, 0) i := fun k i hi => by rw [hg]; exact if_neg (fun q => hi q.2)
  have go : ∀ k z, z ≠ (31, 0, 0) → g k z = v z := fun k z hz => funext fun i => by rw [hg]; exact if_neg (fun q => hz q.1)
  have hx : ∀ i, i < 4 → ix (v (31, 0, 0) i) < 7 := fun i hi => by
    obtain ⟨a, b, c⟩ := h i hi
    rw [a, qi_ix (by omega)]
    omega
  have key : lp (fun _ _ => none) (L_X6_forgetOldestState_9 v) 8192 (nI 1) (g 1) = some (up (up (g 4) (31, 0, 0) 3 (v (31, 0, 0) 0)) (0, 0, 0) 5 3) := by
    refine lp_go (fuel := 8192) (ev := fun t (X : Int32 → mC → Option mC) => X (nI (t + 1)) (g (t + 1))) 3 (by omega) (fun t ht self => ?_) (fun self => ?_)
    · show L_X6_forgetOldestState_9 v self (nI (t + 1)) (g (t + 1)) = self (nI (t + 1 + 1)) (g (t + 1 + 1))
      generalize hkt : t + 1 = k
      have hk : k < 4 := by omega
      · have em : nI k - 1 = nI (k - 1) := qi_sub (b := 1) (by omega)
        have hgk : g k (31, 0, 0) k = v (31, 0, 0) k := gn k k (by omega)
        simp (disch := omega) only [L_X6_forgetOldestState_9, qi_inb, qi_ix, ck_t, em, lt_e, nI_1, hgk]
        rw [if_neg (show ¬ (4 : Int32) ≤ nI k from nI_ge (b := 4) hk (by omega)), decide_eq_true (hx k hk), ck_t]
        refine congrArg (self (nI (k + 1))) (funext fun z => funext fun i => ?_)
        rw [up_r]
        by_cases q : z = (31, 0, 0) ∧ i = k - 1
        · rw [if_pos q, q.1, q.2, gi (k + 1) (k - 1) (by omega), show k - 1 + 1 = k by omega]
        · rw [if_neg q]
          by_cases q2 : z = (31, 0, 0)
          · subst q2
            by_cases q3 : i + 1 < k
            · rw [gi k i q3, gi (k + 1) i (by omega)]
            · have q4 : i ≠ k - 1 := fun e => q ⟨rfl, e⟩
              rw [gn k i q3, gn (k + 1) i (by omega)]
          · rw [go k z q2, go (k + 1) z q2]
    · show L_X6_forgetOldestState_9 v self (nI 4) (g 4) = _
      simp only [L_X6_forgetOldestState_9, b3, i3, i0, ck_t, lt_e]
      rw [if_pos (by decide)]
  rw [e1] at key
  refine ⟨up (up (g 4) (31, 0, 0) 3 (v (31, 0, 0) 0)) (0, 0, 0) 5 3, ?_, fun z h0 h31 => ?_, fun i hi => ?_, ?_, fun i hi => ?_⟩
  · unfold f_X6_forgetOldestState
    rw [b0, ck_t, i0, decide_eq_true (hx 0 (by omega)), ck_t]
    exact key
  · rw [← go 4 z h31]
    exact funext fun i => by rw [up_r, if_neg (fun q => h0 q.1), up_r, if_neg (fun q => h31 q.1)]
  · rw [up_r, if_neg (fun q => hi q.2), up_r, if_neg (fun q => absurd q.1 (by decide)), go 4 _ (by decide)]
  · rw [up_r, if_pos ⟨rfl, rfl⟩]
    rfl
  · rw [up_r, if_neg (fun q => absurd q.1 (by decide)), up_r]
    by_cases q : i = 3
    · rw [if_pos ⟨rfl, q⟩, if_pos q, (h 0 (by omega)).1]
    · rw [if_neg (fun e => q e.2), if_neg q, gi 4 i (by omega), (h (i + 1) (by omega)).1]
theorem keep_fin {v : mC} {D n m f : Nat} {dd : Nat → Nat} {a : Nat → Int32} {k b : Nat} (R : Rl v 0 a D n m f dd) (hk : k < 4) (h5 : v (0, 0, 0) 5 = nI k) (hb : v (31, 0, 0) k = nI b ∧ 3 ≤ b ∧ b ≤ 6) :
    ∃ v', (ck (inb (v (0, 0, 0) 5) 4) (ck (decide (ix (v (31, 0, 0) (ix (v (0, 0, 0) 5))) < 7)) ((f_X0_copyFrom (ix (v (31, 0, 0) (ix (v (0, 0, 0) 5)))) 0 v).bind fun r_25 => (lt (up r_25 (0, 0, 0) 5 ((r_25 (0, 0, 0) 5) + (1 : Int32))) fun w35_1 => (some w35_1))))) = some v' ∧
    Rl v' b a D n m f dd ∧ (∀ z : kC, z ≠ (0, 0, 0) → (z.1 = 0 ∨ 30 < z.1 ∨ z.2.1 ≠ b) → v' z = v z) ∧ (∀ i, i ≠ 5 → v' (0, 0, 0) i = v (0, 0, 0) i) ∧ v' (0, 0, 0) 5 = nI (k + 1) := by
  obtain ⟨b1, b2, b3⟩ := hb
  obtain ⟨v1, c1, c2, c3⟩ := s_copy (v := v) (o := b) (o1 := 0) (n := n) (m := m) (f := f) (by omega) R.2.1.2.2.1 R.2.1.2.2.2.2.1 R.2.1.2.2.2.2.2.2.1 R.1.2.1 R.1.2.2.1 R.1.2.2.2
  have e0 : v1 (0, 0, 0) = v (0, 0, 0) := c3 _ (Or.inl rfl)
  have R1 : Rl v1 b a D n m f dd := Rl_x c2 (fun _ _ => rfl) R
  refine ⟨up v1 (0, 0, 0) 5 (nI (k + 1)), ?_, ?_, fun z hz hz2 => ?_, fun i hi => ?_, ?_⟩
  · rw [h5]
    simp (disch := omega) only [qi_inb, qi_ix, ck_t, b1]
    rw [decide_eq_true (show b < 7 by omega), ck_t, c1, bnd_s, lt_e, e0, h5, nI_1]
  · refine Rl_x (Ag_eq fun k j i h1 h2 => ?_) (fun _ _ => rfl) R1
    rw [up_r, if_neg (fun q => by have := (keq3 q.1).1; omega)]
  · rw [← c3 z hz2]
    exact funext fun i => by rw [up_r, if_neg (fun q => hz q.1)]
  · rw [up_r, if_neg (fun q => hi q.2), e0]
  · rw [up_r, if_pos ⟨rfl, rfl⟩]
/-- a state is recorded -/
theorem keep_eq {v : mC} {w : mM} {k k1 : Nat} {bk : Nat → Nat} (hk1 : k1 = 1 ∨ k1 = 4) (R0 : BR v 0 (w k1)) (h : IVr v w k bk) : ∃ v' w', f_X6_keepState v = some v' ∧ f_X7_saves k1 w = some w' ∧ (∃ k' bk', IVr v' w' k' bk') ∧
    (∀ z : kC, z ≠ (0, 0, 0) → z ≠ (31, 0, 0) → (z.1 = 0 ∨ 30 < z.1 ∨ z.2.1 < 3) → v' z = v z) ∧ (∀ i, i ≠ 5 → v' (0, 0, 0) i = v (0, 0, 0) i) ∧ (∀ z, z ≠ 0 → z ≠ 2 → w' z = w z) ∧ ∀ i, i ≠ 2 → w' 0 i = w 0 i := by
  obtain ⟨a1, a2, a3, a4, a5, a6⟩ := h
  obtain ⟨D, n, m, f, dd, R⟩ := R0
  obtain ⟨w', m1, m2, m3, m4⟩ := m_saves a1 a3 hk1
  by_cases e : k = 4
  · subst e
    rw [if_pos rfl] at m4
    obtain ⟨g1, g2, g3⟩ := m4
    obtain ⟨v1, s1, s2, s3, s4, s5⟩ := s_forget a4
    have R1 : Rl v1 0 (w k1) D n m f dd := Rl_x (Ag_eq fun k j i h1 h2 => by rw [s2 (k, 0, j) (kn (by omega) _ _ _ _) (kn (by omega) _ _ _ _)]) (fun _ _ => rfl) R
    obtain ⟨v', t1, t2, t3, t4, t5⟩ := keep_fin (k := 3) (b := bk 0) R1 (by omega) s4 ⟨s5 3 (by omega), (a4 0 (by omega)).2⟩
    refine ⟨v', w', ?_, m1, ⟨4, fun i => if i = 3 then bk 0 else bk (i + 1), ⟨Nat.le_refl _, t5, g1, fun i hi => ⟨?_, ?_⟩, fun i j hi hj hij => ?_, fun i hi => ?_⟩⟩, fun z h0 h31 hz => ?_, fun i hi => ?_, m2, m3⟩
    · unfold f_X6_keepState
      rw [jn_e, a2, if_neg (show ¬ nI 4 < 4 by decide), s1, bnd_s]
      exact t1
    · rw [t3 (31, 0, 0) (by decide) (Or.inr (Or.inl (by show 30 < 31; omega)))]
      exact s5 i hi
    · show 3 ≤ (if i = 3 then bk 0 else bk (i + 1)) ∧ (if i = 3 then bk 0 else bk (i + 1)) ≤ 6
      by_cases q : i = 3
      · rw [if_pos q]; exact (a4 0 (by omega)).2
      · rw [if_neg q]; exact (a4 (i + 1) (by omega)).2
    · have hij2 : (if i = 3 then bk 0 else bk (i + 1)) = if j = 3 then bk 0 else bk (j + 1) := hij
      by_cases q : i = 3
      · by_cases q2 : j = 3
        · omega
        · rw [if_pos q, if_neg q2] at hij2
          have := a5 0 (j + 1) (by omega) (by omega) hij2
          omega
      · by_cases q2 : j = 3
        · rw [if_neg q, if_pos q2] at hij2
          have := a5 (i + 1) 0 (by omega) (by omega) hij2
          omega
        · rw [if_neg q, if_neg q2] at hij2
          have := a5 (i + 1) (j + 1) (by omega) (by omega) hij2
          omega
    · show BR v' (if i = 3 then bk 0 else bk (i + 1)) _
      by_cases q : i = 3
      · rw [if_pos q]
        refine ⟨D, n, m, f, dd, Rl_x (Ag_eq fun _ _ _ _ _ => rfl) (fun t ht => ?_) t2⟩
        rw [q]
        exact g3 t ht
      · rw [if_neg q]
        refine BR_x (fun k j t h1 h2 => ?_) (fun t ht => ?_) rfl (a6 (i + 1) (by omega))
        · have hne : bk (i + 1) ≠ bk 0 := fun e => by
            have := a5 (i + 1) 0 (by omega) (by omega) e
            omega
          rw [t3 (k, bk (i + 1), j) (kn (by omega) _ _ _ _) (Or.inr (Or.inr hne)), s2 _ (kn (by omega) _ _ _ _) (kn (by omega) _ _ _ _)]
        · show w' 2 (1483 * i + t) = w 2 (1483 * (i + 1) + t)
          rw [g2 _ (by omega), show 1483 * i + t + 1483 = 1483 * (i + 1) + t by omega]
    · have hzb : z.1 = 0 ∨ 30 < z.1 ∨ z.2.1 ≠ bk 0 := by
        have := (a4 0 (by omega)).2
        omega
      rw [t3 z h0 hzb, s2 z h0 h31]
    · rw [t4 i hi, s3 i hi]
  · rw [if_neg e] at m4
    obtain ⟨g1, g2, g3⟩ := m4
    obtain ⟨v', t1, t2, t3, t4, t5⟩ := keep_fin (k := k) (b := bk k) R (by omega) a2 (a4 k (by omega))
    refine ⟨v', w', ?_, m1, ⟨k + 1, bk, ⟨by omega, t5, g1, fun i hi => ⟨?_, (a4 i hi).2⟩, a5, fun i hi => ?_⟩⟩, fun z h0 h31 hz => ?_, t4, m2, m3⟩
    · unfold f_X6_keepState
      rw [jn_e, if_pos (show v (0, 0, 0) 5 < 4 by rw [a2]; exact (qi_nlt (b := 4) (by omega) (by omega)).mpr (by omega))]
      exact t1
    · rw [t3 (31, 0, 0) (by decide) (Or.inr (Or.inl (by show 30 < 31; omega)))]
      exact (a4 i hi).1
    · by_cases q : i = k
      · rw [q]
        exact ⟨D, n, m, f, dd, Rl_x (Ag_eq fun _ _ _ _ _ => rfl) (fun t ht => g3 t ht) t2⟩
      · refine BR_x (fun k' j t h1 h2 => ?_) (fun t ht => ?_) rfl (a6 i (by omega))
        · have hne : bk i ≠ bk k := fun e => q (a5 i k (by omega) (by omega) e)
          rw [t3 (k', bk i, j) (kn (by omega) _ _ _ _) (Or.inr (Or.inr hne))]
        · exact g2 _ (by omega)
    · have hzb : z.1 = 0 ∨ 30 < z.1 ∨ z.2.1 ≠ bk k := by
        have := (a4 k (by omega)).2
        omega
      exact t3 z h0 hzb
theorem keep_IV {v : mC} {w : mM} (h : IV v w) : ∃ v' w', f_X6_keepState v = some v' ∧ f_X7_saves 1 w = some w' ∧ IV v' w' ∧ (∀ z : kC, z ≠ (0, 0, 0) → z ≠ (31, 0, 0) → (z.1 = 0 ∨ 30 < z.1 ∨ z.2.1 < 3) → v' z = v z) ∧ (∀ z, z ≠ 0 → z ≠ 2 → w' z = w z) ∧ ∀ i, i ≠ 2 → w' 0 i = w 0 i := by
  obtain ⟨h1, ⟨k, bk, h2⟩, h3, h4⟩ := h
  obtain ⟨v', w', g1, g2, g3, g4, g5, g6, g7⟩ := keep_eq (Or.inl rfl) h1 h2
  have hk : ∀ o, o < 3 → ∀ k j i, 1 ≤ k → k ≤ 30 → v' (k, o, j) i = v (k, o, j) i := fun o ho k j i a b => by rw [g4 (k, o, j) (kn (by omega) _ _ _ _) (kn (by omega) _ _ _ _) (Or.inr (Or.inr ho))]
  refine ⟨v', w', g1, g2, ⟨?_, g3, IVs_x (g5 3 (by omega)) (hk 2 (by omega)) (g7 4 (by omega)) (g6 3 (by omega) (by omega)) h3, IVl_x ?_ ?_ (g7 11 (by omega)) (g6 9 (by omega) (by omega)) h4⟩, g4, g6, g7⟩
  · rw [g6 1 (by omega) (by omega)]
    exact BR_x (hk 0 (by omega)) (fun _ _ => rfl) rfl h1
  · rw [g4 (32, 0, 0) (by decide) (by decide) (Or.inr (Or.inl (by show 30 < 32; omega)))]
  · exact g4 (33, 0, 0) (by decide) (by decide) (Or.inr (Or.inl (by show 30 < 33; omega)))
