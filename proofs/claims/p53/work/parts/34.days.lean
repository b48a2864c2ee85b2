/-! DAYS PASS: on both sides -/
abbrev CB (o : Nat) (v v' : mC) : Prop := ∀ z : kC, z.1 < 36 → (z.1 = 0 ∨ 30 < z.1 ∨ z.2.1 ≠ o) → v' z = v z
theorem CB_t {o : Nat} {u v x : mC} (h1 : CB o u v) (h2 : CB o v x) : CB o u x := fun z hz hz2 => (h2 z hz hz2).trans (h1 z hz hz2)
theorem MB_t {u v x : mM} (h1 : MB u v) (h2 : MB v x) : MB u x := fun z hz hz2 => (h2 z hz hz2).trans (h1 z hz hz2)
theorem CB_ne {o k j : Nat} {z : kC} (h : z.1 = 0 ∨ 30 < z.1 ∨ z.2.1 ≠ o) (hk : k ≠ 0) (hk2 : k ≤ 30) : z ≠ (k, o, j) := fun e => by
  rw [e] at h
  rcases h with h | h | h
  · exact hk h
  · exact absurd h (by show ¬ 30 < k; omega)
  · exact h rfl
theorem s_allQ {v : mC} {o b : Nat} {P : Nat → Nat} (hb : b < 20) (h : ∀ l, l < 4 → v (26, o, b) l = nI (P l)) : f_X1_allPlaces o (nI b) v = some (nI (qs P 4)) := by
  unfold f_X1_allPlaces
  refine lp_go (fuel := 8192) (ev := fun k (X : Int32 → Int32 → Option Int32) => X (nI (qs P k)) (nI k)) 4 (by omega) (fun k hk self => ?_) (fun self => ?_)
  · show L_X1_allPlaces_4 o (nI b) v self (nI (qs P k)) (nI k) = self (nI (qs P (k + 1))) (nI (k + 1))
    simp (disch := omega) only [L_X1_allPlaces_4, qi_inb, qi_ix, ck_t, qs_s, nI_1, h k hk, qi_add]
    rw [if_neg (show ¬ (4 : Int32) ≤ nI k from nI_ge (b := 4) hk (by omega))]
  · show L_X1_allPlaces_4 o (nI b) v self _ (nI 4) = _
    simp only [L_X1_allPlaces_4]
    rw [if_pos (by decide)]
theorem coin_eq (v a4 a5 a6 a7 x y z : Int32) (h : v = 50 + a4 + a5 - a6 - a7) : v + (x - y - z) = 50 + (a4 + x) + a5 - (a6 + y) - (a7 + z) := by
  rw [h]
  simp only [Int32.sub_eq_add_neg, Int32.neg_add]
  ac_rfl
section Days
variable {o : Nat} {n m f : Nat} {dd : Nat → Nat}
theorem hold_eq {v : mC} {w : mM} {D E : Nat} (R : RlE v o (w 1) D E n m f dd) (hE : E + 1 = D) {b : Nat} (hb : b < f) (hdb : dd b = D) : ∃ v1 v2 v3 w', f_X3_make o (nI b) v = some v1 ∧ f_X0_enterLineup o (nI b) v1 = some v2 ∧ f_X0_settleAccounts o (nI b) v2 = some v3 ∧ f_X7_holds (nI b) w = some w' ∧ Rl v3 o (w' 1) D n m f dd ∧ CB o v v3 ∧ MB w w' := by
  have hn := R.1.2.1
  have hf := R.1.2.2.2
  obtain ⟨v1, s1, s2, s3, s4⟩ := s_make R hb
  generalize hL : fL v o n m b (nI (dd b)) = L at *
  obtain ⟨c, hc⟩ : ∃ c, dsc L (v (13, o, 0)) (v (6, o, 0)) n = c := ⟨_, rfl⟩
  have hcl : c = 99 ∨ c < n := by rw [← hc]; exact dsc_lt _ _ _ n
  have hCq := fC_eq v o n m b (nI (dd b)) hn
  rw [hL] at hCq
  obtain ⟨C, hC⟩ : ∃ C, fC v o n m b (nI (dd b)) = C := ⟨_, rfl⟩
  rw [hC] at hCq
  have hC30 : 30 - qc (fun i => decide (L i = -1)) 30 = C := by omega
  obtain ⟨w', m1, m2, m3, m4, m5, m6, m7, m8, m9, m10⟩ := m_holds R hb (by omega) hL hC hc
  have v1k : ∀ k j i, k < 36 → v1 (k, o, j) i = v (k, o, j) i := fun k j i hk => by rw [s2 (k, o, j) hk]
  have hn1 : v1 (2, o, 0) 0 = nI n := (v1k 2 0 0 (by omega)).trans R.2.1.2.2.1
  have hch : f_X3_chooseDescant o (13, o, 0) v1 = some (nxI c) := by
    rw [s_choose (L := L) (tr := v (13, o, 0)) hn1 hn (fun i hi => s4 i (by omega)) (fun i _ => v1k 13 0 i (by omega)), s2 (6, o, 0) (by show 6 < 36; omega), hc]
  obtain ⟨v2, e1, e2, e3, e4, e5, e6⟩ := s_enter (b := b) hn1 hn (by omega) s4 hch hcl
  have v2k : ∀ k j i, k < 36 → k ≠ 21 → k ≠ 13 → k ≠ 29 → k ≠ 12 → v2 (k, o, j) i = v (k, o, j) i := fun k j i h1 h2 h3 h4 h5 => by
    rw [e2 (k, o, j) (kn h2 _ _ _ _) (kn h3 _ _ _ _) (kn h4 _ _ _ _) (kn h5 _ _ _ _)]
    exact v1k k j i h1
  have v2L : ∀ i, i < 30 → v2 (36, 0, 0) i = L i := fun i hi => by
    rw [e2 (36, 0, 0) (kn (by decide) _ _ _ _) (kn (by decide) _ _ _ _) (kn (by decide) _ _ _ _) (kn (by decide) _ _ _ _)]
    exact s4 i hi
  have hall : f_X1_allPlaces o (nI b) v2 = some (nI (qs (fP v o b) 4)) := s_allQ (by omega) fun l hl => by
    rw [v2k 26 b l (by omega) (by omega) (by omega) (by omega) (by omega)]
    exact (fP_ok R hb hl).2.1
  have hst := s_settle (b := b) (S := qs (fP v o b) 4) ((v2k 2 0 0 (by omega) (by omega) (by omega) (by omega) (by omega)).trans R.2.1.2.2.1) hn (by omega) v2L hall
  rw [hC30] at hst
  have hfee : fsum L (v2 (9, o, 0)) n = fsum L (fun s => w 1 (13 + 13 * s + 9)) n := fsum_c fun s hs => by
    rw [v2k 9 0 s (by omega) (by omega) (by omega) (by omega) (by omega)]
    exact (R.2.2.1 s hs).2.2.2.2.2.2.2.1.symm
  have hrk : v2 (20, o, 0) b = w 1 (584 + 45 * b) := by
    rw [v2k 20 0 b (by omega) (by omega) (by omega) (by omega) (by omega)]
    exact (R.2.2.2.2.1 b hb).2.1.symm
  rw [hfee, hrk] at hst
  generalize hx : w 1 (584 + 45 * b) * nI C = x at *
  generalize hy : fsum L (fun s => w 1 (13 + 13 * s + 9)) n = y at *
  generalize hz : w 1 (584 + 45 * b) * (nI (qs (fP v o b) 4) - nI C) = z at *
  have e1k : ∀ i, v2 (1, o, 0) i = v (1, o, 0) i := fun i => v2k 1 0 i (by omega) (by omega) (by omega) (by omega) (by omega)
  generalize hv3 : up (up (up (up v2 (1, o, 0) 7 (v2 (1, o, 0) 7 + x)) (1, o, 0) 8 (v2 (1, o, 0) 8 + y)) (1, o, 0) 9 (v2 (1, o, 0) 9 + z)) (1, o, 0) 5 (v2 (1, o, 0) 5 + (x - y - z)) = v3 at hst
  have t1 : ∀ k : kC, k ≠ (1, o, 0) → v3 k = v2 k := fun k hk => funext fun i => by
    rw [← hv3, up_r, if_neg (fun q => hk q.1), up_r, if_neg (fun q => hk q.1), up_r, if_neg (fun q => hk q.1), up_r, if_neg (fun q => hk q.1)]
  have t2 : ∀ i, i ≠ 5 → i ≠ 7 → i ≠ 8 → i ≠ 9 → v3 (1, o, 0) i = v (1, o, 0) i := fun i h5 h7 h8 h9 => by
    rw [← hv3, up_r, if_neg (fun q => h5 q.2), up_r, if_neg (fun q => h9 q.2), up_r, if_neg (fun q => h8 q.2), up_r, if_neg (fun q => h7 q.2), e1k]
  have t5 : v3 (1, o, 0) 5 = v (1, o, 0) 5 + (x - y - z) := by rw [← hv3, up_r, if_pos ⟨rfl, rfl⟩, e1k]
  have t9 : v3 (1, o, 0) 9 = v (1, o, 0) 9 + z := by rw [← hv3, up_r, if_neg (by omega), up_r, if_pos ⟨rfl, rfl⟩, e1k]
  have t8 : v3 (1, o, 0) 8 = v (1, o, 0) 8 + y := by rw [← hv3, up_r, if_neg (by omega), up_r, if_neg (by omega), up_r, if_pos ⟨rfl, rfl⟩, e1k]
  have t7 : v3 (1, o, 0) 7 = v (1, o, 0) 7 + x := by rw [← hv3, up_r, if_neg (by omega), up_r, if_neg (by omega), up_r, if_neg (by omega), up_r, if_pos ⟨rfl, rfl⟩, e1k]
  have v3k : ∀ k j i, k < 36 → k ≠ 1 → k ≠ 21 → k ≠ 13 → k ≠ 29 → k ≠ 12 → v3 (k, o, j) i = v (k, o, j) i := fun k j i h0 h1 h2 h3 h4 h5 => by
    rw [t1 _ (kn h1 _ _ _ _), v2k k j i h0 h2 h3 h4 h5]
  have ak : ∀ i, i ≠ 4 → i ≠ 6 → i ≠ 7 → i < 597 → (∀ s, s < 30 → i ≠ 13 + 13 * s + 11 ∧ i ≠ 13 + 13 * s + 12) → w' 1 i = w 1 i := fun i h4 h6 h7 h8 h9 => m3 i h4 h6 h7 (by omega) (by omega) h9
  obtain ⟨⟨b1, b2, b3, b4⟩, ⟨c1, c2, c3, c4, c5, c6, c7, c8⟩, hS, hN, hF, hU, ⟨p1, p2, p3, p4, p5⟩, hV⟩ := R
  refine ⟨v1, v2, v3, w', s1, e1, hst, m1, ⟨⟨b1, b2, b3, b4⟩, ⟨?_, ?_, ?_, ?_, ?_, ?_, ?_, ?_⟩, fun s hs => ?_, fun k hk => ?_, fun j hj => ?_, hU, ⟨?_, ?_, ?_, ?_, ?_⟩, fun g hg => ?_⟩, fun q h1 h2 => ?_, m2⟩
  · rw [t2 0 (by omega) (by omega) (by omega) (by omega)]; exact c1
  · rw [ak 0 (by omega) (by omega) (by omega) (by omega) (fun s _ => by omega)]; exact c2
  · rw [v3k 2 0 0 (by omega) (by omega) (by omega) (by omega) (by omega) (by omega)]; exact c3
  · rw [ak 1 (by omega) (by omega) (by omega) (by omega) (fun s _ => by omega)]; exact c4
  · rw [v3k 14 0 0 (by omega) (by omega) (by omega) (by omega) (by omega) (by omega)]; exact c5
  · rw [ak 2 (by omega) (by omega) (by omega) (by omega) (fun s _ => by omega)]; exact c6
  · rw [v3k 18 0 0 (by omega) (by omega) (by omega) (by omega) (by omega) (by omega)]; exact c7
  · rw [ak 3 (by omega) (by omega) (by omega) (by omega) (fun s _ => by omega)]; exact c8
  · have hs30 : s < 30 := by omega
    have aj : ∀ j, j < 11 → w' 1 (13 + 13 * s + j) = w 1 (13 + 13 * s + j) := fun j hj => ak _ (by omega) (by omega) (by omega) (by omega) (fun t _ => by omega)
    have vj : ∀ k, 3 ≤ k → k ≤ 11 → v3 (k, o, 0) s = v (k, o, 0) s := fun k h1 h2 => v3k k 0 s (by omega) (by omega) (by omega) (by omega) (by omega) (by omega)
    have v12 : v3 (12, o, 0) s = if L s = -1 then v (12, o, 0) s else v (12, o, 0) s + 1 := by
      rw [t1 _ (kn (by decide) _ _ _ _), e6 s hs, v1k 12 0 s (by omega)]
    have v13 : v3 (13, o, 0) s = if s = c then v (13, o, 0) s + 1 else v (13, o, 0) s := by
      rw [t1 _ (kn (by decide) _ _ _ _), e4 s hs30, v1k 13 0 s (by omega)]
    obtain ⟨r0, r1, r3, r4, r5, r6, r7, r9, r10, r11, r12⟩ := hS s hs
    unfold RS
    rw [aj 0 (by omega), aj 1 (by omega), aj 2 (by omega), aj 3 (by omega), aj 4 (by omega), aj 5 (by omega), aj 6 (by omega), aj 7 (by omega), aj 8 (by omega), aj 9 (by omega), aj 10 (by omega),
      vj 3 (by omega) (by omega), vj 4 (by omega) (by omega), vj 5 (by omega) (by omega), vj 6 (by omega) (by omega), vj 7 (by omega) (by omega), vj 8 (by omega) (by omega), vj 9 (by omega) (by omega), vj 10 (by omega) (by omega), vj 11 (by omega) (by omega),
      v12, v13, m9 s hs, m10 s hs, r11, r12]
    exact ⟨r0, r1, r3, r4, r5, r6, r7, r9, r10, rfl, rfl⟩
  · have h := hN k hk
    unfold RN at h ⊢
    rw [ak _ (by omega) (by omega) (by omega) (by omega) (fun t _ => by omega), ak _ (by omega) (by omega) (by omega) (by omega) (fun t _ => by omega), ak _ (by omega) (by omega) (by omega) (by omega) (fun t _ => by omega),
      v3k 15 0 k (by omega) (by omega) (by omega) (by omega) (by omega) (by omega), v3k 16 0 k (by omega) (by omega) (by omega) (by omega) (by omega) (by omega), v3k 17 0 k (by omega) (by omega) (by omega) (by omega) (by omega) (by omega)]
    exact h
  · obtain ⟨g1, g2, g3, g4⟩ := hF j hj
    have am : ∀ i, i < 14 → w' 1 (583 + 45 * j + i) = w 1 (583 + 45 * j + i) := fun i hi => m3 _ (by omega) (by omega) (by omega) (by omega) (by omega) (fun t _ => by omega)
    have a0 : w' 1 (583 + 45 * j) = w 1 (583 + 45 * j) := am 0 (by omega)
    have a1 : w' 1 (584 + 45 * j) = w 1 (584 + 45 * j) := by
      have := am 1 (by omega)
      rw [show 583 + 45 * j + 1 = 584 + 45 * j by omega] at this
      exact this
    refine ⟨?_, ?_, fun l hl => ?_, fun hd => ?_⟩
    · rw [a0, v3k 19 0 j (by omega) (by omega) (by omega) (by omega) (by omega) (by omega)]
      exact g1
    · rw [a1, v3k 20 0 j (by omega) (by omega) (by omega) (by omega) (by omega) (by omega)]
      exact g2
    · have l0 := am (2 + 3 * l) (by omega)
      have l1 := am (3 + 3 * l) (by omega)
      have l2 := am (4 + 3 * l) (by omega)
      rw [show 583 + 45 * j + (2 + 3 * l) = 585 + 45 * j + 3 * l by omega] at l0
      rw [show 583 + 45 * j + (3 + 3 * l) = 586 + 45 * j + 3 * l by omega] at l1
      rw [show 583 + 45 * j + (4 + 3 * l) = 587 + 45 * j + 3 * l by omega] at l2
      rw [l0, l1, l2, v3k 26 j l (by omega) (by omega) (by omega) (by omega) (by omega) (by omega), v3k 27 j l (by omega) (by omega) (by omega) (by omega) (by omega) (by omega), v3k 28 j l (by omega) (by omega) (by omega) (by omega) (by omega) (by omega)]
      exact g3 l hl
    · by_cases q : j = b
      · subst q
        refine ⟨?_, fun k hk => ?_⟩
        · rw [m7, t1 _ (kn (by decide) _ _ _ _), e3, if_pos rfl]
        · rw [m8 k hk, t1 _ (kn (by decide) _ _ _ _), e5 k hk]
      · have hne : dd j ≠ dd b := fun e => q (hU j b hj hb e)
        obtain ⟨h1, h2⟩ := g4 (by omega)
        refine ⟨?_, fun k hk => ?_⟩
        · rw [m3 _ (by omega) (by omega) (by omega) (by omega) (by omega) (fun t _ => by omega), t1 _ (kn (by decide) _ _ _ _), e3, if_neg q, v1k 21 0 j (by omega)]
          exact h1
        · rw [m3 _ (by omega) (by omega) (by omega) (by omega) (by omega) (fun t _ => by omega), t1 _ (kn (by decide) _ _ _ _), e2 _ (kn (by decide) _ _ _ _) (kn (by decide) _ _ _ _) (fun e => q (keq3 e).2.2) (kn (by decide) _ _ _ _), v1k 29 j k (by omega)]
          exact h2 k hk
  · rw [m4, t7, p1]
  · rw [ak 5 (by omega) (by omega) (by omega) (by omega) (fun s _ => by omega), t2 6 (by omega) (by omega) (by omega) (by omega)]; exact p2
  · rw [m5, t8, p3]
  · rw [m6, t9, p4]
  · rw [t5, m4, m5, m6, ak 5 (by omega) (by omega) (by omega) (by omega) (fun s _ => by omega)]
    exact coin_eq _ _ _ _ _ _ _ _ p5
  · rw [ak _ (by omega) (by omega) (by omega) (by omega) (fun s _ => by omega), v3k 30 0 g (by omega) (by omega) (by omega) (by omega) (by omega) (by omega)]
    exact hV g hg
  · rw [t1 q (CB_ne h2 (by omega) (by omega)), e2 q (CB_ne h2 (by omega) (by omega)) (CB_ne h2 (by omega) (by omega)) (CB_ne h2 (by omega) (by omega)) (CB_ne h2 (by omega) (by omega)), s2 q h1]
/-- the reference's day: who has left -/
def TJ (v : mC) (o : Nat) (w : mM) (D k : Nat) (u : mM) : Prop :=
  (∀ z, z ≠ 1 → u z = w z) ∧ u 1 0 = nI (D + 1) ∧ (∀ i, i ≠ 0 → (∀ s, s < k → i ≠ 13 + 13 * s + 7) → u 1 i = w 1 i) ∧
  ∀ s, s < k → u 1 (13 + 13 * s + 7) = if ¬ nI (D + 1) ≤ v (10, o, 0) s then 1 else w 1 (13 + 13 * s + 7)
theorem will_c {u w : mM} {s : Nat} (hs : s < 30) (d : Int32) (h0 : u 1 (13 + 13 * s + 0) = w 1 (13 + 13 * s + 0)) (h7 : u 1 (13 + 13 * s + 7) = w 1 (13 + 13 * s + 7)) (h8 : u 1 (13 + 13 * s + 8) = w 1 (13 + 13 * s + 8)) : f_X7_willHaveLeft (nI s) d u = f_X7_willHaveLeft (nI s) d w := by
  have g7 : ∀ x, f_X7_its (nI s) 7 x = some (x 1 (13 + 13 * s + 7)) := fun x => m_its (j := 7) hs (by omega) x
  have g0 : ∀ x, f_X7_its (nI s) 0 x = some (x 1 (13 + 13 * s + 0)) := fun x => m_its (j := 0) hs (by omega) x
  have g8 : ∀ x, f_X7_its (nI s) 8 x = some (x 1 (13 + 13 * s + 8)) := fun x => m_its (j := 8) hs (by omega) x
  simp only [f_X7_willHaveLeft, g7, g0, g8, h0, h7, h8]
theorem tick_step {v : mC} {w u : mM} {D E k : Nat} (R : RlE v o (w 1) D E n m f dd) (hD : D + 1 ≤ 9999) (hk : k < n) (self : Int32 → mM → Option (Int32 × mM)) (h : TJ v o w D k u) : ∃ u', TJ v o w D (k + 1) u' ∧ L_X7_passes_14 self (nI k) u = self (nI (k + 1)) u' := by
  have hn := R.1.2.1
  obtain ⟨h1, h2, h3, h4⟩ := h
  have e11 : u 1 1 = nI n := by rw [h3 1 (by omega) (fun s _ => by omega)]; exact R.2.1.2.2.2.1
  have hw : f_X7_willHaveLeft (nI k) (nI (D + 1)) u = some (b2 (¬ nI (D + 1) ≤ v (10, o, 0) k)) := by
    rw [will_c (w := w) (by omega) _ (h3 _ (by omega) (fun s _ => by omega)) (h3 _ (by omega) (fun s _ => by omega)) (h3 _ (by omega) (fun s _ => by omega))]
    exact m_will R hk (by omega) (by omega)
  have lk : f_X7_lay (nI k) 7 1 u = some (up u 1 (13 + 13 * k + 7) 1) := m_lay (j := 7) (by omega) (by omega) 1 u
  by_cases p : ¬ nI (D + 1) ≤ v (10, o, 0) k
  · refine ⟨up u 1 (13 + 13 * k + 7) 1, ⟨fun z hz => ?_, ?_, fun i g1 g2 => ?_, fun s hs => ?_⟩, ?_⟩
    · rw [← h1 z hz]
      exact funext fun i => by rw [up_r, if_neg (fun q => hz q.1)]
    · rw [up_r, if_neg (by omega)]; exact h2
    · rw [up_r, if_neg (fun q => g2 k (by omega) q.2)]
      exact h3 i g1 (fun s hs => g2 s (by omega))
    · rw [up_r]
      by_cases q : s = k
      · rw [if_pos ⟨rfl, by omega⟩, q, if_pos p]
      · rw [if_neg (by omega)]
        exact h4 s (by omega)
    · simp (disch := omega) only [L_X7_passes_14, inb_1, ix_1, inb_0, ix_0, ck_t, e11, qi_nle, h2, hw, bnd_s, b2_if, lk, nI_1]
      rw [if_neg (by omega), if_pos p]
  · refine ⟨u, ⟨h1, h2, fun i g1 g2 => h3 i g1 (fun s hs => g2 s (by omega)), fun s hs => ?_⟩, ?_⟩
    · by_cases q : s = k
      · rw [q, if_neg p]
        exact h3 _ (by omega) (fun s _ => by omega)
      · exact h4 s (by omega)
    · simp (disch := omega) only [L_X7_passes_14, inb_1, ix_1, inb_0, ix_0, ck_t, e11, qi_nle, h2, hw, bnd_s, b2_if, nI_1]
      rw [if_neg (by omega), if_neg p]
theorem tick_loop {v : mC} {w : mM} {D E : Nat} (R : RlE v o (w 1) D E n m f dd) (hD : D + 1 ≤ 9999) : ∀ (d k fuel : Nat) (u : mM), k + d = n → d < fuel → TJ v o w D k u → ∃ u', TJ v o w D n u' ∧ lp (fun _ _ => none) L_X7_passes_14 fuel (nI k) u = lp (fun _ _ _ => none) L_X7_passes_54 8192 0 0 u'
  | 0, k, fuel, u, h, hf, hj => by
    have hn := R.1.2.1
    obtain ⟨m, rfl⟩ : ∃ m, fuel = m + 1 := ⟨fuel - 1, by omega⟩
    have : k = n := by omega
    subst this
    refine ⟨u, hj, ?_⟩
    show L_X7_passes_14 _ (nI k) u = _
    have e11 : u 1 1 = nI k := by rw [hj.2.2.1 1 (by omega) (fun s _ => by omega)]; exact R.2.1.2.2.2.1
    simp (disch := omega) only [L_X7_passes_14, inb_1, ix_1, ck_t, e11, qi_nle]
    rw [if_pos (Nat.le_refl k)]
  | d + 1, k, fuel, u, h, hf, hj => by
    obtain ⟨m, rfl⟩ : ∃ m, fuel = m + 1 := ⟨fuel - 1, by omega⟩
    obtain ⟨u2, g1, g2⟩ := tick_step R hD (show k < n by omega) (lp (fun _ _ => none) L_X7_passes_14 m) hj
    obtain ⟨u', g3, g4⟩ := tick_loop R hD d (k + 1) m u2 (by omega) (by omega) g1
    exact ⟨u', g3, (show _ = _ from g2).trans g4⟩
theorem tick {v : mC} {w : mM} {D : Nat} (R : Rl v o (w 1) D n m f dd) (hD : D + 1 ≤ 9999) : ∃ u, f_X7_passes w = lp (fun _ _ _ => none) L_X7_passes_54 8192 0 0 u ∧ RlE (up v (1, o, 0) 0 (nI (D + 1))) o (u 1) (D + 1) D n m f dd ∧ ∀ z, z ≠ 1 → u z = w z := by
  have hn := R.1.2.1
  obtain ⟨u, ⟨h1, h2, h3, h4⟩, hl⟩ := tick_loop R hD n 0 8192 (up w 1 0 (nI (D + 1))) (by omega) (by omega) ⟨fun z hz => funext fun i => by rw [up_r, if_neg (fun q => hz q.1)], by rw [up_r, if_pos ⟨rfl, rfl⟩], fun i hi _ => by rw [up_r, if_neg (fun q => hi q.2)], fun s hs => absurd hs (Nat.not_lt_zero s)⟩
  have ue : ∀ i, i ≠ 0 → (∀ s, s < 30 → i ≠ 13 + 13 * s + 7) → u 1 i = w 1 i := fun i h0 h7 => h3 i h0 (fun s hs => h7 s (by omega))
  have vk : ∀ k j i, k ≠ 1 → up v (1, o, 0) 0 (nI (D + 1)) (k, o, j) i = v (k, o, j) i := fun k j i hk => by rw [up_r, if_neg (fun q => hk (keq3 q.1).1)]
  have v1 : ∀ i, i ≠ 0 → up v (1, o, 0) 0 (nI (D + 1)) (1, o, 0) i = v (1, o, 0) i := fun i hi => by rw [up_r, if_neg (fun q => hi q.2)]
  obtain ⟨⟨b1, b2, b3, b4⟩, ⟨c1, c2, c3, c4, c5, c6, c7, c8⟩, hS, hN, hF, hU, ⟨p1, p2, p3, p4, p5⟩, hV⟩ := R
  refine ⟨u, ?_, ⟨⟨hD, b2, b3, b4⟩, ⟨?_, h2, ?_, ?_, ?_, ?_, ?_, ?_⟩, fun s hs => ?_, fun k hk => ?_, fun j hj => ?_, hU, ⟨?_, ?_, ?_, ?_, ?_⟩, fun g hg => ?_⟩, h1⟩
  · have e0 : nI D + 1 = nI (D + 1) := nI_1 D
    simp only [f_X7_passes, inb_0, ix_0, ck_t, c2, lt_e, e0]
    exact hl
  · rw [up_r, if_pos ⟨rfl, rfl⟩]
  · rw [vk 2 0 0 (by omega)]; exact c3
  · rw [ue 1 (by omega) (fun s _ => by omega)]; exact c4
  · rw [vk 14 0 0 (by omega)]; exact c5
  · rw [ue 2 (by omega) (fun s _ => by omega)]; exact c6
  · rw [vk 18 0 0 (by omega)]; exact c7
  · rw [ue 3 (by omega) (fun s _ => by omega)]; exact c8
  · have aj : ∀ j, j < 13 → j ≠ 7 → u 1 (13 + 13 * s + j) = w 1 (13 + 13 * s + j) := fun j hj h7 => ue _ (by omega) (fun t _ => by omega)
    obtain ⟨r0, ⟨y, B, q1, q2, q3, q4, q5, q6⟩, r3, r4, r5, r6, r7, r9, r10, r11, r12⟩ := hS s hs
    unfold RS
    rw [aj 0 (by omega) (by omega), aj 1 (by omega) (by omega), aj 2 (by omega) (by omega), aj 3 (by omega) (by omega), aj 4 (by omega) (by omega), aj 5 (by omega) (by omega), aj 6 (by omega) (by omega), aj 8 (by omega) (by omega), aj 9 (by omega) (by omega), aj 10 (by omega) (by omega), aj 11 (by omega) (by omega), aj 12 (by omega) (by omega), h4 s hs,
      vk 3 0 s (by omega), vk 4 0 s (by omega), vk 5 0 s (by omega), vk 6 0 s (by omega), vk 7 0 s (by omega), vk 8 0 s (by omega), vk 9 0 s (by omega), vk 10 0 s (by omega), vk 11 0 s (by omega), vk 12 0 s (by omega), vk 13 0 s (by omega)]
    refine ⟨r0, ⟨y, B, q1, q2, by omega, q4, q5, q6⟩, r3, r4, r5, r6, ?_, r9, r10, r11, r12⟩
    by_cases p : nI (D + 1) ≤ v (10, o, 0) s
    · rw [if_neg (fun q => q p)]
      rw [qi_le, qi_I (by omega)] at p
      rcases r7 with ⟨g1, g2⟩ | ⟨g1, g2, g3⟩
      · omega
      · exact Or.inr ⟨g1, by omega, g3⟩
    · rw [if_pos p]
      rw [qi_le, qi_I (by omega)] at p
      exact Or.inl ⟨rfl, by omega⟩
  · have h := hN k hk
    unfold RN at h ⊢
    rw [ue _ (by omega) (fun t _ => by omega), ue _ (by omega) (fun t _ => by omega), ue _ (by omega) (fun t _ => by omega), vk 15 0 k (by omega), vk 16 0 k (by omega), vk 17 0 k (by omega)]
    exact h
  · have h := hF j hj
    unfold RF at h ⊢
    rw [ue (583 + 45 * j) (by omega) (fun t _ => by omega), ue (584 + 45 * j) (by omega) (fun t _ => by omega), ue (597 + 45 * j) (by omega) (fun t _ => by omega), vk 19 0 j (by omega), vk 20 0 j (by omega), vk 21 0 j (by omega)]
    refine ⟨h.1, h.2.1, fun l hl => ?_, fun hd => ⟨(h.2.2.2 hd).1, fun k hk => ?_⟩⟩
    · rw [ue _ (by omega) (fun t _ => by omega), ue _ (by omega) (fun t _ => by omega), ue _ (by omega) (fun t _ => by omega), vk 26 j l (by omega), vk 27 j l (by omega), vk 28 j l (by omega)]
      exact h.2.2.1 l hl
    · rw [ue _ (by omega) (fun t _ => by omega), vk 29 j k (by omega)]
      exact (h.2.2.2 hd).2 k hk
  · rw [ue 4 (by omega) (fun s _ => by omega), v1 7 (by omega)]; exact p1
  · rw [ue 5 (by omega) (fun s _ => by omega), v1 6 (by omega)]; exact p2
  · rw [ue 6 (by omega) (fun s _ => by omega), v1 8 (by omega)]; exact p3
  · rw [ue 7 (by omega) (fun s _ => by omega), v1 9 (by omega)]; exact p4
  · rw [ue 4 (by omega) (fun s _ => by omega), ue 5 (by omega) (fun s _ => by omega), ue 6 (by omega) (fun s _ => by omega), ue 7 (by omega) (fun s _ => by omega), v1 5 (by omega)]; exact p5
  · rw [ue _ (by omega) (fun s _ => by omega), vk 30 0 g (by omega)]
    exact hV g hg
theorem pass_none {v : mC} {w : mM} {D : Nat} (R : Rl v o (w 1) D n m f dd) (hD : D + 1 ≤ 9999) (hno : ∀ j, j < f → dd j ≠ D + 1) : ∃ w', f_X7_passes w = some (0, w') ∧ Rl (up v (1, o, 0) 0 (nI (D + 1))) o (w' 1) (D + 1) n m f dd ∧ MB w w' := by
  obtain ⟨u, h1, R2, h3⟩ := tick R hD
  have hf := R.1.2.2.2
  refine ⟨u, ?_, ⟨R2.1, R2.2.1, R2.2.2.1, R2.2.2.2.1, fun j hj => ?_, R2.2.2.2.2.2⟩, fun z hz h => h3 z h⟩
  · rw [h1]
    refine lp_go (fuel := 8192) (ev := fun k (X : Int32 → Int32 → mM → Option (Int32 × mM)) => X 0 (nI k) u) f (by omega) (fun k hk self => ?_) (fun self => ?_)
    · show L_X7_passes_54 self 0 (nI k) u = self 0 (nI (k + 1)) u
      have hk9 := (R2.2.2.2.2.1 k hk).1
      have e3 : u 1 3 = nI f := R2.2.1.2.2.2.2.2.2.2
      have e0 : u 1 0 = nI (D + 1) := R2.2.1.2.1
      simp (disch := omega) only [L_X7_passes_54, inb_3, ix_3, inb_0, ix_0, ck_t, e3, e0, qi_nle, m_dayAt (show k < 20 by omega), hk9.2.2.1, bnd_s, qi_neq, nI_1]
      rw [if_neg (by omega), if_neg (hno k hk)]
    · show L_X7_passes_54 self 0 (nI f) u = _
      have e3 : u 1 3 = nI f := R2.2.1.2.2.2.2.2.2.2
      simp (disch := omega) only [L_X7_passes_54, inb_3, ix_3, ck_t, e3, qi_nle]
      rw [if_pos (Nat.le_refl f)]
  · obtain ⟨g1, g2, g3, g4⟩ := R2.2.2.2.2.1 j hj
    exact ⟨g1, g2, g3, fun hd => g4 (by have := hno j hj; omega)⟩
theorem pass_one {v : mC} {w : mM} {D b : Nat} (R : Rl v o (w 1) D n m f dd) (hD : D + 1 ≤ 9999) (hb : b < f) (hdb : dd b = D + 1) : ∃ v1 v2 v3 w', f_X3_make o (nI b) (up v (1, o, 0) 0 (nI (D + 1))) = some v1 ∧ f_X0_enterLineup o (nI b) v1 = some v2 ∧ f_X0_settleAccounts o (nI b) v2 = some v3 ∧ f_X7_passes w = some (1, w') ∧ Rl v3 o (w' 1) (D + 1) n m f dd ∧ CB o v v3 ∧ MB w w' := by
  obtain ⟨u, h1, R2, h3⟩ := tick R hD
  have hf := R.1.2.2.2
  obtain ⟨v1, v2, v3, w', s1, s2, s3, s4, s5, s6, s7⟩ := hold_eq R2 rfl hb hdb
  refine ⟨v1, v2, v3, w', s1, s2, s3, ?_, s5, fun z hz hz2 => ?_, fun z hz h => ?_⟩
  · rw [h1]
    have key := lp_at (bot := fun _ _ _ => none) (F := L_X7_passes_54) (ev := fun k (X : Int32 → Int32 → mM → Option (Int32 × mM)) => if k ≤ b then X 0 (nI k) u else X 1 (nI k) w') f (some ((1 : Int32), w')) (fun k hk self => ?_) (fun self => ?_) f 0 8192 (by omega) (by omega)
    · simp only [Nat.zero_le, if_true] at key
      exact key
    · have hk9 := (R2.2.2.2.2.1 k hk).1
      have hk9' := (s5.2.2.2.2.1 k hk).1
      have e3 : u 1 3 = nI f := R2.2.1.2.2.2.2.2.2.2
      have e0 : u 1 0 = nI (D + 1) := R2.2.1.2.1
      have e3' : w' 1 3 = nI f := s5.2.1.2.2.2.2.2.2.2
      have e0' : w' 1 0 = nI (D + 1) := s5.2.1.2.1
      show (if k ≤ b then L_X7_passes_54 self 0 (nI k) u else L_X7_passes_54 self 1 (nI k) w') = if k + 1 ≤ b then self 0 (nI (k + 1)) u else self 1 (nI (k + 1)) w'
      have hU := R.2.2.2.2.2.1
      by_cases q : k = b
      · rw [if_pos (by omega), if_neg (by omega)]
        subst q
        simp (disch := omega) only [L_X7_passes_54, inb_3, ix_3, inb_0, ix_0, ck_t, e3, e0, qi_nle, m_dayAt (show k < 20 by omega), hk9.2.2.1, bnd_s, qi_neq, nI_1, s4]
        rw [if_neg (by omega), if_pos hdb]
        rfl
      · have hne : dd k ≠ D + 1 := fun e => q (hU k b hk hb (by omega))
        by_cases q2 : k ≤ b
        · rw [if_pos q2, if_pos (by omega)]
          simp (disch := omega) only [L_X7_passes_54, inb_3, ix_3, inb_0, ix_0, ck_t, e3, e0, qi_nle, m_dayAt (show k < 20 by omega), hk9.2.2.1, bnd_s, qi_neq, nI_1]
          rw [if_neg (by omega), if_neg hne]
        · rw [if_neg q2, if_neg (by omega)]
          simp (disch := omega) only [L_X7_passes_54, inb_3, ix_3, inb_0, ix_0, ck_t, e3', e0', qi_nle, m_dayAt (show k < 20 by omega), hk9'.2.2.1, bnd_s, qi_neq, nI_1]
          rw [if_neg (by omega), if_neg hne]
    · show (if f ≤ b then _ else L_X7_passes_54 self 1 (nI f) w') = _
      have e3' : w' 1 3 = nI f := s5.2.1.2.2.2.2.2.2.2
      rw [if_neg (by omega)]
      simp (disch := omega) only [L_X7_passes_54, inb_3, ix_3, ck_t, e3', qi_nle]
      rw [if_pos (Nat.le_refl f)]
  · rw [s6 z hz hz2]
    exact funext fun i => by rw [up_r, if_neg (fun q => CB_ne hz2 (by omega) (by omega) q.1)]
  · rw [s7 z hz h, h3 z h]
theorem nx_skip {d : Nat} (hno : ∀ j, j < f → dd j ≠ d + 1) : ∀ k, k ≤ f → nx dd d k = nx dd (d + 1) k
  | 0, _ => rfl
  | k + 1, hk => by
    have ih := nx_skip hno k (by omega)
    have h := hno k (by omega)
    show (if d < dd k ∧ (nx dd d k = 99 ∨ dd k < dd (nx dd d k)) then k else nx dd d k) = if d + 1 < dd k ∧ (nx dd (d + 1) k = 99 ∨ dd k < dd (nx dd (d + 1) k)) then k else nx dd (d + 1) k
    rw [ih]
    have e : d < dd k ↔ d + 1 < dd k := by omega
    by_cases q : d + 1 < dd k ∧ (nx dd (d + 1) k = 99 ∨ dd k < dd (nx dd (d + 1) k))
    · rw [if_pos q, if_pos ⟨e.mpr q.1, q.2⟩]
    · rw [if_neg q, if_neg (fun z => q ⟨e.mp z.1, z.2⟩)]
theorem nx_at {d b : Nat} (hf : f ≤ 20) (hb : b < f) (h : dd b = d + 1) (hU : ∀ i j, i < f → j < f → dd i = dd j → i = j) : nx dd d f = b := by
  rcases nx_spec dd d f hf with ⟨a1, a2⟩ | ⟨a1, a2, a3⟩
  · have := a2 b hb
    omega
  · have := a3 b hb (by omega)
    exact hU _ _ a1 hb (by omega)
theorem adv {v0 : mC} {x1 : Int32} {T days : Nat} (hT : v0 (1, o, 0) 0 + x1 = nI T) (hT9 : T ≤ 9999) (hd99 : days ≤ 99) : ∀ (r d : Nat) (v : mC) (w : mM) (cnt i f1 f2 : Nat), d + r = T → Rl (up v (1, o, 0) 0 (nI d)) o (w 1) d n m f dd → rem dd f d + i ≤ 20 → rem dd f d < f1 → r < f2 → r ≤ days →
    ∃ c v' w', lp (fun _ _ _ _ => none) (L_X0_advance_26 o x1 v0) f1 (nI cnt) (nxI (nx dd d f)) (nI i) v = some (nI c, v') ∧ lp (fun _ _ _ => none) (L_X7_passesMany_4 (nI days)) f2 (nI cnt) (nI (days - r)) w = some (nI c, w') ∧ Rl v' o (w' 1) T n m f dd ∧ CB o v v' ∧ MB w w' ∧ c ≤ cnt + r := by
  intro r
  induction r with
  | zero =>
    intro d v w cnt i f1 f2 hd R hi hf1 hf2 hr
    have hf := R.1.2.2.2
    have : d = T := by omega
    subst this
    obtain ⟨f1, rfl⟩ : ∃ x, f1 = x + 1 := ⟨f1 - 1, by omega⟩
    obtain ⟨f2, rfl⟩ : ∃ x, f2 = x + 1 := ⟨f2 - 1, by omega⟩
    refine ⟨cnt, up v (1, o, 0) 0 (nI d), w, ?_, ?_, R, fun z hz hz2 => funext fun i => by rw [up_r, if_neg (fun q => CB_ne hz2 (by omega) (by omega) q.1)], fun z _ _ => rfl, Nat.le_refl _⟩
    · show L_X0_advance_26 o x1 v0 _ (nI cnt) (nxI (nx dd d f)) (nI i) v = _
      simp only [L_X0_advance_26, hT, lt_e]
      rcases nx_spec dd d f hf with ⟨a1, a2⟩ | ⟨a1, a2, a3⟩
      · rw [a1, if_pos (show nxI 99 = -1 from rfl)]
        split <;> rfl
      · have hb9 := (R.2.2.2.2.1 _ a1).1
        generalize nx dd d f = b at *
        have hbI : nxI b = nI b := if_neg (by omega)
        have hv19 : v (19, o, 0) b = nI (dd b) := by
          have := hb9.2.2.2
          rw [up_r, if_neg (fun q => absurd (keq3 q.1).1 (by decide))] at this
          exact this
        rw [hbI, if_neg (qi_nM (by omega))]
        simp (disch := omega) only [qi_inb, qi_ix, ck_t, hv19, qi_nlt]
        rw [if_pos a2]
        split <;> rfl
    · show L_X7_passesMany_4 (nI days) _ (nI cnt) (nI (days - 0)) w = _
      simp only [L_X7_passesMany_4]
      rw [if_pos (nI_le (by omega) (by omega))]
  | succ r ih =>
    intro d v w cnt i f1 f2 hd R hi hf1 hf2 hr
    have hf := R.1.2.2.2
    obtain ⟨f2, rfl⟩ : ∃ x, f2 = x + 1 := ⟨f2 - 1, by omega⟩
    have hle : rem dd f (d + 1) ≤ rem dd f d := qc_imp fun k _ hk => by
      have := of_decide_eq_true hk
      exact decide_eq_true (by omega)
    have hday : ∀ u : mM, ∀ x : Int32, f_X7_passes w = some (x, u) → lp (fun _ _ _ => none) (L_X7_passesMany_4 (nI days)) (f2 + 1) (nI cnt) (nI (days - (r + 1))) w = lp (fun _ _ _ => none) (L_X7_passesMany_4 (nI days)) f2 (nI cnt + x) (nI (days - r)) u := fun u x hx => by
      show L_X7_passesMany_4 (nI days) (lp (fun _ _ _ => none) (L_X7_passesMany_4 (nI days)) f2) (nI cnt) (nI (days - (r + 1))) w = _
      generalize lp (fun _ _ _ => none) (L_X7_passesMany_4 (nI days)) f2 = self
      simp only [L_X7_passesMany_4, hx, bnd_s, nI_1]
      rw [if_neg (nI_ge (by omega) (by omega)), show days - (r + 1) + 1 = days - r by omega]
    by_cases hex : ∃ b, b < f ∧ dd b = d + 1
    · obtain ⟨b, hb, hdb⟩ := hex
      have hU := R.2.2.2.2.2.1
      have hnx := nx_at hf hb hdb hU
      obtain ⟨v1, v2, v3, w', s1, s2, s3, s4, s5, s6, s7⟩ := pass_one R (by omega) hb hdb
      rw [up_up] at s1
      have hrl := rem_lt (dd := dd) (f := f) (d := d) hb (by omega)
      rw [hdb] at hrl
      obtain ⟨f1, rfl⟩ : ∃ x, f1 = x + 1 := ⟨f1 - 1, by omega⟩
      have e30 : v3 (1, o, 0) 0 = nI (d + 1) := s5.2.1.1
      obtain ⟨c, v', w'', g1, g2, g3, g4, g5, g6⟩ := ih (d + 1) v3 w' (cnt + 1) (i + 1) f1 f2 (by omega) (by rw [up_self _ _ _ _ e30.symm]; exact s5) (by omega) (by omega) (by omega) (by omega)
      have cbv : CB o v v3 := fun z hz hz2 => by
        rw [s6 z hz hz2]
        exact funext fun i => by rw [up_r, if_neg (fun q => CB_ne hz2 (by omega) (by omega) q.1)]
      refine ⟨c, v', w'', ?_, ?_, g3, CB_t cbv g4, MB_t s7 g5, by omega⟩
      · rw [hnx]
        show L_X0_advance_26 o x1 v0 (lp (fun _ _ _ _ => none) (L_X0_advance_26 o x1 v0) f1) (nI cnt) (nxI b) (nI i) v = _
        refine Eq.trans ?_ g1
        generalize lp (fun _ _ _ _ => none) (L_X0_advance_26 o x1 v0) f1 = self
        have hbI : nxI b = nI b := if_neg (by omega)
        have hv19 : v (19, o, 0) b = nI (d + 1) := by
          have := (R.2.2.2.2.1 b hb).1.2.2.2
          rw [up_r, if_neg (fun q => absurd (keq3 q.1).1 (by decide)), hdb] at this
          exact this
        have hn2 : f_X1_nextAfter o (nI (d + 1)) v3 = some (nxI (nx dd (d + 1) f)) := s_next s5 (by omega)
        rw [hbI]
        simp (disch := omega) only [L_X0_advance_26, hT, lt_e, qi_inb, qi_ix, ck_t, hv19, qi_nlt, s1, s2, s3, bnd_s, e30, hn2, nI_1]
        rw [if_neg (show ¬ (20 : Int32) ≤ nI i from nI_ge (b := 20) (by omega) (by omega)), if_neg (qi_nM (by omega)), if_neg (by omega)]
      · rw [hday w' 1 s4, nI_1]
        exact g2
    · have hno : ∀ j, j < f → dd j ≠ d + 1 := fun j hj e => hex ⟨j, hj, e⟩
      obtain ⟨w', s4, s5, s7⟩ := pass_none R (by omega) hno
      rw [up_up] at s5
      obtain ⟨c, v', w'', g1, g2, g3, g4, g5, g6⟩ := ih (d + 1) v w' cnt i f1 f2 (by omega) s5 (by omega) (by omega) (by omega) (by omega)
      refine ⟨c, v', w'', ?_, ?_, g3, g4, MB_t s7 g5, by omega⟩
      · rw [nx_skip hno f (Nat.le_refl f)]
        exact g1
      · rw [hday w' 0 s4, qi_add0]
        exact g2
/-- so many days pass -/
theorem days_eq2 {v : mC} {w : mM} {D days : Nat} (R : Rl v o (w 1) D n m f dd) (h1 : days ≤ 99) (h2 : D + days ≤ 9999) : ∃ c v' w', f_X0_advance o (nI days) v = some (nI c, v') ∧ f_X7_passesMany (nI days) w = some (nI c, w') ∧ Rl v' o (w' 1) (D + days) n m f dd ∧ CB o v v' ∧ MB w w' ∧ c ≤ days := by
  have hf := R.1.2.2.2
  have hr := rem_le dd f D
  have e0 : v (1, o, 0) 0 = nI D := R.2.1.1
  obtain ⟨c, v', w', g1, g2, g3, g4, g5, g6⟩ := adv (v0 := v) (x1 := nI days) (T := D + days) (days := days) (by rw [e0, qi_add]) h2 h1 days D v w 0 0 8192 8192 rfl (by rw [up_self _ _ _ _ e0.symm]; exact R) (by omega) (by omega) (by omega) (Nat.le_refl _)
  refine ⟨c, v', w', ?_, ?_, g3, g4, g5, by omega⟩
  · unfold f_X0_advance
    rw [e0, s_next R (by omega), bnd_s]
    exact g1
  · rw [Nat.sub_self] at g2
    exact g2
theorem days_eq {v : mC} {w : mM} {D days : Nat} (R : Rl v o (w 1) D n m f dd) (h1 : days ≤ 99) (h2 : D + days ≤ 9999) : ∃ c v' w', f_X0_advance o (nI days) v = some (nI c, v') ∧ f_X7_passesMany (nI days) w = some (nI c, w') ∧ Rl v' o (w' 1) (D + days) n m f dd ∧ CB o v v' ∧ MB w w' := by
  obtain ⟨c, v', w', g1, g2, g3, g4, g5, -⟩ := days_eq2 R h1 h2
  exact ⟨c, v', w', g1, g2, g3, g4, g5⟩
end Days
