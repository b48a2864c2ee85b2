/-! ACTS: a feast is announced, a line is set -/
section Acts3
variable {v : mC} {o : Nat} {w : mM} {D n m f : Nat} {dd : Nat → Nat}
theorem feast_eq (R : Rl v o (w 1) D n m f dd) (hf : f < 20) {d : Nat} (hd : D < d) (hd9 : d ≤ 9999) (hno : ∀ j, j < f → dd j ≠ d) (x2 : Int32) : ∃ v' w', f_X0_addFeast o (nI d) x2 v = some (nI f, v') ∧ f_X7_announces (nI d) x2 w = some (nI f, w') ∧ Rl v' o (w' 1) D n m (f + 1) (fun j => if j = f then d else dd j) ∧ CB o v v' ∧ ∀ z, z ≠ 1 → w' z = w z := by
  obtain ⟨⟨b1, b2, b3, b4⟩, ⟨c1, c2, c3, c4, c5, c6, c7, c8⟩, hS, hN, hF, hU, hP, hV⟩ := R
  generalize hdd : (fun j => if j = f then d else dd j) = dd'
  have d1 : dd' f = d := by rw [← hdd]; exact if_pos rfl
  have d2 : ∀ j, j ≠ f → dd' j = dd j := fun j hj => by rw [← hdd]; exact if_neg hj
  obtain ⟨v', hv'⟩ : ∃ v', v' = up (rowT (rowT (rowT (up (up v (19, o, 0) f (nI d)) (20, o, 0) f x2) (26, o, f) (fun _ => 0) 4) (27, o, f) (fun _ => 0) 4) (28, o, f) (fun _ => 0) 4) (18, o, 0) 0 (nI (f + 1)) := ⟨_, rfl⟩
  have ao : ∀ z, z ≠ (19, o, 0) → z ≠ (20, o, 0) → z ≠ (26, o, f) → z ≠ (27, o, f) → z ≠ (28, o, f) → z ≠ (18, o, 0) → v' z = v z := fun z h1 h2 h3 h4 h5 h6 => funext fun i => by
    rw [hv', up_r, if_neg (fun q => h6 q.1), rowT_ne _ _ _ _ h5, rowT_ne _ _ _ _ h4, rowT_ne _ _ _ _ h3, up_r, if_neg (fun q => h2 q.1), up_r, if_neg (fun q => h1 q.1)]
  have vk : ∀ k j, ¬ (18 ≤ k ∧ k ≤ 20) → ¬ (26 ≤ k ∧ k ≤ 28) → v' (k, o, j) = v (k, o, j) := fun k j h1 h2 => ao _ (kn (by omega) _ _ _ _) (kn (by omega) _ _ _ _) (kn (by omega) _ _ _ _) (kn (by omega) _ _ _ _) (kn (by omega) _ _ _ _) (kn (by omega) _ _ _ _)
  have vj : ∀ k j, 26 ≤ k → k ≤ 28 → j ≠ f → v' (k, o, j) = v (k, o, j) := fun k j h1 h2 h3 => ao _ (kn (by omega) _ _ _ _) (kn (by omega) _ _ _ _) (fun e => h3 (keq3 e).2.2) (fun e => h3 (keq3 e).2.2) (fun e => h3 (keq3 e).2.2) (kn (by omega) _ _ _ _)
  have a18 : v' (18, o, 0) 0 = nI (f + 1) := by rw [hv', up_r, if_pos ⟨rfl, rfl⟩]
  have a19 : ∀ i, v' (19, o, 0) i = if i = f then nI d else v (19, o, 0) i := fun i => by
    rw [hv', up_r, if_neg (fun q => absurd (keq3 q.1).1 (by decide)), rowT_ne _ _ _ _ (kn (by decide) _ _ _ _), rowT_ne _ _ _ _ (kn (by decide) _ _ _ _), rowT_ne _ _ _ _ (kn (by decide) _ _ _ _), up_r, if_neg (fun q => absurd (keq3 q.1).1 (by decide)), up_r]
    by_cases q : i = f
    · rw [if_pos ⟨rfl, q⟩, if_pos q]
    · rw [if_neg (fun e => q e.2), if_neg q]
  have a20 : ∀ i, v' (20, o, 0) i = if i = f then x2 else v (20, o, 0) i := fun i => by
    rw [hv', up_r, if_neg (fun q => absurd (keq3 q.1).1 (by decide)), rowT_ne _ _ _ _ (kn (by decide) _ _ _ _), rowT_ne _ _ _ _ (kn (by decide) _ _ _ _), rowT_ne _ _ _ _ (kn (by decide) _ _ _ _), up_r]
    by_cases q : i = f
    · rw [if_pos ⟨rfl, q⟩, if_pos q]
    · rw [if_neg (fun e => q e.2), if_neg q, up_r, if_neg (fun q => absurd (keq3 q.1).1 (by decide))]
  have a26 : ∀ l, l < 4 → v' (26, o, f) l = 0 := fun l hl => by
    rw [hv', up_r, if_neg (fun q => absurd (keq3 q.1).1 (by decide)), rowT_ne _ _ _ _ (kn (by decide) _ _ _ _), rowT_ne _ _ _ _ (kn (by decide) _ _ _ _), rowT_in _ _ _ hl]
  have a27 : ∀ l, l < 4 → v' (27, o, f) l = 0 := fun l hl => by
    rw [hv', up_r, if_neg (fun q => absurd (keq3 q.1).1 (by decide)), rowT_ne _ _ _ _ (kn (by decide) _ _ _ _), rowT_in _ _ _ hl]
  have a28 : ∀ l, l < 4 → v' (28, o, f) l = 0 := fun l hl => by
    rw [hv', up_r, if_neg (fun q => absurd (keq3 q.1).1 (by decide)), rowT_in _ _ _ hl]
  -- the reference
  obtain ⟨g, hg⟩ : ∃ g : Nat → mM, g = fun k z i => if z = 1 ∧ 583 + 45 * f ≤ i ∧ i < 583 + 45 * f + k then (if i < 597 + 45 * f then 0 else -1) else w z i := ⟨_, rfl⟩
  have g0 : g 0 = w := by rw [hg]; exact funext fun z => funext fun i => if_neg (by omega)
  have gn : ∀ k i, ¬ (583 + 45 * f ≤ i ∧ i < 583 + 45 * f + k) → g k 1 i = w 1 i := fun k i h => by rw [hg]; exact if_neg (fun q => h q.2)
  have gz : ∀ k z, z ≠ 1 → g k z = w z := fun k z hz => by rw [hg]; exact funext fun i => if_neg (fun q => hz q.1)
  have gi : ∀ k i, 583 + 45 * f ≤ i → i < 583 + 45 * f + k → i < 597 + 45 * f → g k 1 i = 0 := fun k i h1 h2 h3 => by
    rw [hg]
    show (if 1 = 1 ∧ _ ∧ _ then (if i < 597 + 45 * f then 0 else -1) else _) = (0 : Int32)
    rw [if_pos ⟨rfl, h1, h2⟩, if_pos h3]
  obtain ⟨w', hw'⟩ : ∃ w', w' = up (up (up (g 45) 1 (583 + 45 * f) (nI d)) 1 (584 + 45 * f) x2) 1 3 (nI (f + 1)) := ⟨_, rfl⟩
  have wo : ∀ i, i ≠ 3 → ¬ (583 + 45 * f ≤ i ∧ i < 628 + 45 * f) → w' 1 i = w 1 i := fun i h3 h => by
    rw [hw', up_r, if_neg (fun q => h3 q.2), up_r, if_neg (by omega), up_r, if_neg (by omega), gn 45 i (by omega)]
  have w3 : w' 1 3 = nI (f + 1) := by rw [hw', up_r, if_pos ⟨rfl, rfl⟩]
  have wd : w' 1 (583 + 45 * f) = nI d := by rw [hw', up_r, if_neg (by omega), up_r, if_neg (by omega), up_r, if_pos ⟨rfl, rfl⟩]
  have wr : w' 1 (584 + 45 * f) = x2 := by rw [hw', up_r, if_neg (by omega), up_r, if_pos ⟨rfl, rfl⟩]
  have wz : ∀ i, 585 + 45 * f ≤ i → i < 597 + 45 * f → w' 1 i = 0 := fun i h1 h2 => by
    rw [hw', up_r, if_neg (by omega), up_r, if_neg (by omega), up_r, if_neg (by omega), gi 45 i (by omega) (by omega) h2]
  refine ⟨v', w', ?_, ?_, ⟨⟨b1, b2, b3, by omega⟩, ⟨?_, ?_, ?_, ?_, ?_, ?_, a18, w3⟩, fun s hs => ?_, fun k hk => ?_, fun j hj => ?_, fun i j hi hj hij => ?_, ?_, fun c hc => ?_⟩, CB_of fun z hz => ao z (CB_ne hz (by omega) (by omega)) (CB_ne hz (by omega) (by omega)) (CB_ne hz (by omega) (by omega)) (CB_ne hz (by omega) (by omega)) (CB_ne hz (by omega) (by omega)) (CB_ne hz (by omega) (by omega)), fun z hz => ?_⟩
  · have e18 : rowT (rowT (rowT (up (up v (19, o, 0) f (nI d)) (20, o, 0) f x2) (26, o, f) (fun _ => 0) 4) (27, o, f) (fun _ => 0) 4) (28, o, f) (fun _ => 0) 4 (18, o, 0) 0 = nI f := by
      rw [rowT_ne _ _ _ _ (kn (by decide) _ _ _ _), rowT_ne _ _ _ _ (kn (by decide) _ _ _ _), rowT_ne _ _ _ _ (kn (by decide) _ _ _ _), up_r, if_neg (fun q => absurd (keq3 q.1).1 (by decide)), up_r, if_neg (fun q => absurd (keq3 q.1).1 (by decide)), c7]
    unfold f_X0_addFeast f_X1_add
    rw [c7, qi_inb hf (by omega), qi_ix (by omega), ck_t, lt_e, ck_t, lt_e, ck_t, s_fill (by omega), bnd_s, ck_t, s_fill (by omega), bnd_s, ck_t, s_fill (by omega), bnd_s, lt_e, e18, nI_1, ← hv', bnd_s]
  · have ea : (583 : Int32) + 45 * nI f = nI (583 + 45 * f) := by rw [show (583 : Int32) = nI 583 from rfl, show (45 : Int32) = nI 45 from rfl, qi_mul, qi_add]
    have e3 : up (up (g 45) 1 (583 + 45 * f) (nI d)) 1 (584 + 45 * f) x2 1 3 = nI f := by rw [up_r, if_neg (by omega), up_r, if_neg (by omega), gn 45 3 (by omega), c8]
    have key : lp (fun _ _ => none) (L_X7_announces_17 (nI d) x2 (nI (583 + 45 * f))) 8192 (nI 0) (g 0) = some (nI f, w') := by
      refine lp_go (fuel := 8192) (ev := fun k (X : Int32 → mM → Option (Int32 × mM)) => X (nI k) (g k)) 45 (by omega) (fun k hk self => ?_) (fun self => ?_)
      · show L_X7_announces_17 (nI d) x2 (nI (583 + 45 * f)) self (nI k) (g k) = self (nI (k + 1)) (g (k + 1))
        have st : ∀ x, x = (if 583 + 45 * f + k < 597 + 45 * f then (0 : Int32) else -1) → up (g k) 1 (583 + 45 * f + k) x = g (k + 1) := fun x hx => by
          funext z i
          rw [up_r, hg]
          show (if z = 1 ∧ i = 583 + 45 * f + k then x else if z = 1 ∧ 583 + 45 * f ≤ i ∧ i < 583 + 45 * f + k then (if i < 597 + 45 * f then 0 else -1) else w z i) = if z = 1 ∧ 583 + 45 * f ≤ i ∧ i < 583 + 45 * f + (k + 1) then (if i < 597 + 45 * f then 0 else -1) else w z i
          by_cases q : z = 1 ∧ i = 583 + 45 * f + k
          · rw [if_pos q, if_pos ⟨q.1, by omega, by omega⟩, hx, q.2]
          · rw [if_neg q]
            by_cases q2 : z = 1 ∧ 583 + 45 * f ≤ i ∧ i < 583 + 45 * f + k
            · rw [if_pos q2]
              exact (if_pos ⟨q2.1, q2.2.1, by omega⟩).symm
            · rw [if_neg q2, if_neg (by omega)]
        simp (disch := omega) only [L_X7_announces_17, qi_add, qi_inb, qi_ix, ck_t, lt_e, nI_1]
        rw [if_neg (show ¬ (45 : Int32) ≤ nI k from nI_ge (b := 45) hk (by omega))]
        by_cases q : k < 14
        · rw [if_neg (show ¬ (14 : Int32) ≤ nI k from nI_ge (b := 14) q (by omega)), st 0 (by rw [if_pos (by omega)])]
        · rw [if_pos (show (14 : Int32) ≤ nI k from nI_le (a := 14) (by omega) (by omega)), st (-1) (by rw [if_neg (by omega)])]
      · show L_X7_announces_17 (nI d) x2 (nI (583 + 45 * f)) self (nI 45) (g 45) = _
        have eb : nI (583 + 45 * f) + 1 = nI (584 + 45 * f) := by rw [nI_1, show 583 + 45 * f + 1 = 584 + 45 * f by omega]
        unfold L_X7_announces_17
        rw [if_pos (show (45 : Int32) ≤ nI 45 by decide), qi_inb (show 583 + 45 * f < 1483 by omega) (by omega), ck_t, qi_ix (by omega), lt_e, eb, qi_inb (show 584 + 45 * f < 1483 by omega) (by omega), ck_t, qi_ix (by omega), lt_e, inb_3, ck_t, ck_t, ix_3, e3, nI_1, lt_e, ck_t, ← hw', w3, show (1 : Int32) = nI 1 from rfl, qi_sub (by omega), show f + 1 - 1 = f by omega]
    rw [g0] at key
    unfold f_X7_announces
    rw [inb_3, ck_t, ix_3, c8, ea, lt_e]
    exact key
  · rw [vk 1 0 (by omega) (by omega)]; exact c1
  · rw [wo 0 (by omega) (by omega)]; exact c2
  · rw [vk 2 0 (by omega) (by omega)]; exact c3
  · rw [wo 1 (by omega) (by omega)]; exact c4
  · rw [vk 14 0 (by omega) (by omega)]; exact c5
  · rw [wo 2 (by omega) (by omega)]; exact c6
  · have h := hS s hs
    have aj : ∀ j, j < 13 → w' 1 (13 + 13 * s + j) = w 1 (13 + 13 * s + j) := fun j hj => wo _ (by omega) (by omega)
    unfold RS at h ⊢
    rw [aj 0 (by omega), aj 1 (by omega), aj 2 (by omega), aj 3 (by omega), aj 4 (by omega), aj 5 (by omega), aj 6 (by omega), aj 7 (by omega), aj 8 (by omega), aj 9 (by omega), aj 10 (by omega), aj 11 (by omega), aj 12 (by omega), vk 3 0 (by omega) (by omega), vk 4 0 (by omega) (by omega), vk 5 0 (by omega) (by omega), vk 6 0 (by omega) (by omega), vk 7 0 (by omega) (by omega), vk 8 0 (by omega) (by omega), vk 9 0 (by omega) (by omega), vk 10 0 (by omega) (by omega), vk 11 0 (by omega) (by omega), vk 12 0 (by omega) (by omega), vk 13 0 (by omega) (by omega)]
    exact h
  · have h := hN k hk
    unfold RN at h ⊢
    rw [wo _ (by omega) (by omega), wo _ (by omega) (by omega), wo _ (by omega) (by omega), vk 15 0 (by omega) (by omega), vk 16 0 (by omega) (by omega), vk 17 0 (by omega) (by omega)]
    exact h
  · by_cases e : j = f
    · subst e
      unfold RF
      rw [wd, wr, a19, a20, if_pos rfl, if_pos rfl, d1]
      refine ⟨⟨by omega, hd9, rfl, rfl⟩, rfl, fun l hl => ?_, fun hh => absurd hh (by omega)⟩
      rw [wz _ (by omega) (by omega), wz _ (by omega) (by omega), wz _ (by omega) (by omega), a26 l hl, a27 l hl, a28 l hl]
      exact ⟨⟨0, by omega, rfl, rfl⟩, rfl, rfl⟩
    · have h := hF j (by omega)
      unfold RF at h ⊢
      rw [wo (583 + 45 * j) (by omega) (by omega), wo (584 + 45 * j) (by omega) (by omega), wo (597 + 45 * j) (by omega) (by omega), a19, a20, vk 21 0 (by omega) (by omega), if_neg e, if_neg e, d2 j e]
      refine ⟨h.1, h.2.1, fun l hl => ?_, fun hd => ⟨(h.2.2.2 hd).1, fun k hk => ?_⟩⟩
      · rw [wo _ (by omega) (by omega), wo _ (by omega) (by omega), wo _ (by omega) (by omega), vj 26 j (by omega) (by omega) e, vj 27 j (by omega) (by omega) e, vj 28 j (by omega) (by omega) e]
        exact h.2.2.1 l hl
      · rw [wo _ (by omega) (by omega), vk 29 j (by omega) (by omega)]
        exact (h.2.2.2 hd).2 k hk
  · by_cases q : i = f
    · by_cases q2 : j = f
      · omega
      · rw [q, d1, d2 j q2] at hij
        exact absurd hij.symm (hno j (by omega))
    · by_cases q2 : j = f
      · rw [q2, d1, d2 i q] at hij
        exact absurd hij (hno i (by omega))
      · rw [d2 i q, d2 j q2] at hij
        exact hU i j (by omega) (by omega) hij
  · rw [wo 4 (by omega) (by omega), wo 5 (by omega) (by omega), wo 6 (by omega) (by omega), wo 7 (by omega) (by omega), vk 1 0 (by omega) (by omega)]
    exact hP
  · rw [wo _ (by omega) (by omega), vk 30 0 (by omega) (by omega)]
    exact hV c hc
  · rw [hw', ← gz 45 z hz]
    exact funext fun i => by rw [up_r, if_neg (fun q => hz q.1), up_r, if_neg (fun q => hz q.1), up_r, if_neg (fun q => hz q.1)]
theorem line_eq (R : Rl v o (w 1) D n m f dd) {j l p : Nat} (hj : j < f) (hl : l < 4) (hp : p ≤ 6) (x4 x5 : Int32) : ∃ S v' w', S ≤ 24 ∧ f_X0_arrange o (nI j) (nI l) (nI p) x4 x5 v = some (nI S, v') ∧ f_X7_sets (nI j) (nI l) (nI p) x4 x5 w = some (nI S, w') ∧ Rl v' o (w' 1) D n m f dd ∧ CB o v v' ∧ ∀ z, z ≠ 1 → w' z = w z := by
  have R0 := R
  obtain ⟨⟨b1, b2, b3, b4⟩, ⟨c1, c2, c3, c4, c5, c6, c7, c8⟩, hS, hN, hF, hU, hP, hV⟩ := R
  obtain ⟨v', hv'⟩ : ∃ v', v' = up (up (up v (26, o, j) l (nI p)) (27, o, j) l x4) (28, o, j) l x5 := ⟨_, rfl⟩
  have ao : ∀ z, z ≠ (26, o, j) → z ≠ (27, o, j) → z ≠ (28, o, j) → v' z = v z := fun z h1 h2 h3 => funext fun i => by
    rw [hv', up_r, if_neg (fun q => h3 q.1), up_r, if_neg (fun q => h2 q.1), up_r, if_neg (fun q => h1 q.1)]
  have vk : ∀ k i, ¬ (26 ≤ k ∧ k ≤ 28) → v' (k, o, i) = v (k, o, i) := fun k i h => ao _ (kn (by omega) _ _ _ _) (kn (by omega) _ _ _ _) (kn (by omega) _ _ _ _)
  have vj : ∀ k i, i ≠ j → v' (k, o, i) = v (k, o, i) := fun k i h => ao _ (fun e => h (keq3 e).2.2) (fun e => h (keq3 e).2.2) (fun e => h (keq3 e).2.2)
  have a26 : ∀ i, v' (26, o, j) i = if i = l then nI p else v (26, o, j) i := fun i => by
    rw [hv', up_r, if_neg (fun q => absurd (keq3 q.1).1 (by decide)), up_r, if_neg (fun q => absurd (keq3 q.1).1 (by decide)), up_r]
    by_cases q : i = l
    · rw [if_pos ⟨rfl, q⟩, if_pos q]
    · rw [if_neg (fun e => q e.2), if_neg q]
  have a27 : ∀ i, v' (27, o, j) i = if i = l then x4 else v (27, o, j) i := fun i => by
    rw [hv', up_r, if_neg (fun q => absurd (keq3 q.1).1 (by decide)), up_r]
    by_cases q : i = l
    · rw [if_pos ⟨rfl, q⟩, if_pos q]
    · rw [if_neg (fun e => q e.2), if_neg q, up_r, if_neg (fun q => absurd (keq3 q.1).1 (by decide))]
  have a28 : ∀ i, v' (28, o, j) i = if i = l then x5 else v (28, o, j) i := fun i => by
    rw [hv', up_r]
    by_cases q : i = l
    · rw [if_pos ⟨rfl, q⟩, if_pos q]
    · rw [if_neg (fun e => q e.2), if_neg q, up_r, if_neg (fun q => absurd (keq3 q.1).1 (by decide)), up_r, if_neg (fun q => absurd (keq3 q.1).1 (by decide))]
  obtain ⟨w', hw'⟩ : ∃ w', w' = up (up (up w 1 (585 + 45 * j + 3 * l) (nI p)) 1 (586 + 45 * j + 3 * l) x4) 1 (587 + 45 * j + 3 * l) x5 := ⟨_, rfl⟩
  have wo : ∀ i, i ≠ 585 + 45 * j + 3 * l → i ≠ 586 + 45 * j + 3 * l → i ≠ 587 + 45 * j + 3 * l → w' 1 i = w 1 i := fun i h1 h2 h3 => by
    rw [hw', up_r, if_neg (fun q => h3 q.2), up_r, if_neg (fun q => h2 q.2), up_r, if_neg (fun q => h1 q.2)]
  have w5 : w' 1 (585 + 45 * j + 3 * l) = nI p := by rw [hw', up_r, if_neg (by omega), up_r, if_neg (by omega), up_r, if_pos ⟨rfl, rfl⟩]
  have w6 : w' 1 (586 + 45 * j + 3 * l) = x4 := by rw [hw', up_r, if_neg (by omega), up_r, if_pos ⟨rfl, rfl⟩]
  have w7 : w' 1 (587 + 45 * j + 3 * l) = x5 := by rw [hw', up_r, if_pos ⟨rfl, rfl⟩]
  have R' : Rl v' o (w' 1) D n m f dd := by
    refine ⟨⟨b1, b2, b3, b4⟩, ⟨?_, ?_, ?_, ?_, ?_, ?_, ?_, ?_⟩, fun s hs => ?_, fun k hk => ?_, fun i hi => ?_, hU, ?_, fun c hc => ?_⟩
    · rw [vk 1 0 (by omega)]; exact c1
    · rw [wo 0 (by omega) (by omega) (by omega)]; exact c2
    · rw [vk 2 0 (by omega)]; exact c3
    · rw [wo 1 (by omega) (by omega) (by omega)]; exact c4
    · rw [vk 14 0 (by omega)]; exact c5
    · rw [wo 2 (by omega) (by omega) (by omega)]; exact c6
    · rw [vk 18 0 (by omega)]; exact c7
    · rw [wo 3 (by omega) (by omega) (by omega)]; exact c8
    · have h := hS s hs
      have aj : ∀ j, j < 13 → w' 1 (13 + 13 * s + j) = w 1 (13 + 13 * s + j) := fun j hj => wo _ (by omega) (by omega) (by omega)
      unfold RS at h ⊢
      rw [aj 0 (by omega), aj 1 (by omega), aj 2 (by omega), aj 3 (by omega), aj 4 (by omega), aj 5 (by omega), aj 6 (by omega), aj 7 (by omega), aj 8 (by omega), aj 9 (by omega), aj 10 (by omega), aj 11 (by omega), aj 12 (by omega), vk 3 0 (by omega), vk 4 0 (by omega), vk 5 0 (by omega), vk 6 0 (by omega), vk 7 0 (by omega), vk 8 0 (by omega), vk 9 0 (by omega), vk 10 0 (by omega), vk 11 0 (by omega), vk 12 0 (by omega), vk 13 0 (by omega)]
      exact h
    · have h := hN k hk
      unfold RN at h ⊢
      rw [wo _ (by omega) (by omega) (by omega), wo _ (by omega) (by omega) (by omega), wo _ (by omega) (by omega) (by omega), vk 15 0 (by omega), vk 16 0 (by omega), vk 17 0 (by omega)]
      exact h
    · have h := hF i hi
      unfold RF at h ⊢
      rw [wo (583 + 45 * i) (by omega) (by omega) (by omega), wo (584 + 45 * i) (by omega) (by omega) (by omega), wo (597 + 45 * i) (by omega) (by omega) (by omega), vk 19 0 (by omega), vk 20 0 (by omega), vk 21 0 (by omega)]
      refine ⟨h.1, h.2.1, fun t ht => ?_, fun hd => ⟨(h.2.2.2 hd).1, fun k hk => ?_⟩⟩
      · have h3 := h.2.2.1 t ht
        by_cases e : i = j
        · subst e
          rw [a26, a27, a28]
          by_cases e2 : t = l
          · subst e2
            rw [w5, w6, w7, if_pos rfl, if_pos rfl, if_pos rfl]
            exact ⟨⟨p, hp, rfl, rfl⟩, rfl, rfl⟩
          · rw [wo _ (by omega) (by omega) (by omega), wo _ (by omega) (by omega) (by omega), wo _ (by omega) (by omega) (by omega), if_neg e2, if_neg e2, if_neg e2]
            exact h3
        · rw [wo _ (by omega) (by omega) (by omega), wo _ (by omega) (by omega) (by omega), wo _ (by omega) (by omega) (by omega), vj 26 i e, vj 27 i e, vj 28 i e]
          exact h3
      · rw [wo _ (by omega) (by omega) (by omega), vk 29 i (by omega)]
        exact (h.2.2.2 hd).2 k hk
    · rw [wo 4 (by omega) (by omega) (by omega), wo 5 (by omega) (by omega) (by omega), wo 6 (by omega) (by omega) (by omega), wo 7 (by omega) (by omega) (by omega), vk 1 0 (by omega)]
      exact hP
    · rw [wo _ (by omega) (by omega) (by omega), vk 30 0 (by omega)]
      exact hV c hc
  refine ⟨qs (fP v' o j) 4, v', w', ?_, ?_, ?_, R', CB_of fun z hz => ao z (CB_ne hz (by omega) (by omega)) (CB_ne hz (by omega) (by omega)) (CB_ne hz (by omega) (by omega)), fun z hz => ?_⟩
  · exact (lack_le (fun _ => 0) 0 (P := fP v' o j) (fun i hi => (fP_ok R' hj hi).1)).1
  · unfold f_X0_arrange
    rw [qi_inb (show j < 20 by omega) (by omega), qi_inb hl (by omega), ck_t, ck_t, qi_ix (show j < 2147483648 by omega), qi_ix (show l < 2147483648 by omega), lt_e, ck_t, ck_t, lt_e, ck_t, ck_t, lt_e, ← hv', s_allP R' hj, bnd_s]
  · have ea : ((583 : Int32) + 45 * nI j) + 2 + 3 * nI l = nI (585 + 45 * j + 3 * l) := by
      rw [show (583 : Int32) = nI 583 from rfl, show (45 : Int32) = nI 45 from rfl, show (2 : Int32) = nI 2 from rfl, show (3 : Int32) = nI 3 from rfl, qi_mul, qi_mul, qi_add, qi_add, qi_add, show 583 + 45 * j + 2 + 3 * l = 585 + 45 * j + 3 * l by omega]
    have eb : nI (585 + 45 * j + 3 * l) + 1 = nI (586 + 45 * j + 3 * l) := by rw [nI_1, show 585 + 45 * j + 3 * l + 1 = 586 + 45 * j + 3 * l by omega]
    have ec : nI (585 + 45 * j + 3 * l) + 2 = nI (587 + 45 * j + 3 * l) := by rw [show (2 : Int32) = nI 2 from rfl, qi_add, show 585 + 45 * j + 3 * l + 2 = 587 + 45 * j + 3 * l by omega]
    unfold f_X7_sets
    rw [lt_e, ea, qi_inb (show 585 + 45 * j + 3 * l < 1483 by omega) (by omega), ck_t, qi_ix (by omega), lt_e, eb, qi_inb (show 586 + 45 * j + 3 * l < 1483 by omega) (by omega), ck_t, qi_ix (by omega), lt_e, ec, qi_inb (show 587 + 45 * j + 3 * l < 1483 by omega) (by omega), ck_t, qi_ix (by omega), lt_e, ← hw', m_allP R' hj, bnd_s]
  · rw [hw']
    exact funext fun i => by rw [up_r, if_neg (fun q => hz q.1), up_r, if_neg (fun q => hz q.1), up_r, if_neg (fun q => hz q.1)]
end Acts3
