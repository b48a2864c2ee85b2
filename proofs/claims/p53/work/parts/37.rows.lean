/-! SINGERS COME AND GO: rows added and changed -/
theorem add_Rl {v v' : mC} {o : Nat} {w w' : Nat → Int32} {D n m f : Nat} {dd : Nat → Nat} (R : Rl v o w D n m f dd) (hn : n < 30) (hv : ∀ z, z ≠ (2, o, 0) → z ≠ (30, o, 0) → (∀ k, 3 ≤ k → k ≤ 13 → z ≠ (k, o, 0)) → v' z = v z) (hv2 : v' (2, o, 0) 0 = nI (n + 1)) (hvi : ∀ k i, 3 ≤ k → k ≤ 13 → i ≠ n → v' (k, o, 0) i = v (k, o, 0) i)
    (hw : ∀ i, i ≠ 1 → ¬ (8 ≤ i ∧ i < 13) → ¬ (13 + 13 * n ≤ i ∧ i < 26 + 13 * n) → w' i = w i) (hw1 : w' 1 = nI (n + 1)) (hrow : RS v' o w' D n) (hfav : ∀ c, c < 5 → w' (8 + c) = v' (30, o, 0) c) : Rl v' o w' D (n + 1) m f dd := by
  obtain ⟨⟨b1, b2, b3, b4⟩, ⟨c1, c2, c3, c4, c5, c6, c7, c8⟩, hS, hN, hF, hU, hP, hV⟩ := R
  have vk : ∀ k j, k ≠ 2 → k ≠ 30 → ¬ (3 ≤ k ∧ k ≤ 13) → v' (k, o, j) = v (k, o, j) := fun k j h2 h30 h3 => hv _ (kn h2 _ _ _ _) (kn h30 _ _ _ _) (fun t t1 t2 => kn (by omega) _ _ _ _)
  refine ⟨⟨b1, by omega, b3, b4⟩, ⟨?_, ?_, hv2, hw1, ?_, ?_, ?_, ?_⟩, fun s hs => ?_, fun k hk => ?_, fun j hj => ?_, hU, ?_, hfav⟩
  · rw [vk 1 0 (by omega) (by omega) (by omega)]; exact c1
  · rw [hw 0 (by omega) (by omega) (by omega)]; exact c2
  · rw [vk 14 0 (by omega) (by omega) (by omega)]; exact c5
  · rw [hw 2 (by omega) (by omega) (by omega)]; exact c6
  · rw [vk 18 0 (by omega) (by omega) (by omega)]; exact c7
  · rw [hw 3 (by omega) (by omega) (by omega)]; exact c8
  · by_cases e : s = n
    · rw [e]; exact hrow
    · have h := hS s (by omega)
      have aj : ∀ j, j < 13 → w' (13 + 13 * s + j) = w (13 + 13 * s + j) := fun j hj => hw _ (by omega) (by omega) (by omega)
      unfold RS at h ⊢
      rw [aj 0 (by omega), aj 1 (by omega), aj 2 (by omega), aj 3 (by omega), aj 4 (by omega), aj 5 (by omega), aj 6 (by omega), aj 7 (by omega), aj 8 (by omega), aj 9 (by omega), aj 10 (by omega), aj 11 (by omega), aj 12 (by omega),
        hvi 3 s (by omega) (by omega) e, hvi 4 s (by omega) (by omega) e, hvi 5 s (by omega) (by omega) e, hvi 6 s (by omega) (by omega) e, hvi 7 s (by omega) (by omega) e, hvi 8 s (by omega) (by omega) e, hvi 9 s (by omega) (by omega) e, hvi 10 s (by omega) (by omega) e, hvi 11 s (by omega) (by omega) e, hvi 12 s (by omega) (by omega) e, hvi 13 s (by omega) (by omega) e]
      exact h
  · have h := hN k hk
    unfold RN at h ⊢
    rw [hw _ (by omega) (by omega) (by omega), hw _ (by omega) (by omega) (by omega), hw _ (by omega) (by omega) (by omega), vk 15 0 (by omega) (by omega) (by omega), vk 16 0 (by omega) (by omega) (by omega), vk 17 0 (by omega) (by omega) (by omega)]
    exact h
  · have h := hF j hj
    unfold RF at h ⊢
    rw [hw (583 + 45 * j) (by omega) (by omega) (by omega), hw (584 + 45 * j) (by omega) (by omega) (by omega), hw (597 + 45 * j) (by omega) (by omega) (by omega), vk 19 0 (by omega) (by omega) (by omega), vk 20 0 (by omega) (by omega) (by omega), vk 21 0 (by omega) (by omega) (by omega)]
    refine ⟨h.1, h.2.1, fun l hl => ?_, fun hd => ⟨(h.2.2.2 hd).1, fun k hk => ?_⟩⟩
    · rw [hw _ (by omega) (by omega) (by omega), hw _ (by omega) (by omega) (by omega), hw _ (by omega) (by omega) (by omega), vk 26 j (by omega) (by omega) (by omega), vk 27 j (by omega) (by omega) (by omega), vk 28 j (by omega) (by omega) (by omega)]
      exact h.2.2.1 l hl
    · rw [hw _ (by omega) (by omega) (by omega), vk 29 j (by omega) (by omega) (by omega)]
      exact (h.2.2.2 hd).2 k hk
  · rw [hw 4 (by omega) (by omega) (by omega), hw 5 (by omega) (by omega) (by omega), hw 6 (by omega) (by omega) (by omega), hw 7 (by omega) (by omega) (by omega), vk 1 0 (by omega) (by omega) (by omega)]
    exact hP
theorem mod_Rl {v v' : mC} {o : Nat} {w w' : Nat → Int32} {D n m f s0 : Nat} {dd : Nat → Nat} (R : Rl v o w D n m f dd) (hs0 : s0 < n) (hv : ∀ z, z ≠ (1, o, 0) → z ≠ (30, o, 0) → (∀ k, 3 ≤ k → k ≤ 13 → z ≠ (k, o, 0)) → v' z = v z) (hv1 : v' (1, o, 0) 0 = nI D) (hvi : ∀ k i, 3 ≤ k → k ≤ 13 → i ≠ s0 → v' (k, o, 0) i = v (k, o, 0) i)
    (hw : ∀ i, ¬ (4 ≤ i ∧ i < 13) → ¬ (13 + 13 * s0 ≤ i ∧ i < 26 + 13 * s0) → w' i = w i) (hrow : RS v' o w' D s0) (hacc : w' 4 = v' (1, o, 0) 7 ∧ w' 5 = v' (1, o, 0) 6 ∧ w' 6 = v' (1, o, 0) 8 ∧ w' 7 = v' (1, o, 0) 9 ∧ v' (1, o, 0) 5 = 50 + w' 4 + w' 5 - w' 6 - w' 7) (hfav : ∀ c, c < 5 → w' (8 + c) = v' (30, o, 0) c) : Rl v' o w' D n m f dd := by
  obtain ⟨⟨b1, b2, b3, b4⟩, ⟨c1, c2, c3, c4, c5, c6, c7, c8⟩, hS, hN, hF, hU, hP, hV⟩ := R
  have vk : ∀ k j, k ≠ 1 → k ≠ 30 → ¬ (3 ≤ k ∧ k ≤ 13) → v' (k, o, j) = v (k, o, j) := fun k j h2 h30 h3 => hv _ (kn h2 _ _ _ _) (kn h30 _ _ _ _) (fun t t1 t2 => kn (by omega) _ _ _ _)
  refine ⟨⟨b1, b2, b3, b4⟩, ⟨hv1, ?_, ?_, ?_, ?_, ?_, ?_, ?_⟩, fun s hs => ?_, fun k hk => ?_, fun j hj => ?_, hU, hacc, hfav⟩
  · rw [hw 0 (by omega) (by omega)]; exact c2
  · rw [vk 2 0 (by omega) (by omega) (by omega)]; exact c3
  · rw [hw 1 (by omega) (by omega)]; exact c4
  · rw [vk 14 0 (by omega) (by omega) (by omega)]; exact c5
  · rw [hw 2 (by omega) (by omega)]; exact c6
  · rw [vk 18 0 (by omega) (by omega) (by omega)]; exact c7
  · rw [hw 3 (by omega) (by omega)]; exact c8
  · by_cases e : s = s0
    · rw [e]; exact hrow
    · have h := hS s hs
      have aj : ∀ j, j < 13 → w' (13 + 13 * s + j) = w (13 + 13 * s + j) := fun j hj => hw _ (by omega) (by omega)
      unfold RS at h ⊢
      rw [aj 0 (by omega), aj 1 (by omega), aj 2 (by omega), aj 3 (by omega), aj 4 (by omega), aj 5 (by omega), aj 6 (by omega), aj 7 (by omega), aj 8 (by omega), aj 9 (by omega), aj 10 (by omega), aj 11 (by omega), aj 12 (by omega),
        hvi 3 s (by omega) (by omega) e, hvi 4 s (by omega) (by omega) e, hvi 5 s (by omega) (by omega) e, hvi 6 s (by omega) (by omega) e, hvi 7 s (by omega) (by omega) e, hvi 8 s (by omega) (by omega) e, hvi 9 s (by omega) (by omega) e, hvi 10 s (by omega) (by omega) e, hvi 11 s (by omega) (by omega) e, hvi 12 s (by omega) (by omega) e, hvi 13 s (by omega) (by omega) e]
      exact h
  · have h := hN k hk
    unfold RN at h ⊢
    rw [hw _ (by omega) (by omega), hw _ (by omega) (by omega), hw _ (by omega) (by omega), vk 15 0 (by omega) (by omega) (by omega), vk 16 0 (by omega) (by omega) (by omega), vk 17 0 (by omega) (by omega) (by omega)]
    exact h
  · have h := hF j hj
    unfold RF at h ⊢
    rw [hw (583 + 45 * j) (by omega) (by omega), hw (584 + 45 * j) (by omega) (by omega), hw (597 + 45 * j) (by omega) (by omega), vk 19 0 (by omega) (by omega) (by omega), vk 20 0 (by omega) (by omega) (by omega), vk 21 0 (by omega) (by omega) (by omega)]
    refine ⟨h.1, h.2.1, fun l hl => ?_, fun hd => ⟨(h.2.2.2 hd).1, fun k hk => ?_⟩⟩
    · rw [hw _ (by omega) (by omega), hw _ (by omega) (by omega), hw _ (by omega) (by omega), vk 26 j (by omega) (by omega) (by omega), vk 27 j (by omega) (by omega) (by omega), vk 28 j (by omega) (by omega) (by omega)]
      exact h.2.2.1 l hl
    · rw [hw _ (by omega) (by omega), vk 29 j (by omega) (by omega) (by omega)]
      exact (h.2.2.2 hd).2 k hk
theorem s_add {o n : Nat} {v : mC} (h : v (2, o, 0) 0 = nI n) (hn : n < 30) (x1 x2 x3 x4 : Int32) : ∃ v', f_X5_add o x1 x2 x3 x4 v = some (nI n, v') ∧ (∀ z, z ≠ (2, o, 0) → (∀ k, 3 ≤ k → k ≤ 13 → z ≠ (k, o, 0)) → v' z = v z) ∧ v' (2, o, 0) 0 = nI (n + 1) ∧ (∀ k i, 3 ≤ k → k ≤ 13 → i ≠ n → v' (k, o, 0) i = v (k, o, 0) i) ∧
    (v' (3, o, 0) n = x2 ∧ v' (4, o, 0) n = x3 ∧ v' (5, o, 0) n = x4 ∧ v' (6, o, 0) n = x1 ∧ v' (7, o, 0) n = -1 ∧ v' (8, o, 0) n = -1 ∧ v' (9, o, 0) n = 0 ∧ v' (10, o, 0) n = 1000000 ∧ v' (11, o, 0) n = -1 ∧ v' (12, o, 0) n = 0 ∧ v' (13, o, 0) n = 0) := by
  obtain ⟨W, hW⟩ : ∃ W, W = up (up (up (up (up (up (up (up (up (up (up v (3, o, 0) n x2) (4, o, 0) n x3) (5, o, 0) n x4) (6, o, 0) n x1) (7, o, 0) n (-1)) (8, o, 0) n (-1)) (9, o, 0) n 0) (10, o, 0) n 1000000) (11, o, 0) n (-1)) (12, o, 0) n 0) (13, o, 0) n 0 := ⟨_, rfl⟩
  have W2 : W (2, o, 0) 0 = nI n := by rw [hW]; simp [up_r, h]
  have vk : ∀ k i, k ≠ 2 → up W (2, o, 0) 0 (nI (n + 1)) (k, o, 0) i = W (k, o, 0) i := fun k i hk => by rw [up_r, if_neg (fun q => hk (keq3 q.1).1)]
  refine ⟨up W (2, o, 0) 0 (nI (n + 1)), ?_, fun z h2 h3 => ?_, ?_, fun k i h3 h13 hi => ?_, ?_, ?_, ?_, ?_, ?_, ?_, ?_, ?_, ?_, ?_, ?_⟩
  · simp (disch := omega) only [f_X5_add, h, qi_inb, qi_ix, ck_t, lt_e, ← hW, W2, nI_1]
  · rw [hW]
    exact funext fun i => by rw [up_r, if_neg (fun q => h2 q.1), up_r, if_neg (fun q => h3 13 (by omega) (by omega) q.1), up_r, if_neg (fun q => h3 12 (by omega) (by omega) q.1), up_r, if_neg (fun q => h3 11 (by omega) (by omega) q.1), up_r, if_neg (fun q => h3 10 (by omega) (by omega) q.1), up_r, if_neg (fun q => h3 9 (by omega) (by omega) q.1), up_r, if_neg (fun q => h3 8 (by omega) (by omega) q.1), up_r, if_neg (fun q => h3 7 (by omega) (by omega) q.1), up_r, if_neg (fun q => h3 6 (by omega) (by omega) q.1), up_r, if_neg (fun q => h3 5 (by omega) (by omega) q.1), up_r, if_neg (fun q => h3 4 (by omega) (by omega) q.1), up_r, if_neg (fun q => h3 3 (by omega) (by omega) q.1)]
  · rw [up_r, if_pos ⟨rfl, rfl⟩]
  · rw [vk k i (by omega), hW, up_r, if_neg (fun q => hi q.2), up_r, if_neg (fun q => hi q.2), up_r, if_neg (fun q => hi q.2), up_r, if_neg (fun q => hi q.2), up_r, if_neg (fun q => hi q.2), up_r, if_neg (fun q => hi q.2), up_r, if_neg (fun q => hi q.2), up_r, if_neg (fun q => hi q.2), up_r, if_neg (fun q => hi q.2), up_r, if_neg (fun q => hi q.2), up_r, if_neg (fun q => hi q.2)]
  · rw [vk 3 n (by omega), hW]; simp [up_r]
  · rw [vk 4 n (by omega), hW]; simp [up_r]
  · rw [vk 5 n (by omega), hW]; simp [up_r]
  · rw [vk 6 n (by omega), hW]; simp [up_r]
  · rw [vk 7 n (by omega), hW]; simp [up_r]
  · rw [vk 8 n (by omega), hW]; simp [up_r]
  · rw [vk 9 n (by omega), hW]; simp [up_r]
  · rw [vk 10 n (by omega), hW]; simp [up_r]
  · rw [vk 11 n (by omega), hW]; simp [up_r]
  · rw [vk 12 n (by omega), hW]; simp [up_r]
  · rw [vk 13 n (by omega), hW]; simp [up_r]
def enU (w : mM) (n : Nat) (ch y hh lo hi : Int32) : mM := up (up (up (up (up (up (up w 1 (13 + 13 * n + 0) ch) 1 (13 + 13 * n + 1) y) 1 (13 + 13 * n + 2) (w 1 0)) 1 (13 + 13 * n + 3) hh) 1 (13 + 13 * n + 4) lo) 1 (13 + 13 * n + 5) hi) 1 (13 + 13 * n + 6) (-1)
def enG (u : mM) (n k : Nat) : mM := fun z i => if z = 1 ∧ 13 + 13 * n + 7 ≤ i ∧ i < 13 + 13 * n + 7 + k then 0 else u z i
def enX (u : mM) (n : Nat) : mM := up (up (enG u n 6) 1 (13 + 13 * n + 10) (-1)) 1 1 (nI (n + 1))
theorem en_loop {n : Nat} {w u : mM} (h : w 1 1 = nI n) (hu1 : u 1 1 = nI n) (hn : n < 30) : lp (fun _ _ => none) (L_X7_enters_76 w) 8192 (7 : Int32) u = some (nI n, enX u n) := by
  have e0 : enG u n 0 = u := funext fun z => funext fun i => by unfold enG; exact if_neg (by omega)
  have L : ∀ (j : Nat) (x : Int32) (u : mM), j < 13 → f_X7_lay (nI n) (nI j) x u = some (up u 1 (13 + 13 * n + j) x) := fun j x u hj => m_lay hn hj x u
  have g11 : enG u n 6 1 1 = nI n := by
    unfold enG
    rw [if_neg (by omega), hu1]
  have key := lp_go (bot := fun _ _ => none) (F := L_X7_enters_76 w) (fuel := 8192) (ev := fun k (X : Int32 → mM → Option (Int32 × mM)) => X (nI (7 + k)) (enG u n k)) 6 (res := some (nI n, enX u n)) (by omega) (fun k hk self => ?_) (fun self => ?_)
  · have k2 : lp (fun _ _ => none) (L_X7_enters_76 w) 8192 (nI (7 + 0)) (enG u n 0) = some (nI n, enX u n) := key
    rw [e0] at k2
    exact k2
  · show L_X7_enters_76 w self (nI (7 + k)) (enG u n k) = self (nI (7 + (k + 1))) (enG u n (k + 1))
    have l := L (7 + k) 0 (enG u n k) (by omega)
    simp only [L_X7_enters_76, ix_1, h, l, bnd_s, nI_1]
    rw [if_neg (show ¬ (13 : Int32) ≤ nI (7 + k) from nI_ge (b := 13) (by omega) (by omega)), show 7 + k + 1 = 7 + (k + 1) by omega]
    refine congrArg (self (nI (7 + (k + 1)))) (funext fun z => funext fun i => ?_)
    rw [up_r]
    unfold enG
    by_cases q : z = 1 ∧ i = 13 + 13 * n + (7 + k)
    · rw [if_pos q, if_pos ⟨q.1, by omega, by omega⟩]
    · rw [if_neg q]
      by_cases q2 : z = 1 ∧ 13 + 13 * n + 7 ≤ i ∧ i < 13 + 13 * n + 7 + k
      · rw [if_pos q2, if_pos ⟨q2.1, q2.2.1, by omega⟩]
      · rw [if_neg q2, if_neg (by omega)]
  · show L_X7_enters_76 w self (nI 13) (enG u n 6) = _
    have l : f_X7_lay (nI n) 10 (-1) (enG u n 6) = some (up (enG u n 6) 1 (13 + 13 * n + 10) (-1)) := L 10 (-1) (enG u n 6) (by omega)
    have e11 : up (enG u n 6) 1 (13 + 13 * n + 10) (-1) 1 1 = nI n := by rw [up_r, if_neg (by omega), g11]
    simp only [L_X7_enters_76, ix_1, inb_1, h, l, bnd_s, ck_t, lt_e, e11, nI_1]
    rw [if_pos (by decide)]
    rfl
theorem en_fun {n : Nat} {w : mM} (h : w 1 1 = nI n) (hn : n < 30) (ch y hh lo hi : Int32) : f_X7_enters ch y hh lo hi w = lp (fun _ _ => none) (L_X7_enters_76 w) 8192 (7 : Int32) (enU w n ch y hh lo hi) := by
  have L : ∀ (j : Nat) (x : Int32) (u : mM), j < 13 → f_X7_lay (nI n) (nI j) x u = some (up u 1 (13 + 13 * n + j) x) := fun j x u hj => m_lay hn hj x u
  have l0 : ∀ x u, f_X7_lay (nI n) 0 x u = some (up u 1 (13 + 13 * n + 0) x) := fun x u => L 0 x u (by omega)
  have l1 : ∀ x u, f_X7_lay (nI n) 1 x u = some (up u 1 (13 + 13 * n + 1) x) := fun x u => L 1 x u (by omega)
  have l2 : ∀ x u, f_X7_lay (nI n) 2 x u = some (up u 1 (13 + 13 * n + 2) x) := fun x u => L 2 x u (by omega)
  have l3 : ∀ x u, f_X7_lay (nI n) 3 x u = some (up u 1 (13 + 13 * n + 3) x) := fun x u => L 3 x u (by omega)
  have l4 : ∀ x u, f_X7_lay (nI n) 4 x u = some (up u 1 (13 + 13 * n + 4) x) := fun x u => L 4 x u (by omega)
  have l5 : ∀ x u, f_X7_lay (nI n) 5 x u = some (up u 1 (13 + 13 * n + 5) x) := fun x u => L 5 x u (by omega)
  have l6 : ∀ x u, f_X7_lay (nI n) 6 x u = some (up u 1 (13 + 13 * n + 6) x) := fun x u => L 6 x u (by omega)
  have d0 : up (up w 1 (13 + 13 * n + 0) ch) 1 (13 + 13 * n + 1) y 1 0 = w 1 0 := by rw [up_r, if_neg (by omega), up_r, if_neg (by omega)]
  unfold f_X7_enters enU
  rw [inb_1, ck_t, ix_1, h, l0, bnd_s, l1, bnd_s, inb_0, ck_t, ix_0, d0, l2, bnd_s, l3, bnd_s, l4, bnd_s, l5, bnd_s, l6, bnd_s]
theorem enU_o (w : mM) (n : Nat) (ch y hh lo hi : Int32) (z i : Nat) (h : ¬ (z = 1 ∧ 13 + 13 * n ≤ i ∧ i < 26 + 13 * n)) : enU w n ch y hh lo hi z i = w z i := by
  unfold enU
  rw [up_r, if_neg (by omega), up_r, if_neg (by omega), up_r, if_neg (by omega), up_r, if_neg (by omega), up_r, if_neg (by omega), up_r, if_neg (by omega), up_r, if_neg (by omega)]
theorem m_enters {n : Nat} {w : mM} (h : w 1 1 = nI n) (hn : n < 30) (ch y hh lo hi : Int32) : ∃ w', f_X7_enters ch y hh lo hi w = some (nI n, w') ∧ (∀ z, z ≠ 1 → w' z = w z) ∧ (∀ i, i ≠ 1 → ¬ (13 + 13 * n ≤ i ∧ i < 26 + 13 * n) → w' 1 i = w 1 i) ∧ w' 1 1 = nI (n + 1) ∧
    (w' 1 (13 + 13 * n + 0) = ch ∧ w' 1 (13 + 13 * n + 1) = y ∧ w' 1 (13 + 13 * n + 2) = w 1 0 ∧ w' 1 (13 + 13 * n + 3) = hh ∧ w' 1 (13 + 13 * n + 4) = lo ∧ w' 1 (13 + 13 * n + 5) = hi ∧ w' 1 (13 + 13 * n + 6) = -1 ∧ w' 1 (13 + 13 * n + 7) = 0 ∧ w' 1 (13 + 13 * n + 8) = 0 ∧ w' 1 (13 + 13 * n + 9) = 0 ∧ w' 1 (13 + 13 * n + 10) = -1 ∧ w' 1 (13 + 13 * n + 11) = 0 ∧ w' 1 (13 + 13 * n + 12) = 0) := by
  have hz : ∀ z i, ¬ (z = 1 ∧ (i = 1 ∨ 13 + 13 * n ≤ i ∧ i < 26 + 13 * n)) → enX (enU w n ch y hh lo hi) n z i = w z i := fun z i hi2 => by
    unfold enX enG
    rw [up_r, if_neg (by omega), up_r, if_neg (by omega), if_neg (by omega)]
    exact enU_o w n ch y hh lo hi z i (by omega)
  have xin : ∀ j, j < 13 → enX (enU w n ch y hh lo hi) n 1 (13 + 13 * n + j) = if j = 10 then -1 else if 7 ≤ j then 0 else enU w n ch y hh lo hi 1 (13 + 13 * n + j) := fun j hj => by
    unfold enX enG
    rw [up_r, if_neg (by omega), up_r]
    by_cases q : j = 10
    · rw [if_pos ⟨rfl, by omega⟩, if_pos q]
    · rw [if_neg (by omega), if_neg q]
      by_cases q2 : 7 ≤ j
      · rw [if_pos ⟨rfl, by omega, by omega⟩, if_pos q2]
      · rw [if_neg (by omega), if_neg q2]
  refine ⟨enX (enU w n ch y hh lo hi) n, (en_fun h hn ch y hh lo hi).trans (en_loop h ((enU_o w n ch y hh lo hi 1 1 (by omega)).trans h) hn), fun z h1 => funext fun i => hz z i (by omega), fun i h1 h2 => hz 1 i (by omega), ?_, ?_, ?_, ?_, ?_, ?_, ?_, ?_, ?_, ?_, ?_, ?_, ?_, ?_⟩
  · unfold enX
    rw [up_r, if_pos ⟨rfl, rfl⟩]
  · rw [xin 0 (by omega), if_neg (by omega), if_neg (by omega)]
    unfold enU
    rw [up_r, if_neg (by omega), up_r, if_neg (by omega), up_r, if_neg (by omega), up_r, if_neg (by omega), up_r, if_neg (by omega), up_r, if_neg (by omega), up_r, if_pos ⟨rfl, rfl⟩]
  · rw [xin 1 (by omega), if_neg (by omega), if_neg (by omega)]
    unfold enU
    rw [up_r, if_neg (by omega), up_r, if_neg (by omega), up_r, if_neg (by omega), up_r, if_neg (by omega), up_r, if_neg (by omega), up_r, if_pos ⟨rfl, rfl⟩]
  · rw [xin 2 (by omega), if_neg (by omega), if_neg (by omega)]
    unfold enU
    rw [up_r, if_neg (by omega), up_r, if_neg (by omega), up_r, if_neg (by omega), up_r, if_neg (by omega), up_r, if_pos ⟨rfl, rfl⟩]
  · rw [xin 3 (by omega), if_neg (by omega), if_neg (by omega)]
    unfold enU
    rw [up_r, if_neg (by omega), up_r, if_neg (by omega), up_r, if_neg (by omega), up_r, if_pos ⟨rfl, rfl⟩]
  · rw [xin 4 (by omega), if_neg (by omega), if_neg (by omega)]
    unfold enU
    rw [up_r, if_neg (by omega), up_r, if_neg (by omega), up_r, if_pos ⟨rfl, rfl⟩]
  · rw [xin 5 (by omega), if_neg (by omega), if_neg (by omega)]
    unfold enU
    rw [up_r, if_neg (by omega), up_r, if_pos ⟨rfl, rfl⟩]
  · rw [xin 6 (by omega), if_neg (by omega), if_neg (by omega)]
    unfold enU
    rw [up_r, if_pos ⟨rfl, rfl⟩]
  · rw [xin 7 (by omega), if_neg (by omega), if_pos (by omega)]
  · rw [xin 8 (by omega), if_neg (by omega), if_pos (by omega)]
  · rw [xin 9 (by omega), if_neg (by omega), if_pos (by omega)]
  · rw [xin 10 (by omega), if_pos rfl]
  · rw [xin 11 (by omega), if_neg (by omega), if_pos (by omega)]
  · rw [xin 12 (by omega), if_neg (by omega), if_pos (by omega)]
