/-! THE RELATION: book o of the class's world v, and a row a of the reference: day D, n singers, m notes, f feasts on the days dd -/
def RS (v : mC) (o : Nat) (a : Nat → Int32) (D s : Nat) : Prop :=
  a (13 + 13 * s + 0) = v (8, o, 0) s ∧
  (∃ y B : Nat, 7 ≤ y ∧ y ≤ 70 ∧ B ≤ D ∧ a (13 + 13 * s + 1) = nI y ∧ a (13 + 13 * s + 2) = nI B ∧ v (6, o, 0) s = nI B - nI (y * 360)) ∧
  (∃ h : Nat, h ≤ 210 ∧ a (13 + 13 * s + 3) = nI h ∧ v (3, o, 0) s = nI h) ∧
  (∃ lo : Nat, lo ≤ 48 ∧ a (13 + 13 * s + 4) = nI lo ∧ v (4, o, 0) s = nI lo) ∧
  (∃ hi : Nat, hi ≤ 48 ∧ a (13 + 13 * s + 5) = nI hi ∧ v (5, o, 0) s = nI hi) ∧
  (a (13 + 13 * s + 6) = v (7, o, 0) s ∧ (v (7, o, 0) s = -1 ∨ ∃ b : Nat, b ≤ 13599 ∧ v (7, o, 0) s = nI b)) ∧
  ((a (13 + 13 * s + 7) = nI 1 ∧ (v (10, o, 0) s).toInt < (D : Int)) ∨ (a (13 + 13 * s + 7) = nI 0 ∧ (D : Int) ≤ (v (10, o, 0) s).toInt ∧ ((v (8, o, 0) s = -1 ∧ v (10, o, 0) s = nI 1000000) ∨ (¬ v (8, o, 0) s = -1 ∧ a (13 + 13 * s + 8) = v (10, o, 0) s)))) ∧
  a (13 + 13 * s + 9) = v (9, o, 0) s ∧ a (13 + 13 * s + 10) = v (11, o, 0) s ∧ a (13 + 13 * s + 11) = v (12, o, 0) s ∧ a (13 + 13 * s + 12) = v (13, o, 0) s
def RN (v : mC) (o : Nat) (a : Nat → Int32) (k : Nat) : Prop :=
  a (403 + 3 * k) = v (15, o, 0) k ∧ (∃ p : Nat, p ≤ 9999 ∧ a (404 + 3 * k) = nI p ∧ v (16, o, 0) k = nI p) ∧ ∃ q : Nat, q ≤ 10059 ∧ a (405 + 3 * k) = nI q ∧ v (17, o, 0) k = nI q
def RF (v : mC) (o : Nat) (a : Nat → Int32) (D : Nat) (dd : Nat → Nat) (j : Nat) : Prop :=
  (1 ≤ dd j ∧ dd j ≤ 9999 ∧ a (583 + 45 * j) = nI (dd j) ∧ v (19, o, 0) j = nI (dd j)) ∧ a (584 + 45 * j) = v (20, o, 0) j ∧
  (∀ l, l < 4 → (∃ p : Nat, p ≤ 6 ∧ a (585 + 45 * j + 3 * l) = nI p ∧ v (26, o, j) l = nI p) ∧ a (586 + 45 * j + 3 * l) = v (27, o, j) l ∧ a (587 + 45 * j + 3 * l) = v (28, o, j) l) ∧
  (dd j ≤ D → a (597 + 45 * j) = v (21, o, 0) j ∧ ∀ k, k < 30 → a (598 + 45 * j + k) = v (29, o, j) k)
def RlE (v : mC) (o : Nat) (a : Nat → Int32) (D E n m f : Nat) (dd : Nat → Nat) : Prop :=
  (D ≤ 9999 ∧ n ≤ 30 ∧ m ≤ 60 ∧ f ≤ 20) ∧
  (v (1, o, 0) 0 = nI D ∧ a 0 = nI D ∧ v (2, o, 0) 0 = nI n ∧ a 1 = nI n ∧ v (14, o, 0) 0 = nI m ∧ a 2 = nI m ∧ v (18, o, 0) 0 = nI f ∧ a 3 = nI f) ∧
  (∀ s, s < n → RS v o a D s) ∧ (∀ k, k < m → RN v o a k) ∧ (∀ j, j < f → RF v o a E dd j) ∧ (∀ i j, i < f → j < f → dd i = dd j → i = j) ∧
  (a 4 = v (1, o, 0) 7 ∧ a 5 = v (1, o, 0) 6 ∧ a 6 = v (1, o, 0) 8 ∧ a 7 = v (1, o, 0) 9 ∧ v (1, o, 0) 5 = 50 + a 4 + a 5 - a 6 - a 7) ∧
  ∀ c, c < 5 → a (8 + c) = v (30, o, 0) c
/-- E: the day up to which feasts are held: the day itself, but for the hour before a feast of the day is -/
abbrev Rl (v : mC) (o : Nat) (a : Nat → Int32) (D n m f : Nat) (dd : Nat → Nat) : Prop := RlE v o a D D n m f dd
/-- two books that agree where it counts -/
def Ag (v : mC) (o : Nat) (v' : mC) (o' : Nat) (n m f : Nat) : Prop :=
  (∀ i, i < 10 → ¬ (1 ≤ i ∧ i ≤ 4) → v' (1, o', 0) i = v (1, o, 0) i) ∧ v' (2, o', 0) 0 = v (2, o, 0) 0 ∧ v' (14, o', 0) 0 = v (14, o, 0) 0 ∧ v' (18, o', 0) 0 = v (18, o, 0) 0 ∧
  (∀ k, 3 ≤ k → k ≤ 13 → ∀ s, s < n → v' (k, o', 0) s = v (k, o, 0) s) ∧ (∀ k, 15 ≤ k → k ≤ 17 → ∀ i, i < m → v' (k, o', 0) i = v (k, o, 0) i) ∧
  (∀ k, 19 ≤ k → k ≤ 21 → ∀ j, j < f → v' (k, o', 0) j = v (k, o, 0) j) ∧ (∀ k, 26 ≤ k → k ≤ 28 → ∀ j, j < f → ∀ l, l < 4 → v' (k, o', j) l = v (k, o, j) l) ∧
  (∀ j, j < f → ∀ i, i < 30 → v' (29, o', j) i = v (29, o, j) i) ∧ ∀ c, c < 5 → v' (30, o', 0) c = v (30, o, 0) c
theorem RS_x {v v' : mC} {o o' : Nat} {a a' : Nat → Int32} {D s : Nat} (hs : s < 30) (hv : ∀ k, 3 ≤ k → k ≤ 13 → v' (k, o', 0) s = v (k, o, 0) s) (ha : ∀ i, i < 1483 → a' i = a i) (h : RS v o a D s) : RS v' o' a' D s := by
  unfold RS at h ⊢
  rw [hv 3 (by omega) (by omega), hv 4 (by omega) (by omega), hv 5 (by omega) (by omega), hv 6 (by omega) (by omega), hv 7 (by omega) (by omega), hv 8 (by omega) (by omega), hv 9 (by omega) (by omega), hv 10 (by omega) (by omega), hv 11 (by omega) (by omega), hv 12 (by omega) (by omega), hv 13 (by omega) (by omega),
    ha (13 + 13 * s + 0) (by omega), ha (13 + 13 * s + 1) (by omega), ha (13 + 13 * s + 2) (by omega), ha (13 + 13 * s + 3) (by omega), ha (13 + 13 * s + 4) (by omega), ha (13 + 13 * s + 5) (by omega), ha (13 + 13 * s + 6) (by omega), ha (13 + 13 * s + 7) (by omega), ha (13 + 13 * s + 8) (by omega), ha (13 + 13 * s + 9) (by omega), ha (13 + 13 * s + 10) (by omega), ha (13 + 13 * s + 11) (by omega), ha (13 + 13 * s + 12) (by omega)]
  exact h
theorem Rl_x {v v' : mC} {o o' : Nat} {a a' : Nat → Int32} {D E n m f : Nat} {dd : Nat → Nat} (hA : Ag v o v' o' n m f) (ha : ∀ i, i < 1483 → a' i = a i) (h : RlE v o a D E n m f dd) : RlE v' o' a' D E n m f dd := by
  obtain ⟨⟨b1, b2, b3, b4⟩, ⟨c1, c2, c3, c4, c5, c6, c7, c8⟩, hS, hN, hF, hU, ⟨p1, p2, p3, p4, p5⟩, hV⟩ := h
  obtain ⟨e1, e2, e3, e4, e5, e6, e7, e8, e9, e10⟩ := hA
  refine ⟨⟨b1, b2, b3, b4⟩, ⟨by rw [e1 0 (by omega) (by omega)]; exact c1, by rw [ha 0 (by omega)]; exact c2, by rw [e2]; exact c3, by rw [ha 1 (by omega)]; exact c4, by rw [e3]; exact c5, by rw [ha 2 (by omega)]; exact c6, by rw [e4]; exact c7, by rw [ha 3 (by omega)]; exact c8⟩,
    fun s hs => RS_x (by omega) (fun k h1 h2 => e5 k h1 h2 s hs) ha (hS s hs), fun k hk => ?_, fun j hj => ?_, hU, ?_, fun c hc => by rw [ha _ (by omega), e10 c hc]; exact hV c hc⟩
  · have h := hN k hk
    unfold RN at h ⊢
    rw [ha _ (by omega), ha _ (by omega), ha _ (by omega), e6 15 (by omega) (by omega) k hk, e6 16 (by omega) (by omega) k hk, e6 17 (by omega) (by omega) k hk]
    exact h
  · have h := hF j hj
    unfold RF at h ⊢
    rw [ha (583 + 45 * j) (by omega), ha (584 + 45 * j) (by omega), ha (597 + 45 * j) (by omega), e7 19 (by omega) (by omega) j hj, e7 20 (by omega) (by omega) j hj, e7 21 (by omega) (by omega) j hj]
    refine ⟨h.1, h.2.1, fun l hl => ?_, fun hd => ⟨(h.2.2.2 hd).1, fun k hk => ?_⟩⟩
    · rw [ha _ (by omega), ha _ (by omega), ha _ (by omega), e8 26 (by omega) (by omega) j hj l hl, e8 27 (by omega) (by omega) j hj l hl, e8 28 (by omega) (by omega) j hj l hl]
      exact h.2.2.1 l hl
    · rw [ha _ (by omega), e9 j hj k hk]
      exact (h.2.2.2 hd).2 k hk
  · rw [ha 4 (by omega), ha 5 (by omega), ha 6 (by omega), ha 7 (by omega), e1 7 (by omega) (by omega), e1 6 (by omega) (by omega), e1 8 (by omega) (by omega), e1 9 (by omega) (by omega), e1 5 (by omega) (by omega)]
    exact ⟨p1, p2, p3, p4, p5⟩
/-- books that are the same -/
theorem Ag_eq {v v' : mC} {o n m f : Nat} (h : ∀ k j i, 1 ≤ k → k ≤ 30 → v' (k, o, j) i = v (k, o, j) i) : Ag v o v' o n m f :=
  ⟨fun i _ _ => h 1 0 i (by omega) (by omega), h 2 0 0 (by omega) (by omega), h 14 0 0 (by omega) (by omega), h 18 0 0 (by omega) (by omega), fun k h1 h2 s _ => h k 0 s (by omega) (by omega), fun k h1 h2 i _ => h k 0 i (by omega) (by omega), fun k h1 h2 j _ => h k 0 j (by omega) (by omega), fun k h1 h2 j _ l _ => h k j l (by omega) (by omega), fun j _ i _ => h 29 j i (by omega) (by omega), fun c _ => h 30 0 c (by omega) (by omega)⟩
