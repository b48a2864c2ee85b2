/-! CALLS, ONE BY ONE: what the class answers is what the reference answers, and all that holds between calls still holds -/
def Op (cd : Nat → Nat) (F : Option (Int32 × Nat × mC)) (G : Option (Int32 × mM)) : Prop := ∃ x k v' y w', F = some (x, k, v') ∧ G = some (y, w') ∧ k ≤ 3 ∧ w' 0 12 = nI (cd k) ∧ (cd k = 0 ↔ k = 0) ∧ (k = 0 → x = y) ∧ IV v' w'
def c23 (k : Nat) : Nat := if k = 2 then 1 else if k = 3 then 2 else 0
def c13 (k : Nat) : Nat := if k = 1 then 1 else if k = 3 then 2 else 0
def c12 (k : Nat) : Nat := if k = 1 then 1 else if k = 2 then 2 else 0
def c3 (k : Nat) : Nat := if k = 3 then 1 else 0
def c1 (k : Nat) : Nat := if k = 1 then 1 else 0
def c123 (k : Nat) : Nat := k
theorem rf0 (v : mC) (e : Int32 → mC → Option (Int32 × Nat × mC)) : tb (f_X6_refuseIf 0 v) e = e 0 v := by
  unfold tb f_X6_refuseIf
  rw [if_neg (by decide), if_neg (by decide), if_neg (by decide)]
  rfl
theorem rf1 (v : mC) (e : Int32 → mC → Option (Int32 × Nat × mC)) : tb (f_X6_refuseIf 1 v) e = some (0, 1, v) := by
  unfold tb f_X6_refuseIf
  rw [if_pos (by decide)]
  rfl
theorem rf2 (v : mC) (e : Int32 → mC → Option (Int32 × Nat × mC)) : tb (f_X6_refuseIf 2 v) e = some (0, 2, v) := by
  unfold tb f_X6_refuseIf
  rw [if_neg (by decide), if_pos (by decide)]
  rfl
theorem rf3 (v : mC) (e : Int32 → mC → Option (Int32 × Nat × mC)) : tb (f_X6_refuseIf 3 v) e = some (0, 3, v) := by
  unfold tb f_X6_refuseIf
  rw [if_neg (by decide), if_neg (by decide), if_pos (by decide)]
  rfl
theorem m_ref (c : Int32) (w : mM) : f_X7_refuses c w = some (0, up w 0 12 c) := by
  unfold f_X7_refuses
  rw [lt_e]
theorem th_1 (w : mM) (c : Int32) {z : Nat} (hz : z ≠ 0) : up w 0 12 c z = w z := funext fun i => by rw [up_r, if_neg (fun q => hz q.1)]
theorem IV_th {v : mC} {w : mM} (c : Int32) (h : IV v w) : IV v (up w 0 12 c) :=
  IV_ask (fun z _ => rfl) (fun z _ hz => th_1 w c hz) (fun i hi => by rw [up_r, if_neg (fun q => hi q.2)]) h
theorem op_ref {cd : Nat → Nat} {v : mC} {w : mM} {F : Option (Int32 × Nat × mC)} {G : Option (Int32 × mM)} {y : Int32} {k c : Nat} (h : IV v w) (hF : F = some (0, k, v)) (hG : G = some (y, up (up w 0 12 0) 0 12 (nI c))) (hk : k ≤ 3) (hk0 : k ≠ 0) (hc : cd k = c) (hc0 : c ≠ 0) : Op cd F G :=
  ⟨0, k, v, y, _, hF, hG, hk, by rw [up_r, if_pos ⟨rfl, rfl⟩, hc], ⟨fun e => absurd (hc.symm.trans e) hc0, fun e => absurd e hk0⟩, fun e => absurd e hk0, IV_th _ (IV_th _ h)⟩
theorem op_ok {cd : Nat → Nat} {F : Option (Int32 × Nat × mC)} {G : Option (Int32 × mM)} {x : Int32} {v' : mC} {w' : mM} (hF : F = some (x, 0, v')) (hG : G = some (x, w')) (h0 : cd 0 = 0) (h12 : w' 0 12 = 0) (h : IV v' w') : Op cd F G :=
  ⟨x, 0, v', x, w', hF, hG, by omega, by rw [h0]; exact h12, ⟨fun _ => rfl, fun _ => h0⟩, fun _ => rfl, h⟩
theorem act_keep {v : mC} {w : mM} (h : IV v w) {D n m f : Nat} {dd : Nat → Nat} (R : Rl v 0 (w 1) D n m f dd) : ∃ v1 w1, f_X6_keepState v = some v1 ∧ f_X7_saves 1 (up w 0 12 0) = some w1 ∧ IV v1 w1 ∧ Rl v1 0 (w1 1) D n m f dd ∧ w1 0 12 = 0 := by
  obtain ⟨v1, w1, g1, g2, g3, g4, g5, g6⟩ := keep_IV (IV_th 0 h)
  refine ⟨v1, w1, g1, g2, g3, Rl_x (Ag_eq fun k j i h1 h2 => by rw [g4 (k, 0, j) (kn (by omega) _ _ _ _) (kn (by omega) _ _ _ _) (Or.inr (Or.inr (by show 0 < 3; omega)))]) (fun i _ => by rw [g5 1 (by omega) (by omega), th_1 w 0 (by omega)]) R, ?_⟩
  rw [g6 12 (by omega), up_r, if_pos ⟨rfl, rfl⟩]
theorem act_end {v1 v2 : mC} {w1 w2 : mM} (h : IV v1 w1) (h12 : w1 0 12 = 0) (hc : CB 0 v1 v2) (hm : ∀ z, z ≠ 1 → w2 z = w1 z) {D n m f : Nat} {dd : Nat → Nat} (R : Rl v2 0 (w2 1) D n m f dd) : IV v2 w2 ∧ w2 0 12 = 0 :=
  ⟨IV_act hc (fun z _ hz => hm z hz) ⟨D, n, m, f, dd, R⟩ h, by rw [hm 0 (by omega)]; exact h12⟩
section Ops
variable {v : mC} {w : mM} {D n m f : Nat} {dd : Nat → Nat}
theorem s_refEnrol {o : Nat} (hn1 : v (2, o, 0) 0 = nI n) (hn : n ≤ 30) (x1 x2 x3 x4 x5 : Int32) : f_X0_refusalToEnrol o x1 x2 x3 x4 x5 v = some (if ((7 ≤ x1 ∧ x1 ≤ 70) ∧ pH x2 ∧ (x5 = 0 ∨ (12 ≤ x5 ∧ x5 ≤ 17))) ∧ pN x3 x4 then (if n = 30 then 3 else 0) else 2) := by
  simp only [f_X0_refusalToEnrol, s_within, s_isHR, bnd_s, b2_if, jn_e, s_isFull hn1 hn]
  by_cases p1 : 7 ≤ x1 ∧ x1 ≤ 70
  · rw [if_pos p1]
    by_cases p2 : pH x2 ∧ pN x3 x4
    · rw [if_pos p2]
      by_cases p3 : x5 = 0
      · have c : ((7 ≤ x1 ∧ x1 ≤ 70) ∧ pH x2 ∧ (x5 = 0 ∨ (12 ≤ x5 ∧ x5 ≤ 17))) ∧ pN x3 x4 := ⟨⟨p1, p2.1, Or.inl p3⟩, p2.2⟩
        rw [if_pos p3, if_pos c]
        split <;> rfl
      · rw [if_neg p3]
        by_cases p4 : 12 ≤ x5 ∧ x5 ≤ 17
        · have c : ((7 ≤ x1 ∧ x1 ≤ 70) ∧ pH x2 ∧ (x5 = 0 ∨ (12 ≤ x5 ∧ x5 ≤ 17))) ∧ pN x3 x4 := ⟨⟨p1, p2.1, Or.inr p4⟩, p2.2⟩
          rw [if_pos p4, if_pos c]
          split <;> rfl
        · rw [if_neg p4, if_neg (fun q => q.1.2.2.elim p3 p4)]
    · rw [if_neg p2, if_neg (fun q => p2 ⟨q.1.2.1, q.2⟩)]
  · rw [if_neg p1, if_neg (fun q => p1 q.1.1)]
theorem op_register (h : IV v w) (x1 x2 x3 x4 x5 : Int32) : Op c23 (f_X6_register x1 x2 x3 x4 x5 v) (f_X7_register x1 x2 x3 x4 x5 w) := by
  obtain ⟨D, n, m, f, dd, R⟩ := h.1
  have hn := R.1.2.1
  have e11 : up w 0 12 0 1 1 = nI n := by rw [th_1 w 0 (by omega)]; exact R.2.1.2.2.2.1
  unfold f_X6_register f_X7_register
  simp only [jn_e, lt_e, s_refEnrol R.2.1.2.2.1 hn, bnd_s, m_isOwn, m_areNotes, b2_if, m_ref, inb_1, ix_1, ck_t, e11]
  by_cases p : (7 ≤ x1 ∧ x1 ≤ 70) ∧ pH x2 ∧ (x5 = 0 ∨ (12 ≤ x5 ∧ x5 ≤ 17))
  · rw [if_pos p]
    by_cases p2 : pN x3 x4
    · have pp := And.intro p p2
      rw [if_pos p2, if_pos pp]
      by_cases p3 : n = 30
      · rw [if_pos p3, if_pos (by rw [p3]; rfl)]
        exact op_ref (k := 3) (c := 2) h (rf3 _ _) rfl (by omega) (by omega) rfl (by omega)
      · rw [if_neg p3, if_neg (show ¬ nI n = 30 from fun q => p3 ((qi_neq (b := 30) (by omega) (by omega)).mp q)), rf0]
        obtain ⟨v1, w1, k1, k2, k3, k4, k5⟩ := act_keep h R
        obtain ⟨v2, w2, a1, a2, a3, a4, a5⟩ := enrol_eq k4 (by omega) p.1 p.2.1 p2 p.2.2
        obtain ⟨i1, i2⟩ := act_end k3 k5 a4 a5 a3
        rw [k1, bnd_s, a1, bnd_s, k2, bnd_s, a2, bnd_s]
        exact op_ok rfl rfl rfl i2 i1
    · rw [if_neg p2, if_neg (fun q => p2 q.2)]
      exact op_ref (k := 2) (c := 1) h (rf2 _ _) rfl (by omega) (by omega) rfl (by omega)
  · rw [if_neg p, if_neg (fun q => p q.1)]
    exact op_ref (k := 2) (c := 1) h (rf2 _ _) rfl (by omega) (by omega) rfl (by omega)
/-- who has left -/
theorem left_iff {o : Nat} (R : Rl v o (w 1) D n m f dd) {s : Nat} (hs : s < n) : (w 1 (13 + 13 * s + 7) = 1 ↔ ¬ nI D ≤ v (10, o, 0) s) ∧ (w 1 (13 + 13 * s + 7) = 0 ↔ nI D ≤ v (10, o, 0) s) := by
  have hD := R.1.1
  obtain ⟨-, -, -, -, -, -, r7, -⟩ := R.2.2.1 s hs
  rw [qi_le, qi_I (by omega)]
  rcases r7 with ⟨e, g⟩ | ⟨e, g, -⟩
  · rw [e]
    exact ⟨⟨fun _ => by omega, fun _ => rfl⟩, ⟨fun q => absurd q (by decide), fun q => absurd q (by omega)⟩⟩
  · rw [e]
    exact ⟨⟨fun q => absurd q (by decide), fun q => absurd g q⟩, ⟨fun _ => g, fun _ => rfl⟩⟩
theorem op_leave (h : IV v w) (x1 : Int32) : Op c13 (f_X6_leave x1 v) (f_X7_leave x1 w) := by
  obtain ⟨D, n, m, f, dd, R⟩ := h.1
  have hn := R.1.2.1
  have R1 : Rl v 0 (up w 0 12 0 1) D n m f dd := by rw [th_1 w 0 (by omega)]; exact R
  unfold f_X6_leave f_X7_leave
  simp only [lt_e, f_X0_refusalToDismiss, s_has R.2.1.2.2.1 hn, bnd_s, m_isSinger R1.2.1.2.2.2.1 hn, b2_if, m_ref]
  by_cases p : isI x1 n
  · rw [if_pos p, if_pos p]
    obtain ⟨s, hs, rfl⟩ := isI_of p
    have w7 : f_X7_its (nI s) 7 (up w 0 12 0) = some (up w 0 12 0 1 (13 + 13 * s + 7)) := m_its (j := 7) (by omega) (by omega) _
    rw [s_hasLeft 0 (by omega), bnd_s, R.2.1.1, b2_if, w7, bnd_s, i2b _ _ (left_iff R1 hs).1]
    by_cases q : ¬ nI D ≤ v (10, 0, 0) s
    · rw [if_pos q, if_pos q, bnd_s]
      exact op_ref (k := 3) (c := 2) h (rf3 _ _) rfl (by omega) (by omega) rfl (by omega)
    · rw [if_neg q, if_neg q, bnd_s, rf0]
      obtain ⟨v1, w1, k1, k2, k3, k4, k5⟩ := act_keep h R
      obtain ⟨x, v2, w2, a1, a2, a3, a4, a5⟩ := dismiss_eq k4 hs
      obtain ⟨i1, i2⟩ := act_end k3 k5 a4 a5 a3
      rw [k1, bnd_s, a1, bnd_s, k2, bnd_s, a2, bnd_s]
      exact op_ok rfl rfl rfl i2 i1
  · rw [if_neg p, if_neg p, bnd_s]
    exact op_ref (k := 1) (c := 1) h (rf1 _ _) rfl (by omega) (by omega) rfl (by omega)
theorem op_passDays (h : IV v w) (x1 : Int32) : Op c23 (f_X6_passDays x1 v) (f_X7_passDays x1 w) := by
  obtain ⟨D, n, m, f, dd, R⟩ := h.1
  have hD := R.1.1
  have e10 : up w 0 12 0 1 0 = nI D := by rw [th_1 w 0 (by omega)]; exact R.2.1.2.1
  unfold f_X6_passDays f_X7_passDays
  simp only [lt_e, f_X0_refusalToAdvance, s_within, bnd_s, m_in, b2_if, m_ref, inb_0, ix_0, ck_t, e10, R.2.1.1]
  by_cases p : 1 ≤ x1 ∧ x1 ≤ 99
  · rw [if_pos p, if_pos p]
    obtain ⟨d, d1, d2, rfl⟩ := rg_of (a := 1) (b := 99) p (by omega) (by omega)
    rw [qi_add]
    by_cases q : D + d ≤ 9999
    · rw [if_pos (show nI (D + d) ≤ 9999 from nI_le (b := 9999) q (by omega)), if_pos (show nI (D + d) ≤ 9999 from nI_le (b := 9999) q (by omega)), bnd_s, rf0]
      obtain ⟨v1, w1, k1, k2, k3, k4, k5⟩ := act_keep h R
      obtain ⟨c, v2, w2, a1, a2, a3, a4, a5⟩ := days_eq k4 d2 q
      have i2 : w2 0 12 = 0 := by rw [a5 0 (by omega) (by omega)]; exact k5
      rw [k1, bnd_s, a1, bnd_s, k2, bnd_s, a2, bnd_s]
      exact op_ok rfl rfl rfl i2 (IV_act a4 a5 ⟨_, _, _, _, _, a3⟩ k3)
    · rw [if_neg (show ¬ nI (D + d) ≤ 9999 from nI_ge (a := 9999) (by omega) (by omega)), if_neg (show ¬ nI (D + d) ≤ 9999 from nI_ge (a := 9999) (by omega) (by omega)), bnd_s]
      exact op_ref (k := 3) (c := 2) h (rf3 _ _) rfl (by omega) (by omega) rfl (by omega)
  · rw [if_neg p, if_neg p, bnd_s]
    exact op_ref (k := 2) (c := 1) h (rf2 _ _) rfl (by omega) (by omega) rfl (by omega)
theorem op_setLine (h : IV v w) (x1 x2 x3 x4 x5 : Int32) : Op c123 (f_X6_setLine x1 x2 x3 x4 x5 v) (f_X7_setLine x1 x2 x3 x4 x5 w) := by
  obtain ⟨D, n, m, f, dd, R⟩ := h.1
  have hD := R.1.1
  have hf := R.1.2.2.2
  have R1 : Rl v 0 (up w 0 12 0 1) D n m f dd := by rw [th_1 w 0 (by omega)]; exact R
  unfold f_X6_setLine f_X7_setLine
  simp only [jn_e, lt_e, f_X0_refusalToArrange, s_hasF R.2.1.2.2.2.2.2.2.1 hf, s_isLine, s_within, s_isRange, bnd_s, m_isFeast R1.2.1.2.2.2.2.2.2.2 hf, m_isLine, m_in, m_areNotes, b2_if, m_ref]
  by_cases p : isI x1 f
  · rw [if_pos p, if_pos p]
    by_cases p2 : 0 ≤ x2 ∧ x2 ≤ 3
    · rw [if_pos p2, if_pos p2]
      by_cases p3 : 0 ≤ x3 ∧ x3 ≤ 6
      · rw [if_pos p3, if_pos p3]
        by_cases p4 : pN x4 x5
        · rw [if_pos p4, if_pos p4]
          obtain ⟨j, hj, rfl⟩ := isI_of p
          obtain ⟨l, -, hl, rfl⟩ := rg_of (a := 0) (b := 3) p2 (by omega) (by omega)
          obtain ⟨q, -, hq, rfl⟩ := rg_of (a := 0) (b := 6) p3 (by omega) (by omega)
          have hd := (R.2.2.2.2.1 j hj).1
          have hd1 := (R1.2.2.2.2.1 j hj).1
          rw [s_held 0 (by omega), m_held (by omega), bnd_s, bnd_s, b2_if, b2_if, R.2.1.1, hd.2.2.2, R1.2.1.2.1, hd1.2.2.1]
          by_cases p5 : ¬ nI D < nI (dd j)
          · rw [if_pos p5, if_pos p5, bnd_s]
            exact op_ref (k := 3) (c := 3) h (rf3 _ _) rfl (by omega) (by omega) rfl (by omega)
          · rw [if_neg p5, if_neg p5, bnd_s, rf0]
            obtain ⟨v1, w1, k1, k2, k3, k4, k5⟩ := act_keep h R
            obtain ⟨S, v2, w2, -, a1, a2, a3, a4, a5⟩ := line_eq k4 hj (show l < 4 by omega) hq x4 x5
            obtain ⟨i1, i2⟩ := act_end k3 k5 a4 a5 a3
            rw [k1, bnd_s, a1, bnd_s, k2, bnd_s, a2, bnd_s]
            exact op_ok rfl rfl rfl i2 i1
        · rw [if_neg p4, if_neg p4, bnd_s]
          exact op_ref (k := 2) (c := 2) h (rf2 _ _) rfl (by omega) (by omega) rfl (by omega)
      · rw [if_neg p3, if_neg p3, bnd_s]
        exact op_ref (k := 2) (c := 2) h (rf2 _ _) rfl (by omega) (by omega) rfl (by omega)
    · rw [if_neg p2, if_neg p2, bnd_s]
      exact op_ref (k := 1) (c := 1) h (rf1 _ _) rfl (by omega) (by omega) rfl (by omega)
  · rw [if_neg p, if_neg p, bnd_s]
    exact op_ref (k := 1) (c := 1) h (rf1 _ _) rfl (by omega) (by omega) rfl (by omega)
end Ops
