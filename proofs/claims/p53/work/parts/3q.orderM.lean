/-! THE LETTER: the reference reads an order -/
def pl (j : Nat) : Nat := [3, 4, 1, 2, 5, 1, 2, 3, 4, 5, 1, 2, 1, 2, 3, 1, 2, 3, 1, 1].getD j 0
theorem pl_b : ∀ j, j < 20 → 1 ≤ pl j ∧ pl j ≤ 5 := by decide
theorem TXm_f {w w' : mM} {T : Nat → Nat} {len : Nat} (h1 : w' 0 11 = w 0 11) (h2 : w' 9 = w 9) (h : TXm w T len) : TXm w' T len :=
  ⟨h.1, by rw [h1]; exact h.2.1, by rw [h2]; exact h.2.2⟩
/-- what the reading of an order's parts i .. e does -/
def PM (T : Nat → Nat) (len tm : Nat) (w : mM) (i e : Nat) (q : Bool × Nat × (Nat → Nat)) (F : Option (Int32 × mM)) : Prop :=
  ∃ x w', F = some (x, w') ∧ (x = 0 ∨ x = 1) ∧ ((∀ z, z ≠ 0 → z ≠ 10 → w' z = w z) ∧ (∀ j, j ≠ 13 → w' 0 j = w 0 j)) ∧ w' 0 13 = nI q.2.1 ∧ (∀ t, (∀ j, i ≤ j → j < e → ¬ t = 6 * tm + pl j) → w' 10 t = w 10 t) ∧
    (q.1 = true → x = 1 ∧ ∀ j, i ≤ j → j < e → w' 10 (6 * tm + pl j) = nI (q.2.2 j)) ∧ (q.1 = false → x = 0 ∨ isF T len q.2.1)
theorem PM_end {T : Nat → Nat} {len tm e a : Nat} {w : mM} (h : w 0 13 = nI a) : PM T len tm w e e (po T len 0 e a) (ck (zb (1 : Int32)) (some ((1 : Int32), w))) :=
  ⟨1, w, by rw [zb_1, ck_t], Or.inr rfl, ⟨fun _ _ _ => rfl, fun _ _ => rfl⟩, h, fun _ _ => rfl, fun _ => ⟨rfl, fun j h1 h2 => absurd h2 (by omega)⟩, fun q => absurd (show true = false from q) (by decide)⟩
/-- a number is read, then the rest -/
theorem m_ns {T : Nat → Nat} {len tm i e r a : Nat} {w : mM} {x1 x2 x3 : Int32} {REST : mM → Option (Int32 × mM)} (hT : TXm w T len) (h13 : w 0 13 = nI (a + 1)) (h15 : w 0 15 = nI tm) (ht : 6 * tm + 5 < 168) (hie : i + (r + 1) = e) (he : e ≤ 20) (hinj : ∀ j, j < 20 → i < j → j < e → ¬ pl j = pl i)
    (p : a < len ∧ T a = sgN i) (h0 : i ≤ 4 → w 10 (6 * tm + 5) = nI 0) (e1 : x1 = nI (pl i)) (e2 : x2 = nI (loN i)) (e3 : x3 = nI (hiN i)) (h5 : i < 4 → ¬ pl i = 5)
    (k : ∀ W, TXm W T len → W 0 13 = nI (scN T len i a).1 → W 0 15 = nI tm → (i + 1 ≤ 4 → W 10 (6 * tm + 5) = nI 0) → PM T len tm W (i + 1) e (po T len r (i + 1) (scN T len i a).1) (REST W)) :
    PM T len tm w i e (po T len (r + 1) i a) ((f_X7_isNumber x1 x2 x3 w).bind fun r_ => if r_.1 = 0 then ck (zb (0 : Int32)) (some ((0 : Int32), r_.2)) else REST r_.2) := by
  have i20 : i < 20 := by omega
  have hlen := hT.1
  obtain ⟨b1, b2', b3, b4⟩ := pt_b i i20
  obtain ⟨l1, l2⟩ := pl_b i i20
  have hb := scN_b (T := T) (i := i) p.1
  have n4 : ¬ (i = 4 ∧ ¬ (a < len ∧ T a = 98)) := fun q => q.2 ⟨p.1, by rw [p.2, q.1]; rfl⟩
  subst e1 e2 e3
  have hrd := m_read (w := w) (lo := loN i) (hi := hiN i) (tm := tm) (p := pl i) hT h13 (show a + 1 ≤ len by omega) h15 (by omega) b1 b2'
  obtain ⟨W, hW⟩ : ∃ W, W = up (stm w (scN T len i a).1) 10 (6 * tm + pl i) (nI (scN T len i a).2.1) := ⟨_, rfl⟩
  have hrd2 : f_X7_isNumber (nI (pl i)) (nI (loN i)) (nI (hiN i)) w = some (b2 (0 < (scN T len i a).2.2 ∧ loN i ≤ (scN T len i a).2.1 ∧ (scN T len i a).2.1 ≤ hiN i), W) := by rw [hW]; exact hrd
  have Wz : ∀ z, z ≠ 0 → z ≠ 10 → W z = w z := fun z z0 z10 => by rw [hW]; exact funext fun j => by rw [up_r, if_neg (fun q => z10 q.1), stm_o _ _ z0]
  have W0 : ∀ j, j ≠ 13 → W 0 j = w 0 j := fun j hj => by rw [hW, up_r, if_neg (fun q => absurd q.1 (by decide)), stm_0 _ _ _ hj]
  have W13 : W 0 13 = nI (scN T len i a).1 := by rw [hW, up_r, if_neg (fun q => absurd q.1 (by decide)), stm_13]
  have W10 : ∀ t, W 10 t = if t = 6 * tm + pl i then nI (scN T len i a).2.1 else w 10 t := fun t => by
    rw [hW, up_r]
    by_cases q : t = 6 * tm + pl i
    · rw [if_pos ⟨rfl, q⟩, if_pos q]
    · rw [if_neg (fun z => q z.2), if_neg q, stm_o _ _ (by decide)]
  rw [hrd2, bnd_s, b2_if]
  by_cases q2 : 0 < (scN T len i a).2.2 ∧ loN i ≤ (scN T len i a).2.1 ∧ (scN T len i a).2.1 ≤ hiN i
  · rw [if_pos q2]
    obtain ⟨x, w', g1, g2, ⟨g3, g4⟩, g5, g6, g7, g8⟩ := k W (TXm_f (W0 11 (by omega)) (Wz 9 (by omega) (by omega)) hT) W13 (by rw [W0 15 (by omega)]; exact h15) (fun hi4 => by
      rw [W10, if_neg (by have := h5 (by omega); omega)]
      exact h0 (by omega))
    have fr1 : ∀ t, (∀ j, i ≤ j → j < e → ¬ t = 6 * tm + pl j) → w' 10 t = w 10 t := fun t h => by
      rw [g6 t (fun j j1 j2 => h j (by omega) j2), W10, if_neg (h i (Nat.le_refl _) (by omega))]
    have fr2 : (∀ z, z ≠ 0 → z ≠ 10 → w' z = w z) ∧ (∀ j, j ≠ 13 → w' 0 j = w 0 j) := ⟨fun z a b => (g3 z a b).trans (Wz z a b), fun j hj => (g4 j hj).trans (W0 j hj)⟩
    by_cases q1 : isF T len (scN T len i a).1
    · have nok : ¬ okN T len i a = true := fun z => (okN_e.mp z).1 q1
      rw [po_n n4 p nok]
      refine ⟨x, w', g1, g2, fr2, ?_, fr1, fun z => absurd z Bool.false_ne_true, fun _ => Or.inr q1⟩
      rw [g5, po_fig q1 r (i + 1) (by omega)]
    · have ok : okN T len i a = true := okN_e.mpr ⟨q1, q2⟩
      rw [po_y n4 p ok]
      refine ⟨x, w', g1, g2, fr2, g5, fr1, fun z => ⟨(g7 z).1, fun j j1 j2 => ?_⟩, g8⟩
      show _ = nI (if j = i then _ else _)
      by_cases ej : j = i
      · rw [if_pos ej, ej, g6 _ (fun j' a1 a2 => by have := hinj j' (by omega) (by omega) a2; omega), W10, if_pos rfl]
      · rw [if_neg ej]
        exact (g7 z).2 j (by omega) j2
  · have nok : ¬ okN T len i a = true := fun z => q2 (okN_e.mp z).2
    rw [if_neg q2, po_n n4 p nok, zb_0, ck_t]
    exact ⟨0, W, rfl, Or.inl rfl, ⟨Wz, W0⟩, W13, fun t h => by rw [W10, if_neg (h i (Nat.le_refl _) (by omega))], fun z => absurd z Bool.false_ne_true, fun _ => Or.inl rfl⟩
theorem PM_base {T : Nat → Nat} {len tm i e : Nat} {w u : mM} {q : Bool × Nat × (Nat → Nat)} {F : Option (Int32 × mM)} (hz : ∀ z, z ≠ 0 → u z = w z) (h0 : ∀ j, j ≠ 13 → u 0 j = w 0 j) (h : PM T len tm u i e q F) : PM T len tm w i e q F := by
  obtain ⟨x, w', g1, g2, ⟨g3, g4⟩, g5, g6, g7, g8⟩ := h
  exact ⟨x, w', g1, g2, ⟨fun z a b => (g3 z a b).trans (hz z a), fun j hj => (g4 j hj).trans (h0 j hj)⟩, g5, fun t ht => (g6 t ht).trans (by rw [hz 10 (by decide)]), g7, g8⟩
/-- a sign and a number are read, then the rest -/
theorem m_sn {T : Nat → Nat} {len tm i e r a : Nat} {w : mM} {c x1 x2 x3 : Int32} {REST : mM → Option (Int32 × mM)} (hT : TXm w T len) (h13 : w 0 13 = nI a) (ha : a ≤ len) (h15 : w 0 15 = nI tm) (ht : 6 * tm + 5 < 168) (hie : i + (r + 1) = e) (he : e ≤ 20) (hinj : ∀ j, j < 20 → i < j → j < e → ¬ pl j = pl i)
    (h4 : ¬ i = 4) (h0 : i ≤ 4 → w 10 (6 * tm + 5) = nI 0) (e0 : c = nI (sgN i)) (e1 : x1 = nI (pl i)) (e2 : x2 = nI (loN i)) (e3 : x3 = nI (hiN i)) (h5 : i < 4 → ¬ pl i = 5)
    (k : ∀ W s, s ≤ len → TXm W T len → W 0 13 = nI s → W 0 15 = nI tm → (i + 1 ≤ 4 → W 10 (6 * tm + 5) = nI 0) → PM T len tm W (i + 1) e (po T len r (i + 1) s) (REST W)) :
    PM T len tm w i e (po T len (r + 1) i a) ((f_X7_takes c w).bind fun r_ => if r_.1 = 0 then ck (zb (0 : Int32)) (some ((0 : Int32), r_.2)) else (f_X7_isNumber x1 x2 x3 r_.2).bind fun r_ => if r_.1 = 0 then ck (zb (0 : Int32)) (some ((0 : Int32), r_.2)) else REST r_.2) := by
  have i20 : i < 20 := by omega
  have n4 : ¬ (i = 4 ∧ ¬ (a < len ∧ T a = 98)) := fun q => h4 q.1
  have n10 : ¬ (1 : Int32) = 0 := by decide
  subst e0
  rw [m_takes hT h13 ha (pt_b i i20).2.2.1]
  by_cases p : a < len ∧ T a = sgN i
  · rw [if_pos p, bnd_s, if_neg n10]
    have hz : ∀ z, z ≠ 0 → up w 0 13 (nI (a + 1)) z = w z := fun z hz => funext fun j => by rw [up_r, if_neg (fun q => hz q.1)]
    have h0j : ∀ j, j ≠ 13 → up w 0 13 (nI (a + 1)) 0 j = w 0 j := fun j hj => by rw [up_r, if_neg (fun q => hj q.2)]
    exact PM_base hz h0j (m_ns (TXm_f (h0j 11 (by omega)) (hz 9 (by omega)) hT) (by rw [up_r, if_pos ⟨rfl, rfl⟩]) (by rw [h0j 15 (by omega)]; exact h15) ht hie he hinj p (fun q => by rw [hz 10 (by omega)]; exact h0 q) e1 e2 e3 h5 (fun W a1 a2 a3 a4 => k W _ (scN_b p.1).2 a1 a2 a3 a4))
  · rw [if_neg p, bnd_s, if_pos rfl, po_x n4 p, zb_0, ck_t]
    exact ⟨0, w, rfl, Or.inl rfl, ⟨fun _ _ _ => rfl, fun _ _ => rfl⟩, h13, fun _ _ => rfl, fun z => absurd z Bool.false_ne_true, fun _ => Or.inl rfl⟩
/-- the break age, which may be wanting -/
theorem m_brkA {T : Nat → Nat} {len tm a : Nat} {w : mM} (hT : TXm w T len) (h13 : w 0 13 = nI a) (ha : a ≤ len) (h15 : w 0 15 = nI tm) (ht : 6 * tm + 5 < 168) (h0 : w 10 (6 * tm + 5) = nI 0) :
    PM T len tm w 4 5 (po T len 1 4 a) ((f_X7_takes 98 w).bind fun r_ => if r_.1 = 0 then ck (zb (1 : Int32)) (some ((1 : Int32), r_.2)) else (f_X7_isNumber 5 12 17 r_.2).bind fun r_ => if r_.1 = 0 then ck (zb (0 : Int32)) (some ((0 : Int32), r_.2)) else ck (zb (1 : Int32)) (some ((1 : Int32), r_.2))) := by
  have n10 : ¬ (1 : Int32) = 0 := by decide
  have e98 : sgN 4 = 98 := rfl
  rw [show (98 : Int32) = nI 98 from rfl, m_takes hT h13 ha (show 98 ≤ 65535 by omega)]
  by_cases p : a < len ∧ T a = 98
  · rw [if_pos p, bnd_s, if_neg n10]
    have hz : ∀ z, z ≠ 0 → up w 0 13 (nI (a + 1)) z = w z := fun z hz => funext fun j => by rw [up_r, if_neg (fun q => hz q.1)]
    have h0j : ∀ j, j ≠ 13 → up w 0 13 (nI (a + 1)) 0 j = w 0 j := fun j hj => by rw [up_r, if_neg (fun q => hj q.2)]
    exact PM_base hz h0j (m_ns (i := 4) (e := 5) (r := 0) (x1 := 5) (x2 := 12) (x3 := 17) (REST := fun W : mM => ck (zb (1 : Int32)) (some ((1 : Int32), W))) (TXm_f (h0j 11 (by omega)) (hz 9 (by omega)) hT) (by rw [up_r, if_pos ⟨rfl, rfl⟩]) (by rw [h0j 15 (by omega)]; exact h15) ht rfl (by omega) (fun j _ a b => absurd b (by omega)) p (fun q => by rw [hz 10 (by omega)]; exact h0) rfl rfl rfl (fun q => absurd q (by omega)) (fun W a1 a2 a3 a4 => PM_end a2))
  · rw [if_neg p, bnd_s, if_pos rfl, po_b ⟨rfl, p⟩, zb_1, ck_t]
    refine ⟨1, w, rfl, Or.inr rfl, ⟨fun _ _ _ => rfl, fun _ _ => rfl⟩, h13, fun _ _ => rfl, fun _ => ⟨rfl, fun j j1 j2 => ?_⟩, fun z => absurd (show true = false from z) (by decide)⟩
    have ej : j = 4 := by omega
    subst ej
    exact h0
theorem m_areT (w : mM) (REST : mM → Option (Int32 × mM)) : ((f_X7_areTold 1 w).bind fun r_ => if r_.1 = 0 then ck (zb (0 : Int32)) (some ((0 : Int32), r_.2)) else REST r_.2) =
    (f_X7_takes 114 w).bind fun r_ => if r_.1 = 0 then ck (zb (0 : Int32)) (some ((0 : Int32), r_.2)) else (f_X7_isNumber 1 0 48 r_.2).bind fun r_ => if r_.1 = 0 then ck (zb (0 : Int32)) (some ((0 : Int32), r_.2)) else
      (f_X7_takes 45 r_.2).bind fun r_ => if r_.1 = 0 then ck (zb (0 : Int32)) (some ((0 : Int32), r_.2)) else (f_X7_isNumber (1 + 1) 0 48 r_.2).bind fun r_ => if r_.1 = 0 then ck (zb (0 : Int32)) (some ((0 : Int32), r_.2)) else REST r_.2 := by
  have n10 : ¬ (1 : Int32) = 0 := by decide
  unfold f_X7_areTold
  cases h1 : f_X7_takes 114 w with
  | none => rfl
  | some r1 =>
    rw [bnd_s, bnd_s]
    by_cases c1 : r1.1 = 0
    · rw [if_pos c1, if_pos c1, zb_0, ck_t, bnd_s, if_pos rfl]
      rfl
    rw [if_neg c1, if_neg c1]
    cases h2 : f_X7_isNumber 1 0 48 r1.2 with
    | none => rfl
    | some r2 =>
      rw [bnd_s, bnd_s]
      by_cases c2 : r2.1 = 0
      · rw [if_pos c2, if_pos c2, zb_0, ck_t, bnd_s, if_pos rfl]
        rfl
      rw [if_neg c2, if_neg c2]
      cases h3 : f_X7_takes 45 r2.2 with
      | none => rfl
      | some r3 =>
        rw [bnd_s, bnd_s]
        by_cases c3 : r3.1 = 0
        · rw [if_pos c3, if_pos c3, zb_0, ck_t, bnd_s, if_pos rfl]
          rfl
        rw [if_neg c3, if_neg c3]
        cases h4 : f_X7_isNumber (1 + 1) 0 48 r3.2 with
        | none => rfl
        | some r4 =>
          rw [bnd_s, bnd_s]
          by_cases c4 : r4.1 = 0
          · rw [if_pos c4, if_pos c4, zb_0, ck_t, bnd_s, if_pos rfl]
            rfl
          · rw [if_neg c4, if_neg c4, zb_1, ck_t, bnd_s, if_neg n10]
