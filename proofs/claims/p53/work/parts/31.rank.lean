/-! PEWS AND DESCANTS: ranks by height, turns of the descant -/
section Rank
variable {v : mC} {o : Nat} {w : mM} {a : Nat → Int32} {D E n m f : Nat} {dd : Nat → Nat}
def rkP (v : mC) (o : Nat) (L : Nat → Int32) (s k : Nat) : Bool := decide (L k = L s ∧ (v (3, o, 0) k < v (3, o, 0) s ∨ (v (3, o, 0) k = v (3, o, 0) s ∧ k < s)))
theorem s_sits (o : Nat) {k s : Nat} (hk : k < 30) (hs : s < 30) (v : mC) : f_X5_sitsBefore o (nI k) (nI s) v = some (b2 (v (3, o, 0) k < v (3, o, 0) s ∨ (v (3, o, 0) k = v (3, o, 0) s ∧ k < s))) := by
  simp (disch := omega) only [f_X5_sitsBefore, qi_inb, qi_ix, ck_t, zb_0, zb_1, qi_nle]
  by_cases h1 : v (3, o, 0) k < v (3, o, 0) s
  · rw [if_pos h1, b2_t (Or.inl h1)]
  · rw [if_neg h1]
    by_cases h2 : v (3, o, 0) k = v (3, o, 0) s
    · rw [if_pos h2]
      by_cases h3 : k < s
      · rw [if_neg (by omega), b2_t (Or.inr ⟨h2, h3⟩)]
      · rw [if_pos (by omega), b2_f (fun q => q.elim h1 (fun q => h3 q.2))]
    · rw [if_neg h2, b2_f (fun q => q.elim h1 (fun q => h2 q.1))]
theorem s_rank (R : Rl v o a D n m f dd) {L : Nat → Int32} (hL : ∀ i, i < 30 → v (36, 0, 0) i = L i) {s : Nat} (hs : s < n) : f_X3_rankByHeight o (nI s) v = some (if L s = -1 then -1 else nI (qc (rkP v o L s) n)) := by
  have hn := R.1.2.1
  have hn1 := R.2.1.2.2.1
  simp (disch := omega) only [f_X3_rankByHeight, qi_inb, qi_ix, ck_t, hL]
  by_cases h : L s = -1
  · rw [if_pos h, if_pos h]
  · rw [if_neg h, if_neg h]
    refine lp_go (fuel := 8192) (ev := fun k (X : Int32 → Int32 → Option Int32) => X (nI (qc (rkP v o L s) k)) (nI k)) n (by omega) (fun k hk self => ?_) (fun self => ?_)
    · show L_X3_rankByHeight_17 o (nI s) v self (nI (qc (rkP v o L s) k)) (nI k) = self (nI (qc (rkP v o L s) k + (if rkP v o L s k then 1 else 0))) (nI (k + 1))
      simp (disch := omega) only [L_X3_rankByHeight_17, hn1, qi_nle, qi_inb, qi_ix, ck_t, hL, s_sits, bnd_s, b2_if, nI_1]
      rw [if_neg (by omega)]
      unfold rkP
      by_cases h1 : L k = L s
      · rw [if_pos h1]
        by_cases h2 : v (3, o, 0) k < v (3, o, 0) s ∨ (v (3, o, 0) k = v (3, o, 0) s ∧ k < s)
        · rw [if_pos h2, if_pos (decide_eq_true ⟨h1, h2⟩)]
        · rw [if_neg h2, if_neg (by simp only [decide_eq_true_eq]; exact fun q => h2 q.2)]
          rfl
      · rw [if_neg h1, if_neg (by simp only [decide_eq_true_eq]; exact fun q => h1 q.1)]
        rfl
    · show L_X3_rankByHeight_17 o (nI s) v self _ (nI n) = _
      simp (disch := omega) only [L_X3_rankByHeight_17, hn1, qi_nle]
      rw [if_pos (Nat.le_refl n)]
theorem m_ahead (R : Rl v o (w 1) D n m f dd) {j s : Nat} (hj : j < f) (hs : s < n) : ∃ w', f_X7_ahead (nI j) (nI s) w = some (if tL v o D n m j (dd j) s = -1 then -1 else nI (qc (rkP v o (tL v o D n m j (dd j)) s) n), w') ∧ (∀ z, z ≠ 5 → z ≠ 6 → z ≠ 7 → w' z = w z) := by
  have hn := R.1.2.1
  have hn1 := R.2.1.2.2.2.1
  obtain ⟨w', h1, h2, h3⟩ := m_tells R hj
  refine ⟨w', ?_, h2⟩
  have hw1 : w' 1 = w 1 := h2 1 (by decide) (by decide) (by decide)
  generalize tL v o D n m j (dd j) = L at *
  have hc := qc_le (fun i => decide (L i = -1)) 30
  simp (disch := omega) only [f_X7_ahead, h1, bnd_s, qi_inb, qi_ix, ck_t, h3]
  rw [if_neg (show ¬ nI (30 - qc (fun i => decide (L i = -1)) 30) < 0 from nI_nlt (b := 0) (Nat.zero_le _) (by omega))]
  by_cases h : L s = -1
  · rw [if_pos h, if_pos h]
  · rw [if_neg h, if_neg h]
    refine lp_go (fuel := 8192) (ev := fun k (X : Int32 → Int32 → Option (Int32 × mM)) => X (nI (qc (rkP v o L s) k)) (nI k)) n (by omega) (fun k hk self => ?_) (fun self => ?_)
    · show L_X7_ahead_25 (nI s) (nI (30 - qc (fun i => decide (L i = -1)) 30), w') self (nI (qc (rkP v o L s) k)) (nI k) = self (nI (qc (rkP v o L s) k + (if rkP v o L s k then 1 else 0))) (nI (k + 1))
      obtain ⟨x, x1, x2, x3⟩ := (R.2.2.1 k hk).2.2.1
      obtain ⟨y, y1, y2, y3⟩ := (R.2.2.1 s hs).2.2.1
      have ek : f_X7_its (nI k) 3 w' = some (nI x) := (m_its (j := 3) (by omega) (by omega) w').trans (by rw [hw1, x2])
      have es : f_X7_its (nI s) 3 w' = some (nI y) := (m_its (j := 3) (by omega) (by omega) w').trans (by rw [hw1, y2])
      have e11 : w' 1 1 = nI n := by rw [hw1]; exact hn1
      simp (disch := omega) only [L_X7_ahead_25, inb_1, ix_1, e11, qi_nle, qi_inb, qi_ix, ck_t, h3, ek, es, bnd_s, nI_1, qi_add0]
      have c1 : (0 : Int32) < nI y - nI x ↔ x < y := by
        rw [qi_lt, qi_subI (by omega) (by omega)]
        show (0 : Int) < _ ↔ _
        omega
      have c2 : nI y - nI x = 0 ↔ x = y := by
        rw [qi_eq, qi_subI (by omega) (by omega)]
        show _ = (0 : Int) ↔ _
        omega
      rw [if_neg (by omega), i2b _ _ c1, i2b _ _ c2]
      unfold rkP
      rw [x3, y3]
      by_cases q : L k = L s
      · rw [if_pos q]
        by_cases h4 : x < y
        · rw [if_pos h4, if_pos (decide_eq_true ⟨q, Or.inl ((qi_nlt (by omega) (by omega)).mpr h4)⟩)]
        · rw [if_neg h4]
          by_cases h5 : x = y
          · rw [if_pos h5]
            by_cases h6 : k < s
            · rw [if_neg (by omega), if_pos (decide_eq_true ⟨q, Or.inr ⟨by rw [h5], h6⟩⟩)]
            · rw [if_pos (by omega), if_neg (by
                simp only [decide_eq_true_eq]
                intro z
                rcases z.2 with z | z
                · rw [qi_nlt (by omega) (by omega)] at z
                  omega
                · exact h6 z.2)]
              rfl
          · rw [if_neg h5, if_neg (by
              simp only [decide_eq_true_eq]
              intro z
              rcases z.2 with z | z
              · rw [qi_nlt (by omega) (by omega)] at z
                omega
              · exact h5 ((qi_neq (by omega) (by omega)).mp z.1))]
            rfl
      · rw [if_neg q, if_neg (by simp only [decide_eq_true_eq]; exact fun z => q z.1)]
        rfl
    · show L_X7_ahead_25 (nI s) (_, w') self _ (nI n) = _
      have e11 : w' 1 1 = nI n := by rw [hw1]; exact hn1
      simp (disch := omega) only [L_X7_ahead_25, inb_1, ix_1, e11, qi_nle, ck_t]
      rw [if_pos (Nat.le_refl n)]
abbrev ahP (tr br : Nat → Int32) (i b : Nat) : Prop := tr i < tr b ∨ (tr i = tr b ∧ br i < br b)
/-- whose turn it is: 99, if nobody's -/
def dsc (L tr br : Nat → Int32) : Nat → Nat
  | 0 => 99
  | k + 1 => if L k = 0 ∧ (dsc L tr br k = 99 ∨ ahP tr br k (dsc L tr br k)) then k else dsc L tr br k
theorem dsc_s (L tr br : Nat → Int32) (k : Nat) : dsc L tr br (k + 1) = if L k = 0 ∧ (dsc L tr br k = 99 ∨ ahP tr br k (dsc L tr br k)) then k else dsc L tr br k := rfl
theorem dsc_lt (L tr br : Nat → Int32) : ∀ k, dsc L tr br k = 99 ∨ dsc L tr br k < k
  | 0 => Or.inl rfl
  | k + 1 => by
    rw [dsc_s]
    split
    · exact Or.inr (by omega)
    · rcases dsc_lt L tr br k with h | h
      · exact Or.inl h
      · exact Or.inr (by omega)
theorem s_older (o : Nat) {k s : Nat} (hk : k < 30) (hs : s < 30) (v : mC) : f_X5_isOlder o (nI k) (nI s) v = some (b2 (v (6, o, 0) k < v (6, o, 0) s)) := by
  simp (disch := omega) only [f_X5_isOlder, qi_inb, qi_ix, ck_t, zb_0, zb_1]
  by_cases h : v (6, o, 0) k < v (6, o, 0) s
  · rw [if_neg (by rw [qi_le]; rw [qi_lt] at h; omega), b2_t h]
  · rw [if_pos (by rw [qi_le]; rw [qi_lt] at h; omega), b2_f h]
theorem s_choose {L tr : Nat → Int32} {k2 : kC} (hn1 : v (2, o, 0) 0 = nI n) (hn : n ≤ 30) (hL : ∀ i, i < n → v (36, 0, 0) i = L i) (ht : ∀ i, i < n → v k2 i = tr i) : f_X3_chooseDescant o k2 v = some (nxI (dsc L tr (v (6, o, 0)) n)) := by
  unfold f_X3_chooseDescant
  refine lp_go (fuel := 8192) (ev := fun k (X : Int32 → Int32 → Option Int32) => X (nxI (dsc L tr (v (6, o, 0)) k)) (nI k)) n (by omega) (fun k hk self => ?_) (fun self => ?_)
  · show L_X3_chooseDescant_5 o k2 v self (nxI (dsc L tr (v (6, o, 0)) k)) (nI k) = self (nxI (dsc L tr (v (6, o, 0)) (k + 1))) (nI (k + 1))
    have ek : nxI k = nI k := if_neg (by omega)
    simp (disch := omega) only [L_X3_chooseDescant_5, hn1, qi_nle, qi_inb, qi_ix, ck_t, hL k hk, ht k hk, nI_1]
    rw [if_neg (by omega), dsc_s]
    by_cases h0 : L k = 0
    · rw [if_pos h0]
      rcases dsc_lt L tr (v (6, o, 0)) k with h1 | h1
      · rw [h1, if_pos (show nxI 99 = -1 from rfl), if_pos (show L k = 0 ∧ (99 = 99 ∨ _) from ⟨h0, Or.inl rfl⟩), ek]
      · generalize dsc L tr (v (6, o, 0)) k = b at h1
        have eb : nxI b = nI b := if_neg (by omega)
        rw [eb, if_neg (qi_nM (by omega))]
        simp (disch := omega) only [qi_inb, qi_ix, ck_t, ht b (by omega), s_older, bnd_s, b2_if]
        by_cases h2 : tr k < tr b
        · rw [if_pos h2, if_pos ⟨h0, Or.inr (Or.inl h2)⟩, ek]
        · rw [if_neg h2]
          by_cases h3 : tr k = tr b
          · rw [if_pos h3]
            by_cases h4 : v (6, o, 0) k < v (6, o, 0) b
            · rw [if_pos h4, if_pos ⟨h0, Or.inr (Or.inr ⟨h3, h4⟩)⟩, ek]
            · rw [if_neg h4, if_neg (by
                rintro ⟨-, z | z | z⟩
                · omega
                · exact h2 z
                · exact h4 z.2), eb]
          · rw [if_neg h3, if_neg (by
              rintro ⟨-, z | z | z⟩
              · omega
              · exact h2 z
              · exact h3 z.1), eb]
    · rw [if_neg h0, if_neg (fun z => h0 z.1)]
  · show L_X3_chooseDescant_5 o k2 v self _ (nI n) = _
    simp (disch := omega) only [L_X3_chooseDescant_5, hn1, qi_nle]
    rw [if_pos (Nat.le_refl n)]
theorem m_isAhead (R : RlE v o (w 1) D E n m f dd) {tr : Nat → Int32} {i b : Nat} (hi : i < n) (hb : b < n) (hti : w 8 i = tr i) (htb : w 8 b = tr b) : f_X7_isAhead (nI i) (nI b) w = some (b2 (ahP tr (v (6, o, 0)) i b)) := by
  have hn := R.1.2.1
  have hD := R.1.1
  obtain ⟨y1, B1, a1, a2, a3, a4, a5, a6⟩ := (R.2.2.1 i hi).2.1
  obtain ⟨y2, B2, c1, c2, c3, c4, c5, c6⟩ := (R.2.2.1 b hb).2.1
  have i1 : f_X7_its (nI i) 1 w = some (nI y1) := (m_its (j := 1) (by omega) (by omega) w).trans (by rw [a4])
  have i2 : f_X7_its (nI i) 2 w = some (nI B1) := (m_its (j := 2) (by omega) (by omega) w).trans (by rw [a5])
  have b1 : f_X7_its (nI b) 1 w = some (nI y2) := (m_its (j := 1) (by omega) (by omega) w).trans (by rw [c4])
  have b3 : f_X7_its (nI b) 2 w = some (nI B2) := (m_its (j := 2) (by omega) (by omega) w).trans (by rw [c5])
  simp (disch := omega) only [f_X7_isAhead, qi_inb, qi_ix, ck_t, zb_0, zb_1, hti, htb, i1, i2, b1, b3, bnd_s]
  have key : (360 : Int32) * nI y1 - nI B1 ≤ 360 * nI y2 - nI B2 ↔ ¬ v (6, o, 0) i < v (6, o, 0) b := by
    rw [a6, c6, show (360 : Int32) = nI 360 from rfl, qi_mul, qi_mul, qi_le, qi_lt, qi_subI (by omega) (by omega), qi_subI (by omega) (by omega), qi_subI (by omega) (by omega), qi_subI (by omega) (by omega)]
    omega
  by_cases h : tr i = tr b
  · rw [if_pos h, i2b _ _ key]
    by_cases h2 : v (6, o, 0) i < v (6, o, 0) b
    · rw [if_neg (fun q => q h2), b2_t (Or.inr ⟨h, h2⟩)]
    · rw [if_pos h2, b2_f]
      rintro (z | z)
      · rw [h, qi_lt] at z
        omega
      · exact h2 z.2
  · rw [if_neg h]
    by_cases h2 : tr i < tr b
    · rw [if_neg (by rw [qi_le]; rw [qi_lt] at h2; omega), b2_t (Or.inl h2)]
    · rw [if_pos (by rw [qi_le]; rw [qi_lt] at h2; omega), b2_f]
      rintro (z | z)
      · exact h2 z
      · exact h z.1
theorem m_desc (R : RlE v o (w 1) D E n m f dd) {L tr : Nat → Int32} (hL : ∀ i, i < n → w 5 i = L i) (ht : ∀ i, i < n → w 8 i = tr i) : f_X7_descants w = some (nxI (dsc L tr (v (6, o, 0)) n)) := by
  have hn := R.1.2.1
  have hn1 := R.2.1.2.2.2.1
  unfold f_X7_descants
  refine lp_go (fuel := 8192) (ev := fun k (X : Int32 → Int32 → Option Int32) => X (nxI (dsc L tr (v (6, o, 0)) k)) (nI k)) n (by omega) (fun k hk self => ?_) (fun self => ?_)
  · show L_X7_descants_4 w self (nxI (dsc L tr (v (6, o, 0)) k)) (nI k) = self (nxI (dsc L tr (v (6, o, 0)) (k + 1))) (nI (k + 1))
    have ek : nxI k = nI k := if_neg (by omega)
    have n10 : ¬ (1 : Int32) = 0 := by decide
    simp (disch := omega) only [L_X7_descants_4, inb_1, ix_1, hn1, qi_nle, qi_inb, qi_ix, ck_t, hL k hk, nI_1, jn_e, n10, if_true, if_false]
    rw [if_neg (by omega), dsc_s]
    by_cases h0 : L k = 0
    · rw [if_pos h0]
      rcases dsc_lt L tr (v (6, o, 0)) k with h1 | h1
      · rw [h1, if_pos (show nxI 99 = -1 from rfl), if_pos (show L k = 0 ∧ (99 = 99 ∨ _) from ⟨h0, Or.inl rfl⟩), ek]
      · generalize dsc L tr (v (6, o, 0)) k = b at h1
        have eb : nxI b = nI b := if_neg (by omega)
        rw [eb, if_neg (qi_nM (by omega)), m_isAhead R (tr := tr) hk (by omega) (ht k hk) (ht b (by omega)), bnd_s, b2_if]
        by_cases h2 : ahP tr (v (6, o, 0)) k b
        · rw [if_pos h2, if_pos ⟨h0, Or.inr h2⟩, ek]
        · rw [if_neg h2, if_neg (by
            rintro ⟨-, z | z⟩
            · omega
            · exact h2 z), eb]
    · rw [if_neg h0, if_neg (fun z => h0 z.1)]
  · show L_X7_descants_4 w self _ (nI n) = _
    simp (disch := omega) only [L_X7_descants_4, inb_1, ix_1, hn1, qi_nle, ck_t]
    rw [if_pos (Nat.le_refl n)]
theorem m_turns (R : RlE v o (w 1) D E n m f dd) : f_X7_readsTurns w = some (rowT w 8 (v (13, o, 0)) n) := by
  have hn := R.1.2.1
  have hn1 := R.2.1.2.2.2.1
  have key : lp (fun _ _ => none) L_X7_readsTurns_2 8192 (nI 0) (rowT w 8 (v (13, o, 0)) 0) = some (rowT w 8 (v (13, o, 0)) n) := by
    refine lp_go (fuel := 8192) (ev := fun k (X : Int32 → mM → Option mM) => X (nI k) (rowT w 8 (v (13, o, 0)) k)) n (by omega) (fun k hk self => ?_) (fun self => ?_)
    · show L_X7_readsTurns_2 self (nI k) (rowT w 8 (v (13, o, 0)) k) = self (nI (k + 1)) (rowT w 8 (v (13, o, 0)) (k + 1))
      have h1 : ∀ i, rowT w 8 (v (13, o, 0)) k 1 i = w 1 i := fun i => rowT_ne _ _ _ _ (by decide)
      obtain ⟨-, -, -, -, -, -, -, -, -, -, r12⟩ := R.2.2.1 k hk
      have e : f_X7_its (nI k) 12 (rowT w 8 (v (13, o, 0)) k) = some (v (13, o, 0) k) := (m_its (j := 12) (by omega) (by omega) _).trans (by rw [h1, r12])
      simp (disch := omega) only [L_X7_readsTurns_2, inb_1, ix_1, h1, hn1, qi_nle, ck_t, e, bnd_s, qi_inb, qi_ix, lt_e, nI_1]
      rw [if_neg (by omega), rowT_s]
    · show L_X7_readsTurns_2 self (nI n) _ = _
      have h1 : ∀ i, rowT w 8 (v (13, o, 0)) n 1 i = w 1 i := fun i => rowT_ne _ _ _ _ (by decide)
      simp (disch := omega) only [L_X7_readsTurns_2, inb_1, ix_1, h1, hn1, qi_nle, ck_t]
      rw [if_pos (Nat.le_refl n)]
  rw [rowT_0] at key
  exact key
end Rank
