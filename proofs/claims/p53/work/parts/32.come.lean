/-! FEASTS TO COME, one after the other: the descant to come, the first short feast, the needed line -/
abbrev CF (v v' : mC) : Prop := ∀ z : kC, z.1 < 36 → v' z = v z
abbrev MF (w w' : mM) : Prop := ∀ z : Nat, (z < 5 ∨ 8 < z) → w' z = w z
theorem CF_t {u v x : mC} (h1 : CF u v) (h2 : CF v x) : CF u x := fun z hz => (h2 z hz).trans (h1 z hz)
theorem MF_t {u v x : mM} (h1 : MF u v) (h2 : MF v x) : MF u x := fun z hz => (h2 z hz).trans (h1 z hz)
theorem Rl_F {v v' : mC} {o : Nat} {w w' : mM} {D E n m f : Nat} {dd : Nat → Nat} (R : RlE v o (w 1) D E n m f dd) (h1 : CF v v') (h2 : w' 1 = w 1) : RlE v' o (w' 1) D E n m f dd :=
  Rl_x (Ag_eq (o := o) fun k j i _ hk => by rw [h1 (k, o, j) (by show k < 36; omega)]) (fun i _ => by rw [h2]) R
theorem qc_imp {p q : Nat → Bool} : ∀ {n : Nat}, (∀ k, k < n → p k = true → q k = true) → qc p n ≤ qc q n
  | 0, _ => Nat.le_refl _
  | n + 1, h => by
    have h1 := qc_imp (p := p) (q := q) (n := n) (fun k hk => h k (by omega))
    have h2 := h n (by omega)
    rw [qc_s, qc_s]
    by_cases e : p n = true
    · rw [if_pos e, if_pos (h2 e)]; omega
    · rw [if_neg e]; omega
theorem qc_lt {p q : Nat → Bool} : ∀ {n : Nat}, (∀ k, k < n → p k = true → q k = true) → (∃ k, k < n ∧ q k = true ∧ p k = false) → qc p n < qc q n
  | 0, _, ⟨k, hk, _⟩ => absurd hk (Nat.not_lt_zero k)
  | n + 1, h, ⟨k, hk, h1, h2⟩ => by
    rw [qc_s, qc_s]
    by_cases e : k = n
    · have h3 := qc_imp (p := p) (q := q) (n := n) (fun k hk => h k (by omega))
      rw [← e, if_pos h1, h2]
      rw [← e] at h3
      simp
      omega
    · have h3 := qc_lt (p := p) (q := q) (n := n) (fun k hk => h k (by omega)) ⟨k, by omega, h1, h2⟩
      have h4 := h n (by omega)
      by_cases e2 : p n = true
      · rw [if_pos e2, if_pos (h4 e2)]; omega
      · rw [if_neg e2]; omega
/-- how many feasts are to come behind a day -/
def rem (dd : Nat → Nat) (f d : Nat) : Nat := qc (fun j => decide (d < dd j)) f
theorem rem_lt {dd : Nat → Nat} {f d j : Nat} (hj : j < f) (h : d < dd j) : rem dd f (dd j) < rem dd f d :=
  qc_lt (fun k _ hk => by
    have := of_decide_eq_true hk
    exact decide_eq_true (by omega)) ⟨j, hj, decide_eq_true h, decide_eq_false (by omega)⟩
theorem rem_pos {dd : Nat → Nat} {f d j : Nat} (hj : j < f) (h : d < dd j) : 0 < rem dd f d := qc_pos.mpr ⟨j, hj, decide_eq_true h⟩
theorem rem_le (dd : Nat → Nat) (f d : Nat) : rem dd f d ≤ f := qc_le _ _
section Come
variable {o : Nat} {D n m f : Nat} {dd : Nat → Nat}
theorem dtc {j : Nat} (hj : j < f) : ∀ (q d : Nat) (v : mC) (w : mM) (i f1 f2 : Nat) (s : Int32), rem dd f d ≤ q → q + i ≤ 20 → q < f1 → q + 1 < f2 → D ≤ d → d < dd j → Rl v o (w 1) D n m f dd → (∀ k, k < n → w 8 k = v (40, 0, 0) k) →
    ∃ r v' w', lp (fun _ _ _ => none) (L_X3_descantToCome_33 o (nI j)) f1 (nxI (nx dd d f)) (nI i) v = some (r, v') ∧ lp (fun _ _ _ => none) (L_X7_descantToCome_13 (nI j)) f2 (nI d) s w = some (r, w') ∧ CF v v' ∧ MF w w'
  | 0, d, v, w, i, f1, f2, s, hq, _, _, _, _, hdj, R, _ => by
    have := rem_pos hj hdj
    omega
  | q + 1, d, v, w, i, f1, f2, s, hq, hi, hf1, hf2, hDd, hdj, R, ht => by
    have hn := R.1.2.1
    have hf := R.1.2.2.2
    obtain ⟨f1, rfl⟩ : ∃ x, f1 = x + 1 := ⟨f1 - 1, by omega⟩
    obtain ⟨f2, rfl⟩ : ∃ x, f2 = x + 1 := ⟨f2 - 1, by omega⟩
    have hd9 := (R.2.2.2.2.1 j hj).1
    rcases nx_spec dd d f hf with ⟨a1, a2⟩ | ⟨a1, a2, a3⟩
    · have := a2 j hj
      omega
    generalize hb : nx dd d f = b at a1 a2 a3
    have hbI : nxI b = nI b := if_neg (by omega)
    have hbj := a3 j hj hdj
    obtain ⟨v1, s1, s2, s3, s4⟩ := s_make R a1
    obtain ⟨w1, m1, m2, m3⟩ := m_linesUp R a1 (by omega)
    have R1 : Rl v1 o (w1 1) D n m f dd := Rl_F R s2 (m2 1 (by decide) (by decide) (by decide))
    generalize hc : dsc (fL v o n m b (nI (dd b))) (v (40, 0, 0)) (v1 (6, o, 0)) n = c
    have hch : f_X3_chooseDescant o (40, 0, 0) v1 = some (nxI c) := by
      rw [← hc]
      exact s_choose R1.2.1.2.2.1 hn (fun k hk => s4 k (by omega)) (fun k _ => by rw [s3 (40, 0, 0) rfl])
    have hde : f_X7_descants w1 = some (nxI c) := by
      rw [← hc]
      exact m_desc R1 (fun k hk => m3 k (by omega)) (fun k hk => by rw [m2 8 (by decide) (by decide) (by decide)]; exact ht k hk)
    have hclt : c = 99 ∨ c < n := by rw [← hc]; exact dsc_lt _ _ _ n
    have hday : f_X7_dayAt (nI j) w = some (nI (dd j)) := (m_dayAt (by omega) w).trans (by rw [hd9.2.2.1])
    have hdayb : f_X7_dayAt (nI b) w = some (nI (dd b)) := (m_dayAt (by omega) w).trans (by rw [(R.2.2.2.2.1 b a1).1.2.2.1])
    have hnx : f_X7_nextFeast (nI d) w = some (nI b) := by rw [m_next R (by omega), hb, hbI]
    have h0f : (0 : Int32) ≤ nI (fC v o n m b (nI (dd b))) := nI_le (a := 0) (Nat.zero_le _) (by
      have := fC_eq v o n m b (nI (dd b)) hn
      omega)
    -- the next states
    obtain ⟨v2, hv2⟩ : ∃ v2, v2 = if c = 99 then v1 else up v1 (40, 0, 0) c (v1 (40, 0, 0) c + 1) := ⟨_, rfl⟩
    obtain ⟨w2, hw2⟩ : ∃ w2, w2 = if c = 99 then w1 else up w1 8 c (w1 8 c + 1) := ⟨_, rfl⟩
    have cf2 : CF v v2 := fun z hz => by
      rw [hv2, ← s2 z hz]
      by_cases e : c = 99
      · rw [if_pos e]
      · rw [if_neg e]
        funext i
        rw [up_r, if_neg (fun q => by rw [q.1] at hz; exact absurd hz (by decide))]
    have mf1 : MF w w1 := fun z hz => m2 z (by omega) (by omega) (by omega)
    have mf2 : MF w w2 := fun z hz => by
      rw [hw2, ← mf1 z hz]
      by_cases e : c = 99
      · rw [if_pos e]
      · rw [if_neg e]
        funext i
        rw [up_r, if_neg (fun q => by omega)]
    have R2 : Rl v2 o (w2 1) D n m f dd := Rl_F R cf2 (mf2 1 (by omega))
    have ht2 : ∀ k, k < n → w2 8 k = v2 (40, 0, 0) k := fun k hk => by
      have e1 : w1 8 k = v1 (40, 0, 0) k := by rw [m2 8 (by decide) (by decide) (by decide), s3 (40, 0, 0) rfl]; exact ht k hk
      rw [hw2, hv2]
      by_cases e : c = 99
      · rw [if_pos e, if_pos e]; exact e1
      · rw [if_neg e, if_neg e, up_r, up_r]
        by_cases e2 : k = c
        · rw [if_pos ⟨rfl, e2⟩, if_pos ⟨rfl, e2⟩, ← e2, e1]
        · rw [if_neg (fun q => e2 q.2), if_neg (fun q => e2 q.2)]
          exact e1
    -- the reference's step
    have hM : lp (fun _ _ _ => none) (L_X7_descantToCome_13 (nI j)) (f2 + 1) (nI d) s w = lp (fun _ _ _ => none) (L_X7_descantToCome_13 (nI j)) f2 (nI (dd b)) (nxI c) w2 := by
      show L_X7_descantToCome_13 (nI j) (lp (fun _ _ _ => none) (L_X7_descantToCome_13 (nI j)) f2) (nI d) s w = _
      generalize lp (fun _ _ _ => none) (L_X7_descantToCome_13 (nI j)) f2 = self
      simp (disch := omega) only [L_X7_descantToCome_13, hday, bnd_s, qi_nle, jn_e, hnx, hdayb, m1, hde]
      rw [if_neg (by omega), if_pos h0f]
      by_cases e : c = 99
      · rw [if_pos (show nxI c = -1 by rw [e]; rfl), hw2, if_pos e]
      · have ec : nxI c = nI c := if_neg e
        rw [ec, if_neg (qi_nM (by omega)), hw2, if_neg e]
        simp (disch := omega) only [qi_inb, qi_ix, ck_t, lt_e]
    have hC : lp (fun _ _ _ => none) (L_X3_descantToCome_33 o (nI j)) (f1 + 1) (nxI b) (nI i) v = if b = j then some (nxI c, v1) else lp (fun _ _ _ => none) (L_X3_descantToCome_33 o (nI j)) f1 (nxI (nx dd (dd b) f)) (nI (i + 1)) v2 := by
      show L_X3_descantToCome_33 o (nI j) (lp (fun _ _ _ => none) (L_X3_descantToCome_33 o (nI j)) f1) (nxI b) (nI i) v = _
      generalize lp (fun _ _ _ => none) (L_X3_descantToCome_33 o (nI j)) f1 = self
      have hnx2 : f_X1_nextAfter o (nI (dd b)) v2 = some (nxI (nx dd (dd b) f)) := s_next R2 (by omega)
      have hv19 : v2 (19, o, 0) b = nI (dd b) := (R2.2.2.2.2.1 b a1).1.2.2.2
      rw [hbI]
      simp (disch := omega) only [L_X3_descantToCome_33, s1, hch, bnd_s, jn_e, nI_1]
      rw [if_neg (show ¬ (20 : Int32) ≤ nI i from nI_ge (b := 20) (by omega) (by omega)), if_neg (qi_nM (by omega)), i2b _ _ (qi_neq (a := b) (b := j) (by omega) (by omega))]
      by_cases e3 : b = j
      · rw [if_pos e3, if_pos e3]
      · rw [if_neg e3, if_neg e3]
        by_cases e : c = 99
        · rw [if_pos e] at hv2
          rw [if_pos (show nxI c = -1 by rw [e]; rfl), ← hv2]
          simp (disch := omega) only [qi_inb, qi_ix, ck_t, hv19, hnx2, bnd_s]
        · rw [if_neg e] at hv2
          have ec : nxI c = nI c := if_neg e
          rw [ec, if_neg (qi_nM (by omega))]
          simp (disch := omega) only [qi_inb, qi_ix, ck_t, lt_e, ← hv2, hv19, hnx2, bnd_s]
    rw [hM, hC]
    by_cases e3 : b = j
    · rw [if_pos e3]
      refine ⟨nxI c, v1, w2, rfl, ?_, s2, mf2⟩
      obtain ⟨f2, rfl⟩ : ∃ x, f2 = x + 1 := ⟨f2 - 1, by omega⟩
      show L_X7_descantToCome_13 (nI j) (lp (fun _ _ _ => none) (L_X7_descantToCome_13 (nI j)) f2) (nI (dd b)) (nxI c) w2 = _
      have hday2 : f_X7_dayAt (nI j) w2 = some (nI (dd j)) := (m_dayAt (by omega) w2).trans (by rw [(R2.2.2.2.2.1 j hj).1.2.2.1])
      simp (disch := omega) only [L_X7_descantToCome_13, hday2, bnd_s, qi_nle]
      rw [if_pos (by rw [e3]; exact Nat.le_refl _)]
    · rw [if_neg e3]
      have hne : dd b ≠ dd j := fun e => e3 (R.2.2.2.2.2.1 b j a1 hj e)
      have hr := rem_lt a1 a2
      obtain ⟨r, v', w', g1, g2, g3, g4⟩ := dtc hj q (dd b) v2 w2 (i + 1) f1 f2 (nxI c) (by omega) (by omega) (by omega) (by omega) (by omega) (by omega) R2 ht2
      exact ⟨r, v', w', g1, g2, CF_t cf2 g3, MF_t mf2 g4⟩
theorem come_eq {v : mC} {w : mM} (R : Rl v o (w 1) D n m f dd) {j : Nat} (hj : j < f) (hd : D < dd j) : ∃ r v' w', f_X3_descantToCome o (nI j) v = some (r, v') ∧ f_X7_descantToCome (nI j) w = some (r, w') ∧ CF v v' ∧ MF w w' := by
  have hn := R.1.2.1
  have hf := R.1.2.2.2
  have hD := R.1.1
  have c30 : cpo (0 : Int32) (0 : Int32) (30 : Int32) 30 30 = true := by decide
  have i0 : ix (0 : Int32) = 0 := rfl
  have i30 : ix (30 : Int32) = 30 := rfl
  generalize hv1 : upA v (40, 0, 0) (va_cpy (v (13, o, 0)) (v (40, 0, 0)) 0 0 30) = v1
  have cf1 : CF v v1 := fun z hz => funext fun i => by
    rw [← hv1, upA_r, if_neg (fun q => by rw [q] at hz; exact absurd hz (by decide))]
  have mf1 : MF w (rowT w 8 (v (13, o, 0)) n) := fun z hz => funext fun i => rowT_ne _ _ _ _ (by omega)
  have R1 : Rl v1 o (rowT w 8 (v (13, o, 0)) n 1) D n m f dd := Rl_F R cf1 (mf1 1 (by omega))
  have hr := rem_le dd f D
  obtain ⟨r, v', w', g1, g2, g3, g4⟩ := dtc hj (rem dd f D) D v1 (rowT w 8 (v (13, o, 0)) n) 0 8192 8192 (-1) (Nat.le_refl _) (by omega) (by omega) (by omega) (Nat.le_refl _) hd R1 (fun k hk => by
    rw [rowT_in _ _ _ hk, ← hv1, upA_r, if_pos rfl, cpy_r, if_pos (by omega)])
  refine ⟨r, v', w', ?_, ?_, CF_t cf1 g3, MF_t mf1 g4⟩
  · have hnx : f_X1_nextAfter o (nI D) v1 = some (nxI (nx dd D f)) := s_next R1 (by omega)
    simp (disch := omega) only [f_X3_descantToCome, c30, i0, i30, ck_t, lt_e, hv1, R1.2.1.1, hnx, bnd_s]
    exact g1
  · simp only [f_X7_descantToCome, m_turns R, bnd_s, inb_0, ix_0, ck_t, R1.2.1.2.1]
    exact g2
theorem fsf : ∀ (q d : Nat) (v : mC) (w : mM) (i f1 f2 : Nat), rem dd f d ≤ q → q + i ≤ 20 → q < f1 → q < f2 → D ≤ d → d ≤ 9999 → Rl v 0 (w 1) D n m f dd →
    ∃ r v' w', lp (fun _ _ _ => none) L_X6_firstShortFeast_20 f1 (nxI (nx dd d f)) (nI i) v = some (r, v') ∧ lp (fun _ _ => none) L_X7_firstShortFeast_16 f2 (nxI (nx dd d f)) w = some (r, w') ∧ CF v v' ∧ MF w w' := by
  intro q
  induction q with
  | zero =>
    intro d v w i f1 f2 hq hi hf1 hf2 hDd hd9 R
    have hf := R.1.2.2.2
    obtain ⟨f1, rfl⟩ : ∃ x, f1 = x + 1 := ⟨f1 - 1, by omega⟩
    obtain ⟨f2, rfl⟩ : ∃ x, f2 = x + 1 := ⟨f2 - 1, by omega⟩
    rcases nx_spec dd d f hf with ⟨a1, a2⟩ | ⟨a1, a2, a3⟩
    · refine ⟨-1, v, w, ?_, ?_, fun z _ => rfl, fun z _ => rfl⟩
      · show L_X6_firstShortFeast_20 _ (nxI (nx dd d f)) (nI i) v = _
        unfold L_X6_firstShortFeast_20
        rw [a1, if_pos (show nxI 99 = -1 from rfl)]
        split <;> rfl
      · show L_X7_firstShortFeast_16 _ (nxI (nx dd d f)) w = _
        unfold L_X7_firstShortFeast_16
        rw [a1, if_pos (show nxI 99 = -1 from rfl)]
        rfl
    · have := rem_pos a1 a2
      omega
  | succ q ih =>
    intro d v w i f1 f2 hq hi hf1 hf2 hDd hd9 R
    have hn := R.1.2.1
    have hf := R.1.2.2.2
    obtain ⟨f1, rfl⟩ : ∃ x, f1 = x + 1 := ⟨f1 - 1, by omega⟩
    obtain ⟨f2, rfl⟩ : ∃ x, f2 = x + 1 := ⟨f2 - 1, by omega⟩
    rcases nx_spec dd d f hf with ⟨a1, a2⟩ | ⟨a1, a2, a3⟩
    · refine ⟨-1, v, w, ?_, ?_, fun z _ => rfl, fun z _ => rfl⟩
      · show L_X6_firstShortFeast_20 _ (nxI (nx dd d f)) (nI i) v = _
        unfold L_X6_firstShortFeast_20
        rw [a1, if_pos (show nxI 99 = -1 from rfl)]
        split <;> rfl
      · show L_X7_firstShortFeast_16 _ (nxI (nx dd d f)) w = _
        unfold L_X7_firstShortFeast_16
        rw [a1, if_pos (show nxI 99 = -1 from rfl)]
        rfl
    · generalize hb : nx dd d f = b at a1 a2 a3
      have hbI : nxI b = nI b := if_neg (by omega)
      have hb9 := (R.2.2.2.2.1 b a1).1
      have hS := s_lackN R a1
      obtain ⟨w1, m1, m2, -⟩ := m_missing R a1 (by omega)
      generalize hX : lackS (fM v 0 m b (nI (dd b))) n (fP v 0 b) = X at hS m1
      have hX24 : X ≤ 24 := by
        rw [← hX]
        exact Nat.le_trans (Nat.sub_le _ _) (lack_le (fM v 0 m b (nI (dd b))) n (fun l hl => (fP_ok R a1 hl).1)).1
      generalize hv1 : rowT v (37, 0, 0) (fun s => nI (fM v 0 m b (nI (dd b)) s)) n = v1 at hS
      have cf1 : CF v v1 := fun z hz => funext fun i => by
        rw [← hv1, rowT_ne _ _ _ _ (fun q => by rw [q] at hz; exact absurd hz (by decide))]
      have mf1 : MF w w1 := fun z hz => m2 z (by omega) (by omega)
      have R1 : Rl v1 0 (w1 1) D n m f dd := Rl_F R cf1 (mf1 1 (by omega))
      have hnx2 : f_X1_nextAfter 0 (nI (dd b)) v1 = some (nxI (nx dd (dd b) f)) := s_next R1 (by omega)
      have hv19 : v1 (19, 0, 0) b = nI (dd b) := (R1.2.2.2.2.1 b a1).1.2.2.2
      have hC : lp (fun _ _ _ => none) L_X6_firstShortFeast_20 (f1 + 1) (nxI b) (nI i) v = if X = 0 then lp (fun _ _ _ => none) L_X6_firstShortFeast_20 f1 (nxI (nx dd (dd b) f)) (nI (i + 1)) v1 else some (nI b, v1) := by
        show L_X6_firstShortFeast_20 (lp (fun _ _ _ => none) L_X6_firstShortFeast_20 f1) (nxI b) (nI i) v = _
        generalize lp (fun _ _ _ => none) L_X6_firstShortFeast_20 f1 = self
        rw [hbI]
        simp (disch := omega) only [L_X6_firstShortFeast_20, hS, bnd_s, qi_inb, qi_ix, ck_t, hv19, hnx2, nI_1]
        rw [if_neg (show ¬ (20 : Int32) ≤ nI i from nI_ge (b := 20) (by omega) (by omega)), if_neg (qi_nM (by omega))]
        by_cases e : X = 0
        · rw [if_pos (show nI X ≤ 0 from nI_le (b := 0) (by omega) (by omega)), if_pos e]
        · rw [if_neg (show ¬ nI X ≤ 0 from nI_ge (a := 0) (by omega) (by omega)), if_neg e]
      have hM : lp (fun _ _ => none) L_X7_firstShortFeast_16 (f2 + 1) (nxI b) w = if X = 0 then lp (fun _ _ => none) L_X7_firstShortFeast_16 f2 (nxI (nx dd (dd b) f)) w1 else some (nI b, w1) := by
        show L_X7_firstShortFeast_16 (lp (fun _ _ => none) L_X7_firstShortFeast_16 f2) (nxI b) w = _
        generalize lp (fun _ _ => none) L_X7_firstShortFeast_16 f2 = self
        have hdayb : f_X7_dayAt (nI b) w1 = some (nI (dd b)) := (m_dayAt (by omega) w1).trans (by rw [(R1.2.2.2.2.1 b a1).1.2.2.1])
        have hnx : f_X7_nextFeast (nI (dd b)) w1 = some (nxI (nx dd (dd b) f)) := m_next R1 (by omega)
        rw [hbI]
        simp (disch := omega) only [L_X7_firstShortFeast_16, m1, bnd_s, hdayb, hnx]
        rw [if_neg (qi_nM (by omega)), i2b _ _ (qi_n0 X (by omega))]
      rw [hC, hM]
      by_cases e : X = 0
      · rw [if_pos e, if_pos e]
        have hr := rem_lt a1 a2
        obtain ⟨r, v', w', g1, g2, g3, g4⟩ := ih (dd b) v1 w1 (i + 1) f1 f2 (by omega) (by omega) (by omega) (by omega) (by omega) (by omega) R1
        exact ⟨r, v', w', g1, g2, CF_t cf1 g3, MF_t mf1 g4⟩
      · rw [if_neg e, if_neg e]
        exact ⟨nI b, v1, w1, rfl, rfl, cf1, mf1⟩
/-- the class's needed line -/
theorem s_needL {v : mC} {w : mM} (R : Rl v 0 (w 1) D n m f dd) {j : Nat} (hj : j < f) : ∃ v', lp (fun _ _ => none) (L_X6_neededLine_40 (nI j) (nI (lackS (fM v 0 m j (nI (dd j))) n (fP v 0 j)), rowT v (37, 0, 0) (fun s => nI (fM v 0 m j (nI (dd j)) s)) n)) 8192 (nI 0) (rowT v (37, 0, 0) (fun s => nI (fM v 0 m j (nI (dd j)) s)) n) = some (if qf (ndC (fM v 0 m j (nI (dd j))) n (fP v 0 j)) 4 < 4 then nI (qf (ndC (fM v 0 m j (nI (dd j))) n (fP v 0 j)) 4) else -1, 0, v') ∧ CF v v' := by
  have hf := R.1.2.2.2
  have hn := R.1.2.1
  generalize hX : lackS (fM v 0 m j (nI (dd j))) n (fP v 0 j) = X
  have hX24 : X ≤ 24 := by
    rw [← hX]
    exact Nat.le_trans (Nat.sub_le _ _) (lack_le (fM v 0 m j (nI (dd j))) n (fun l hl => (fP_ok R hj hl).1)).1
  generalize hv1 : rowT v (37, 0, 0) (fun s => nI (fM v 0 m j (nI (dd j)) s)) n = v1
  have cf1 : CF v v1 := fun z hz => funext fun i => by
    rw [← hv1, rowT_ne _ _ _ _ (fun q => by rw [q] at hz; exact absurd hz (by decide))]
  have R1 : Rl v1 0 (w 1) D n m f dd := Rl_F (w' := w) R cf1 rfl
  have eM : fM v1 0 m j (nI (dd j)) = fM v 0 m j (nI (dd j)) := funext fun s => by
    show mskC v1 0 m j s (nI (dd j)) = mskC v 0 m j s (nI (dd j))
    unfold mskC
    rw [hnd_c (u := v1) (v := v) (fun k i hk => by rw [cf1 (k, 0, 0) (by show k < 36; omega)])]
    by_cases e : hnd v 0 s m (nI (dd j)) = 0
    · rw [if_pos e, if_pos e]
      refine mkP_c fun l _ => ?_
      rw [mis_c (u := v1) (v := v) (fun k q i hk => by rw [cf1 (k, 0, q) (by show k < 36; omega)])]
    · rw [if_neg e, if_neg e]
  have eP : fP v1 0 j = fP v 0 j := funext fun l => by
    show ix (v1 (26, 0, j) l) = ix (v (26, 0, j) l)
    rw [cf1 (26, 0, j) (by show 26 < 36; omega)]
  have same : rowT v1 (37, 0, 0) (fun s => nI (fM v 0 m j (nI (dd j)) s)) n = v1 := by
    rw [← hv1]
    funext z i
    unfold rowT
    by_cases e : z = (37, 0, 0) ∧ i < n
    · rw [if_pos e, if_pos e]
    · rw [if_neg e, if_neg e]
  have hlk : ∀ l, l < 4 → 0 < fP v 0 j l → f_X3_lackBySets 0 (nI j) (nI l) v1 = some (nI (lackS (fM v 0 m j (nI (dd j))) n (opL (fP v 0 j) l)), v1) := fun l hl hp => by
    have h := s_lackL R1 hj hl (by rw [eP]; exact hp)
    rw [eM, eP, same] at h
    exact h
  have hP26 : ∀ l, l < 4 → v1 (26, 0, j) l = nI (fP v 0 j l) ∧ fP v 0 j l ≤ 6 := fun l hl => by
    have h := fP_ok R1 hj hl
    rw [eP] at h
    exact ⟨h.2.1, h.1⟩
  generalize hM : fM v 0 m j (nI (dd j)) = M at *
  generalize hP : fP v 0 j = P at *
  have hq := qf_le (ndC M n P) 4
  refine ⟨v1, ?_, cf1⟩
  refine lp_go (fuel := 8192) (ev := fun k (Y : Int32 → mC → Option (Int32 × Nat × mC)) => Y (nI k) v1) (qf (ndC M n P) 4) (by omega) (fun l hl self => ?_) (fun self => ?_)
  · show L_X6_neededLine_40 (nI j) (nI X, v1) self (nI l) v1 = self (nI (l + 1)) v1
    have hno := qf_no (ndC M n P) 4 l hl
    have hno2 := of_decide_eq_false hno
    obtain ⟨p1, p2⟩ := hP26 l (by omega)
    simp (disch := omega) only [L_X6_neededLine_40, qi_inb, qi_ix, ck_t, p1, nI_1]
    rw [if_neg (show ¬ (4 : Int32) ≤ nI l from nI_ge (b := 4) (by omega) (by omega))]
    by_cases e : 0 < P l
    · rw [if_neg (show ¬ nI (P l) ≤ 0 from nI_ge (a := 0) e (by omega)), hlk l (by omega) e]
      simp only [bnd_s]
      have h24 : lackS M n (opL P l) ≤ 24 := Nat.le_trans (Nat.sub_le _ _) (lack_le M n (fun k hk => by
        have := (hP26 k hk).2
        unfold opL
        split <;> omega)).1
      rw [if_pos (nI_le (by omega) (by omega))]
    · rw [if_pos (show nI (P l) ≤ 0 from nI_le (b := 0) (by omega) (by omega))]
  · show L_X6_neededLine_40 (nI j) (nI X, v1) self (nI (qf (ndC M n P) 4)) v1 = _
    by_cases e4 : qf (ndC M n P) 4 < 4
    · have hy := of_decide_eq_true (qf_yes (ndC M n P) 4 e4)
      rw [if_pos e4]
      generalize qf (ndC M n P) 4 = l at *
      obtain ⟨p1, p2⟩ := hP26 l e4
      simp (disch := omega) only [L_X6_neededLine_40, qi_inb, qi_ix, ck_t, p1]
      rw [if_neg (show ¬ (4 : Int32) ≤ nI l from nI_ge (b := 4) (by omega) (by omega)), if_neg (show ¬ nI (P l) ≤ 0 from nI_ge (a := 0) hy.1 (by omega)), hlk l e4 hy.1]
      simp only [bnd_s]
      rw [if_neg (nI_ge (by omega) (by omega))]
    · have e : qf (ndC M n P) 4 = 4 := by omega
      rw [if_neg e4, e]
      simp only [L_X6_neededLine_40]
      rw [if_pos (by decide)]
end Come
