/-! THE LINEUP: the rest of the class's side, the reference's side -/
theorem s_fill {n0 : Nat} (hn : n0 ≤ 5000) (k0 : kC) (x : Int32) (v : mC) : f_J7_fill_53178 n0 k0 x v = some (rowT v k0 (fun _ => x) n0) := by
  have key : lp (fun _ _ => none) (L_J7_fill_53178_5 n0 k0 x) 8192 (nI 0) (rowT v k0 (fun _ => x) 0) = some (rowT v k0 (fun _ => x) n0) := by
    refine lp_go (fuel := 8192) (ev := fun k (X : Int32 → mC → Option mC) => X (nI k) (rowT v k0 (fun _ => x) k)) n0 (by omega) (fun k hk self => ?_) (fun self => ?_)
    · show L_J7_fill_53178_5 n0 k0 x self (nI k) (rowT v k0 (fun _ => x) k) = self (nI (k + 1)) (rowT v k0 (fun _ => x) (k + 1))
      simp (disch := omega) only [L_J7_fill_53178_5, qi_inb, qi_ix, ck_t, lt_e, nI_1]
      rw [if_neg (show ¬ Int32.ofNat n0 ≤ nI k from nI_ge hk (by omega)), ← rowT_s]
    · show L_J7_fill_53178_5 n0 k0 x self (nI n0) _ = _
      simp only [L_J7_fill_53178_5]
      rw [if_pos (show Int32.ofNat n0 ≤ nI n0 from nI_le (Nat.le_refl _) (by omega))]
  rw [rowT_0] at key
  exact key
theorem s_strike {x : Nat} (line : Int32) (c : Nat → Nat) (hc : ∀ t, t < 16 → ∀ u, f_X3_cost (nI t) (nI x) line u = some (nI (c t))) (v : mC) : f_X3_strikeOut (nI x) line v = (if line = -1 then some (rowT v (39, 0, 0) (fun t => v (39, 0, 0) t - nI (c t)) 16) else ck (inb line 4) (ck (inb line 4) (some (up (rowT v (39, 0, 0) (fun t => v (39, 0, 0) t - nI (c t)) 16) (38, 0, 0) (ix line) (v (38, 0, 0) (ix line) - 1))))) := by
  generalize hg : (fun t => v (39, 0, 0) t - nI (c t)) = g
  have key : lp (fun _ _ => none) (L_X3_strikeOut_2 (nI x) line) 8192 (nI 0) (rowT v (39, 0, 0) g 0) = (if line = -1 then some (rowT v (39, 0, 0) g 16) else ck (inb line 4) (ck (inb line 4) (some (up (rowT v (39, 0, 0) g 16) (38, 0, 0) (ix line) (v (38, 0, 0) (ix line) - 1))))) := by
    refine lp_go (fuel := 8192) (ev := fun k (X : Int32 → mC → Option mC) => X (nI k) (rowT v (39, 0, 0) g k)) 16 (by omega) (fun k hk self => ?_) (fun self => ?_)
    · show L_X3_strikeOut_2 (nI x) line self (nI k) (rowT v (39, 0, 0) g k) = self (nI (k + 1)) (rowT v (39, 0, 0) g (k + 1))
      simp (disch := omega) only [L_X3_strikeOut_2, qi_inb, qi_ix, ck_t, lt_e, nI_1, hc k hk, bnd_s, rowT_out v (39, 0, 0) g (Nat.le_refl k)]
      rw [if_neg (show ¬ (16 : Int32) ≤ nI k from nI_ge (b := 16) hk (by omega)), ← rowT_s, ← hg]
    · show L_X3_strikeOut_2 (nI x) line self (nI 16) (rowT v (39, 0, 0) g 16) = _
      simp only [L_X3_strikeOut_2, lt_e]
      rw [if_pos (show (16 : Int32) ≤ nI 16 by decide), rowT_ne v g 16 (ix line) (show ((38, 0, 0) : kC) ≠ (39, 0, 0) by decide)]
  rw [rowT_0] at key
  exact key
section Mod
variable {v : mC} {o : Nat} {w : mM} {D E n m f : Nat} {dd : Nat → Nat}
theorem m_set (R : RlE v o (w 1) D E n m f dd) {j s : Nat} (hj : j < f) (hs : s < n) (hd : D ≤ dd j) : f_X7_set (nI j) (nI s) w = some (nI (mskC v o m j s (nI (dd j)))) := by
  generalize hp : (fun l => decide ((if hnd v o s m (nI (dd j)) = 0 then mis v o j s l (nI (dd j)) else hnd v o s m (nI (dd j))) = 0)) = p
  have e : mkP p 4 = mskC v o m j s (nI (dd j)) := by
    unfold mskC
    by_cases q : hnd v o s m (nI (dd j)) = 0
    · rw [if_pos q, ← hp]
      refine mkP_c fun l _ => ?_
      simp only [if_pos q]
    · rw [if_neg q]
      have : ∀ k, mkP p k = 0 := fun k => by
        induction k with
        | zero => rfl
        | succ k ih =>
          show mkP p k + _ = 0
          rw [ih, ← hp]
          simp [q]
      exact this 4
  rw [← e]
  unfold f_X7_set
  refine lp_go (fuel := 8192) (ev := fun k (X : Int32 → Int32 → Option Int32) => X (nI (mkP p k)) (nI k)) 4 (by omega) (fun l hl self => ?_) (fun self => ?_)
  · show L_X7_set_5 (nI j) (nI s) w self (nI (mkP p l)) (nI l) = self (nI (mkP p (l + 1))) (nI (l + 1))
    have hlt := mkP_lt p l
    have hlt2 : mkP p l < 16 := Nat.lt_of_lt_of_le hlt (by
      have : 2 ^ l ≤ 2 ^ 4 := Nat.pow_le_pow_right (by omega) (by omega)
      omega)
    simp only [L_X7_set_5, m_why R hj hs hl hd, bnd_s, nI_1]
    rw [if_neg (show ¬ (4 : Int32) ≤ nI l from nI_ge (b := 4) hl (by omega)), ba_or l hl _ hlt, ba_or0 _ hlt2]
    show _ = self (nI (mkP p l + (if p l then 2 ^ l else 0))) _
    rw [← hp]
    by_cases q : (if hnd v o s m (nI (dd j)) = 0 then mis v o j s l (nI (dd j)) else hnd v o s m (nI (dd j))) = 0
    · rw [if_pos q]
      simp only [q, decide_true, if_true]
    · rw [if_neg q]
      simp only [q, decide_false, Bool.false_eq_true, if_false]
      rfl
  · show L_X7_set_5 (nI j) (nI s) w self (nI (mkP p 4)) (nI 4) = _
    simp only [L_X7_set_5]
    rw [if_pos (by decide)]
theorem m_able {u : mM} {ct : Nat → Nat} (h : ∀ k, k < 16 → u 7 k = nI (ct k)) {t : Nat} (ht : t < 16) : f_X7_able (nI t) u = some (nI (qs (fun k => if k &&& t = 0 then 0 else ct k) 16)) := by
  generalize hg : (fun k => if k &&& t = 0 then 0 else ct k) = g
  have e : nI (qs g 1) = 0 := by
    have : g 0 = 0 := by rw [← hg]; simp
    show nI (0 + g 0) = 0
    rw [this]; rfl
  have key : lp (fun _ _ => none) (L_X7_able_4 (nI t) u) 8192 (nI (qs g 1)) (nI 1) = some (nI (qs g 16)) := by
    refine lp_at (ev := fun k (X : Int32 → Int32 → Option Int32) => X (nI (qs g k)) (nI k)) 16 _ (fun k hk self => ?_) (fun self => ?_) 15 1 8192 (by omega) (by omega)
    · show L_X7_able_4 (nI t) u self (nI (qs g k)) (nI k) = self (nI (qs g (k + 1))) (nI (k + 1))
      simp (disch := omega) only [L_X7_able_4, qi_inb, qi_ix, ck_t, nI_1, h k hk]
      rw [if_neg (show ¬ (16 : Int32) ≤ nI k from nI_ge (b := 16) hk (by omega)), i2b _ _ (ba_and k hk t ht), qs_s, ← hg]
      show _ = self (nI (qs (fun k => if k &&& t = 0 then 0 else ct k) k + (if k &&& t = 0 then 0 else ct k))) (nI (k + 1))
      by_cases p : k &&& t = 0
      · rw [if_pos p, if_pos p, show (0 : Int32) = nI 0 from rfl, qi_add]
      · rw [if_neg p, if_neg p, qi_add]
    · show L_X7_able_4 (nI t) u self (nI (qs g 16)) (nI 16) = _
      simp only [L_X7_able_4]
      rw [if_pos (by decide)]
  rw [e] at key
  exact key
theorem m_openIn {u : mM} {op : Nat → Nat} (h : ∀ l, l < 4 → u 6 l = nI (op l)) {t : Nat} (ht : t < 16) : f_X7_openIn (nI t) u = some (nI (qs (fun l => if t.testBit l then op l else 0) 4)) := by
  generalize hg : (fun l => if t.testBit l then op l else 0) = g
  unfold f_X7_openIn
  refine lp_go (fuel := 8192) (ev := fun k (X : Int32 → Int32 → Option Int32) => X (nI (qs g k)) (nI k)) 4 (by omega) (fun k hk self => ?_) (fun self => ?_)
  · show L_X7_openIn_4 (nI t) u self (nI (qs g k)) (nI k) = self (nI (qs g (k + 1))) (nI (k + 1))
    simp (disch := omega) only [L_X7_openIn_4, qi_inb, qi_ix, ck_t, nI_1, h k hk]
    rw [if_neg (show ¬ (4 : Int32) ≤ nI k from nI_ge (b := 4) hk (by omega)), i2b _ _ (ba_shr t ht k hk), qs_s, ← hg]
    show _ = self (nI (qs (fun l => if t.testBit l = true then op l else 0) k + (if t.testBit k = true then op k else 0))) (nI (k + 1))
    by_cases p : t.testBit k = true
    · rw [if_pos p, if_pos p, qi_add]
    · rw [if_neg p, if_neg p, show (0 : Int32) = nI 0 from rfl, qi_add]
  · show L_X7_openIn_4 (nI t) u self (nI (qs g 4)) (nI 4) = _
    simp only [L_X7_openIn_4]
    rw [if_pos (by decide)]
def fm (g : Nat → Nat) : Nat → Nat
  | 0 => 99
  | k + 1 => if fm g k ≤ g k then fm g k else g k
theorem fm_qm {g : Nat → Nat} (h : g 0 < 99) : ∀ k, fm g (k + 1) = qm g k
  | 0 => by show (if 99 ≤ g 0 then 99 else g 0) = g 0; rw [if_neg (by omega)]
  | k + 1 => by
    show (if fm g (k + 1) ≤ g (k + 1) then fm g (k + 1) else g (k + 1)) = if g (k + 1) < qm g k then g (k + 1) else qm g k
    rw [fm_qm h k]
    by_cases p : qm g k ≤ g (k + 1)
    · rw [if_pos p, if_neg (by omega)]
    · rw [if_neg p, if_pos (by omega)]
theorem m_fillable {u : mM} {op ct : Nat → Nat} (h : ∀ l, l < 4 → u 6 l = nI (op l) ∧ op l ≤ 6) (hc : ∀ k, k < 16 → u 7 k = nI (ct k)) (hb : ∀ t, t < 16 → qs (fun k => if k &&& t = 0 then 0 else ct k) 16 ≤ 30) : f_X7_fillable u = some (nI (qm (fun t => qs (fun k => if k &&& t = 0 then 0 else ct k) 16 + outS op t) 15)) := by
  generalize hg : (fun t => qs (fun k => if k &&& t = 0 then 0 else ct k) 16 + outS op t) = g
  have hg54 : ∀ t, t < 16 → g t ≤ 54 := fun t ht => by
    have h1 := hb t ht
    have h2 := outS_le (op := op) (fun l hl => (h l hl).2) t
    rw [← hg]
    show _ + _ ≤ 54
    omega
  have hfm : ∀ k, k ≤ 16 → fm g k ≤ 99 := fun k hk => by
    induction k with
    | zero => exact Nat.le_refl _
    | succ k ih =>
      have := ih (by omega)
      have := hg54 k (by omega)
      show (if _ then _ else _) ≤ 99
      split <;> omega
  rw [← fm_qm (by have := hg54 0 (by omega); omega) 15]
  unfold f_X7_fillable
  refine lp_go (fuel := 8192) (ev := fun k (X : Int32 → Int32 → Option Int32) => X (nI (fm g k)) (nI k)) 16 (by omega) (fun t ht self => ?_) (fun self => ?_)
  · show L_X7_fillable_5 u self (nI (fm g t)) (nI t) = self (nI (fm g (t + 1))) (nI (t + 1))
    have e : (15 : Int32) - nI t = nI (15 - t) := qi_sub (a := 15) (by omega)
    have e2 : qs (fun l => if (15 - t).testBit l then op l else 0) 4 = outS op t := qs_cong fun l hl => by
      show (if _ then _ else _) = if _ then _ else _
      rw [ba_inv t ht l hl]
      cases t.testBit l <;> rfl
    have e3 : outS op t + qs (fun k => if k &&& t = 0 then 0 else ct k) 16 = g t := by rw [← hg, Nat.add_comm]
    have hgt := hg54 t ht
    have hft := hfm t (by omega)
    simp only [L_X7_fillable_5, e, m_openIn (fun l hl => (h l hl).1) (show 15 - t < 16 by omega), bnd_s, m_able hc ht, e2, qi_add, e3, nI_1]
    rw [if_neg (show ¬ (16 : Int32) ≤ nI t from nI_ge (b := 16) ht (by omega))]
    show _ = self (nI (if fm g t ≤ g t then fm g t else g t)) _
    by_cases p : fm g t ≤ g t
    · rw [if_pos p, if_pos (nI_le p (by omega))]
    · rw [if_neg p, if_neg (nI_ge (by omega) (by omega))]
  · show L_X7_fillable_5 u self (nI (fm g 16)) (nI 16) = _
    simp only [L_X7_fillable_5]
    rw [if_pos (by decide)]
/-- the reference's tally of the masks -/
theorem m_counts (R : RlE v o (w 1) D E n m f dd) {j : Nat} (hj : j < f) (hd : D ≤ dd j) {P M : Nat → Nat} (hP : ∀ l, l < 4 → w 1 (585 + 45 * j + 3 * l) = nI (P l)) (hM : ∀ s, M s = mskC v o m j s (nI (dd j))) :
    f_X7_counts (nI j) w = some (rowT (rowT (rowT w 7 (fun _ => 0) 16) 6 (fun l => nI (P l)) 4) 7 (fun i => nI (cM M i n)) 16) := by
  have hf := R.1.2.2.2
  have hn := R.1.2.1
  have hn1 := R.2.1.2.2.2.1
  generalize hW1 : rowT w 7 (fun _ => (0 : Int32)) 16 = W1
  generalize hW2 : rowT W1 6 (fun l => nI (P l)) 4 = W2
  have w11 : ∀ k i, rowT w 7 (fun _ => (0 : Int32)) k 1 i = w 1 i := fun k i => rowT_ne w _ k i (by decide)
  have w21 : ∀ k i, rowT W1 6 (fun l => nI (P l)) k 1 i = w 1 i := fun k i => (rowT_ne W1 _ k i (by decide)).trans (by rw [← hW1]; exact w11 16 i)
  have w31 : ∀ k, rowT W2 7 (fun i => nI (cM M i k)) 16 1 = w 1 := fun k => funext fun i => (rowT_ne W2 _ 16 i (by decide)).trans (by rw [← hW2]; exact w21 4 i)
  -- the third loop
  have k3 : lp (fun _ _ => none) (L_X7_counts_48 (nI j)) 8192 (nI 0) (rowT W2 7 (fun i => nI (cM M i 0)) 16) = some (rowT W2 7 (fun i => nI (cM M i n)) 16) := by
    refine lp_go (fuel := 8192) (ev := fun k (X : Int32 → mM → Option mM) => X (nI k) (rowT W2 7 (fun i => nI (cM M i k)) 16)) n (by omega) (fun k hk self => ?_) (fun self => ?_)
    · show L_X7_counts_48 (nI j) self (nI k) (rowT W2 7 (fun i => nI (cM M i k)) 16) = self (nI (k + 1)) (rowT W2 7 (fun i => nI (cM M i (k + 1))) 16)
      have hMk : M k < 16 := by rw [hM]; exact mskC_lt _ _ _ _ _ _
      have hset : f_X7_set (nI j) (nI k) (rowT W2 7 (fun i => nI (cM M i k)) 16) = some (nI (M k)) := by
        rw [m_set (v := v) (o := o) (D := D) (E := E) (n := n) (m := m) (f := f) (dd := dd) (by rw [w31]; exact R) hj hk hd, hM]
      have e1 : rowT W2 7 (fun i => nI (cM M i k)) 16 1 1 = nI n := by rw [w31]; exact hn1
      have e2 : rowT W2 7 (fun i => nI (cM M i k)) 16 7 (M k) = nI (cM M (M k) k) := rowT_in W2 7 _ hMk
      have e3 : up (rowT W2 7 (fun i => nI (cM M i k)) 16) 7 (M k) (nI (cM M (M k) k + 1)) = rowT W2 7 (fun i => nI (cM M i (k + 1))) 16 := by
        funext z i
        unfold up rowT
        by_cases hz : z = 7
        · by_cases hi : i = M k
          · subst hi
            simp [hz, hMk, cM_s]
          · by_cases h16 : i < 16
            · simp [hz, hi, h16, cM_s, Ne.symm hi]
            · simp [hz, hi, h16]
        · simp [hz]
      simp (disch := omega) only [L_X7_counts_48, inb_1, ix_1, ck_t, e1, hset, bnd_s, qi_inb, qi_ix, lt_e, nI_1, e2, e3]
      rw [if_neg (nI_ge hk (by omega))]
    · show L_X7_counts_48 (nI j) self (nI n) (rowT W2 7 (fun i => nI (cM M i n)) 16) = _
      have e1 : rowT W2 7 (fun i => nI (cM M i n)) 16 1 1 = nI n := by rw [w31]; exact hn1
      simp only [L_X7_counts_48, inb_1, ix_1, ck_t, e1]
      rw [if_pos (nI_le (Nat.le_refl _) (by omega))]
  have e0 : rowT W2 7 (fun i => nI (cM M i 0)) 16 = W2 := by
    funext z i
    unfold rowT
    by_cases h : z = 7 ∧ i < 16
    · rw [if_pos h, ← hW2, h.1, rowT_ne W1 _ 4 i (by decide), ← hW1, rowT_in w 7 _ h.2]
      rfl
    · rw [if_neg h]
  rw [e0] at k3
  have k2 : lp (fun _ _ => none) (L_X7_counts_23 (nI j)) 8192 (nI 0) (rowT W1 6 (fun l => nI (P l)) 0) = some (rowT W2 7 (fun i => nI (cM M i n)) 16) := by
    refine lp_go (fuel := 8192) (ev := fun k (X : Int32 → mM → Option mM) => X (nI k) (rowT W1 6 (fun l => nI (P l)) k)) 4 (by omega) (fun l hl self => ?_) (fun self => ?_)
    · show L_X7_counts_23 (nI j) self (nI l) (rowT W1 6 (fun l => nI (P l)) l) = self (nI (l + 1)) (rowT W1 6 (fun l => nI (P l)) (l + 1))
      simp (disch := omega) only [L_X7_counts_23, m_places (show j < 20 by omega) hl, bnd_s, qi_inb, qi_ix, ck_t, lt_e, nI_1, w21, hP l hl]
      rw [if_neg (show ¬ (4 : Int32) ≤ nI l from nI_ge (b := 4) hl (by omega)), ← rowT_s]
    · show L_X7_counts_23 (nI j) self (nI 4) (rowT W1 6 (fun l => nI (P l)) 4) = _
      simp only [L_X7_counts_23]
      rw [if_pos (by decide), hW2]
      exact k3
  rw [rowT_0] at k2
  have k1 : lp (fun _ _ => none) (L_X7_counts_2 (nI j)) 8192 (nI 0) (rowT w 7 (fun _ => (0 : Int32)) 0) = some (rowT W2 7 (fun i => nI (cM M i n)) 16) := by
    refine lp_go (fuel := 8192) (ev := fun k (X : Int32 → mM → Option mM) => X (nI k) (rowT w 7 (fun _ => (0 : Int32)) k)) 16 (by omega) (fun l hl self => ?_) (fun self => ?_)
    · show L_X7_counts_2 (nI j) self (nI l) (rowT w 7 (fun _ => (0 : Int32)) l) = self (nI (l + 1)) (rowT w 7 (fun _ => (0 : Int32)) (l + 1))
      simp (disch := omega) only [L_X7_counts_2, qi_inb, qi_ix, ck_t, lt_e, nI_1]
      rw [if_neg (show ¬ (16 : Int32) ≤ nI l from nI_ge (b := 16) hl (by omega)), ← rowT_s]
    · show L_X7_counts_2 (nI j) self (nI 16) (rowT w 7 (fun _ => (0 : Int32)) 16) = _
      simp only [L_X7_counts_2]
      rw [if_pos (by decide), hW1]
      exact k2
  rw [rowT_0] at k1
  exact k1
end Mod
