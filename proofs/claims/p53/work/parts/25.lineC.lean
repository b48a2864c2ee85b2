/-! THE LINEUP, the class's side -/
theorem up_up {κ : Type} [DecidableEq κ] (v : κ → Nat → Int32) (k0 : κ) (i0 : Nat) (x y : Int32) : up (up v k0 i0 x) k0 i0 y = up v k0 i0 y := by
  funext k i
  simp only [up_r]
  split <;> rfl
theorem hnd_c {u v : mC} {o s m : Nat} {d : Int32} (h : ∀ k i, k ≤ 25 → u (k, o, 0) i = v (k, o, 0) i) : hnd u o s m d = hnd v o s m d := by
  have e : qc (hitC u o (nI s) d d) m = qc (hitC v o (nI s) d d) m := qc_cong fun k _ => by
    unfold hitC
    rw [h 15 k (by omega), h 16 k (by omega), h 17 k (by omega)]
  unfold hnd
  rw [e, h 10 s (by omega), h 11 s (by omega), h 7 s (by omega)]
theorem mis_c {u v : mC} {o j s l : Nat} {d : Int32} (h : ∀ k q i, k ≤ 30 → u (k, o, q) i = v (k, o, q) i) : mis u o j s l d = mis v o j s l d := by
  unfold mis
  rw [h 7 0 s (by omega), h 4 0 s (by omega), h 5 0 s (by omega), h 27 j l (by omega), h 28 j l (by omega)]
/-- the mask of the lines that a singer can sing -/
def mskC (v : mC) (o m j s : Nat) (d : Int32) : Nat := if hnd v o s m d = 0 then mkP (fun l => decide (mis v o j s l d = 0)) 4 else 0
theorem mskC_lt (v : mC) (o m j s : Nat) (d : Int32) : mskC v o m j s d < 16 := by
  unfold mskC
  split
  · exact mkP_4 _
  · decide
/-- memory with a row's first k places told anew -/
def rowT {κ : Type} [DecidableEq κ] (v : κ → Nat → Int32) (z0 : κ) (g : Nat → Int32) (k : Nat) : κ → Nat → Int32 := fun z i => if z = z0 ∧ i < k then g i else v z i
theorem rowT_0 {κ : Type} [DecidableEq κ] (v : κ → Nat → Int32) (z0 : κ) (g : Nat → Int32) : rowT v z0 g 0 = v := by
  funext z i
  unfold rowT
  rw [if_neg (by omega)]
theorem rowT_s {κ : Type} [DecidableEq κ] (v : κ → Nat → Int32) (z0 : κ) (g : Nat → Int32) (k : Nat) : up (rowT v z0 g k) z0 k (g k) = rowT v z0 g (k + 1) := by
  funext z i
  unfold rowT up
  by_cases h : z = z0
  · by_cases e : i = k
    · subst e; simp [h]
    · by_cases q : i < k
      · simp [h, e, q, show i < k + 1 by omega]
      · simp [h, e, q, show ¬ i < k + 1 by omega]
  · simp [h]
theorem rowT_in {κ : Type} [DecidableEq κ] (v : κ → Nat → Int32) (z0 : κ) (g : Nat → Int32) {k i : Nat} (h : i < k) : rowT v z0 g k z0 i = g i := by unfold rowT; rw [if_pos ⟨rfl, h⟩]
theorem rowT_out {κ : Type} [DecidableEq κ] (v : κ → Nat → Int32) (z0 : κ) (g : Nat → Int32) {k i : Nat} (h : k ≤ i) : rowT v z0 g k z0 i = v z0 i := by unfold rowT; rw [if_neg (by omega)]
theorem rowT_ne {κ : Type} [DecidableEq κ] (v : κ → Nat → Int32) {z0 z : κ} (g : Nat → Int32) (k i : Nat) (h : z ≠ z0) : rowT v z0 g k z i = v z i := by unfold rowT; rw [if_neg (fun q => h q.1)]
theorem kne (k o j : Nat) (z : Nat) (h : k ≠ z) : ((k, o, j) : kC) ≠ (z, 0, 0) := fun e => h (by simpa using congrArg Prod.fst e)
theorem s_list {o j n m : Nat} {v : mC} (hn : v (2, o, 0) 0 = nI n) (hn2 : n ≤ 30) (hm : v (14, o, 0) 0 = nI m) (hm2 : m ≤ 60) (hj : j < 20) :
    f_X3_listWhoCanSing o (nI j) v = some (rowT v (37, 0, 0) (fun s => nI (mskC v o m j s (v (19, o, 0) j))) n) := by
  unfold f_X3_listWhoCanSing
  generalize hg : (fun s => nI (mskC v o m j s (v (19, o, 0) j))) = g
  have hV : ∀ (k q p i : Nat), k ≤ 30 → rowT v (37, 0, 0) g q (k, o, p) i = v (k, o, p) i := fun k q p i h => rowT_ne v g q i (kne k o p 37 (by omega))
  have key : (fun k (X : Int32 → mC → Option mC) => X (nI k) (rowT v (37, 0, 0) g k)) 0 (lp (fun _ _ => none) (L_X3_listWhoCanSing_2 o (nI j)) 8192) = some (rowT v (37, 0, 0) g n) := by
    refine lp_go (fuel := 8192) (ev := fun k (X : Int32 → mC → Option mC) => X (nI k) (rowT v (37, 0, 0) g k)) n (by omega) (fun k hk self => ?_) (fun self => ?_)
    · show L_X3_listWhoCanSing_2 o (nI j) self (nI k) (rowT v (37, 0, 0) g k) = self (nI (k + 1)) (rowT v (37, 0, 0) g (k + 1))
      have hU : ∀ (x : Int32) (kk p i : Nat), kk ≤ 30 → up (rowT v (37, 0, 0) g k) (37, 0, 0) k x (kk, o, p) i = v (kk, o, p) i := fun x kk p i h => by
        rw [up_ne _ _ _ (kne kk o p 37 (by omega))]
        exact hV kk k p i h
      have h0 : ∀ x, up (rowT v (37, 0, 0) g k) (37, 0, 0) k x (14, o, 0) 0 = nI m := fun x => (hU x 14 0 0 (by omega)).trans hm
      simp (disch := omega) only [L_X3_listWhoCanSing_2, hV 2 k 0 0 (by omega), hn, qi_nle, qi_inb, qi_ix, ck_t, lt_e]
      rw [if_neg (by omega), s_hind (h0 0) hm2 (by omega), bnd_s, hU 0 19 0 j (by omega), hnd_c (fun kk i h => hU 0 kk 0 i (by omega)), nI_1]
      by_cases p : hnd v o k m (v (19, o, 0) j) = 0
      · rw [if_pos p]
        have hgk : g k = nI (mkP (fun l => decide (mis v o j k l (v (19, o, 0) j) = 0)) 4) := by
          rw [← hg]
          show nI (mskC v o m j k (v (19, o, 0) j)) = _
          unfold mskC
          rw [if_pos p]
        have inner : (fun l (X : Int32 → mC → Option mC) => X (nI l) (up (rowT v (37, 0, 0) g k) (37, 0, 0) k (nI (mkP (fun l => decide (mis v o j k l (v (19, o, 0) j) = 0)) l)))) 0 (lp (fun _ _ => none) (L_X3_listWhoCanSing_43 o (nI j) (nI k) self) 8192) = self (nI (k + 1)) (rowT v (37, 0, 0) g (k + 1)) := by
          refine lp_go (fuel := 8192) (ev := fun l (X : Int32 → mC → Option mC) => X (nI l) (up (rowT v (37, 0, 0) g k) (37, 0, 0) k (nI (mkP (fun l => decide (mis v o j k l (v (19, o, 0) j) = 0)) l)))) 4 (by omega) (fun l hl self2 => ?_) (fun self2 => ?_)
          · show L_X3_listWhoCanSing_43 o (nI j) (nI k) self self2 (nI l) (up (rowT v (37, 0, 0) g k) (37, 0, 0) k (nI (mkP (fun l => decide (mis v o j k l (v (19, o, 0) j) = 0)) l))) = self2 (nI (l + 1)) (up (rowT v (37, 0, 0) g k) (37, 0, 0) k (nI (mkP (fun l => decide (mis v o j k l (v (19, o, 0) j) = 0)) (l + 1))))
            have hlt := mkP_lt (fun l => decide (mis v o j k l (v (19, o, 0) j) = 0)) l
            generalize hq : mkP (fun l => decide (mis v o j k l (v (19, o, 0) j) = 0)) l = q at hlt
            have hs : mkP (fun l => decide (mis v o j k l (v (19, o, 0) j) = 0)) (l + 1) = q + (if mis v o j k l (v (19, o, 0) j) = 0 then 2 ^ l else 0) := by
              rw [← hq]
              show mkP _ l + _ = _
              simp only [decide_eq_true_eq]
            simp only [L_X3_listWhoCanSing_43]
            rw [if_neg (by rw [qi_lit 4, qi_nle (by omega) (by omega)]; omega), s_misfit hj (by omega) hl, bnd_s, hU (nI q) 19 0 j (by omega), mis_c (fun kk p i h => hU (nI q) kk p i h), hs, nI_1]
            by_cases p2 : mis v o j k l (v (19, o, 0) j) = 0
            · rw [if_pos p2, if_pos p2]
              simp (disch := omega) only [qi_inb, qi_ix, ck_t, lt_e, up_up]
              rw [show up (rowT v (37, 0, 0) g k) (37, 0, 0) k (nI q) (37, 0, 0) k = nI q by simp [up_r], ba_or l hl q hlt]
            · rw [if_neg p2, if_neg p2]
              rfl
          · show L_X3_listWhoCanSing_43 o (nI j) (nI k) self self2 (nI 4) _ = _
            simp only [L_X3_listWhoCanSing_43]
            rw [if_pos (by decide), nI_1, ← hgk, rowT_s]
        exact inner
      · rw [if_neg p]
        have hgk : g k = 0 := by
          rw [← hg]
          show nI (mskC v o m j k (v (19, o, 0) j)) = _
          unfold mskC
          rw [if_neg p]
          rfl
        rw [← hgk, rowT_s]
    · show L_X3_listWhoCanSing_2 o (nI j) self (nI n) (rowT v (37, 0, 0) g n) = _
      simp (disch := omega) only [L_X3_listWhoCanSing_2, hV 2 n 0 0 (by omega), hn, qi_nle]
      rw [if_pos (Nat.le_refl n)]
  rw [show (fun k (X : Int32 → mC → Option mC) => X (nI k) (rowT v (37, 0, 0) g k)) 0 (lp (fun _ _ => none) (L_X3_listWhoCanSing_2 o (nI j)) 8192) = lp (fun _ _ => none) (L_X3_listWhoCanSing_2 o (nI j)) 8192 (nI 0) (rowT v (37, 0, 0) g 0) from rfl, rowT_0] at key
  exact key
section Bounds
variable {M : Nat → Nat} {N : Nat} {op : Nat → Nat}
theorem s_countWho {v : mC} {t : Nat} (hM : ∀ k, k < N → v (37, 0, 0) k = nI (M k) ∧ M k < 16) (hN : N ≤ 30) (ht : t < 16) : f_X3_countWhoCanSing (nI t) (nI N) v = some (nI (cT M t N)) := by
  unfold f_X3_countWhoCanSing
  refine lp_go (fuel := 8192) (ev := fun k (X : Int32 → Int32 → Option Int32) => X (nI (cT M t k)) (nI k)) N (by omega) (fun k hk self => ?_) (fun self => ?_)
  · show L_X3_countWhoCanSing_5 (nI t) (nI N) v self (nI (cT M t k)) (nI k) = self (nI (cT M t (k + 1))) (nI (k + 1))
    obtain ⟨h1, h2⟩ := hM k hk
    simp (disch := omega) only [L_X3_countWhoCanSing_5, qi_nle, qi_inb, qi_ix, ck_t, h1, nI_1]
    rw [if_neg (by omega), i2b _ _ (ba_and _ h2 t ht), cT_s]
    split <;> rfl
  · show L_X3_countWhoCanSing_5 (nI t) (nI N) v self (nI (cT M t N)) (nI N) = _
    simp (disch := omega) only [L_X3_countWhoCanSing_5, qi_nle]
    rw [if_pos (Nat.le_refl N)]
theorem s_contains {t l : Nat} (ht : t < 16) (hl : l < 4) (v : mC) : f_X3_contains (nI t) (nI l) v = some (b2 (t.testBit l = true)) := by
  simp only [f_X3_contains, ck_t, zb_0, zb_1]
  rw [i2b _ _ (ba_bit t ht l hl)]
  unfold b2
  by_cases p : t.testBit l <;> simp [p]
theorem s_setBounds {v : mC} (hM : ∀ k, k < N → v (37, 0, 0) k = nI (M k) ∧ M k < 16) (hN : N ≤ 30) (ho : ∀ l, l < 4 → v (38, 0, 0) l = nI (op l)) : f_X3_setBounds (nI N) v = some (rowT v (39, 0, 0) (fun t => nI (bdS M N op 0 t)) 16) := by
  generalize hg : (fun t => nI (bdS M N op 0 t)) = g
  have key : (fun k (X : Int32 → mC → Option mC) => X (nI k) (rowT v (39, 0, 0) g k)) 0 (lp (fun _ _ => none) (L_X3_setBounds_2 (nI N)) 8192) = some (rowT v (39, 0, 0) g 16) := by
    refine lp_go (fuel := 8192) (ev := fun k (X : Int32 → mC → Option mC) => X (nI k) (rowT v (39, 0, 0) g k)) 16 (by omega) (fun t ht self => ?_) (fun self => ?_)
    · show L_X3_setBounds_2 (nI N) self (nI t) (rowT v (39, 0, 0) g t) = self (nI (t + 1)) (rowT v (39, 0, 0) g (t + 1))
      have hM2 : ∀ k, k < N → rowT v (39, 0, 0) g t (37, 0, 0) k = nI (M k) ∧ M k < 16 := fun k hk => by
        rw [rowT_ne v g t k (by decide)]
        exact hM k hk
      simp (disch := omega) only [L_X3_setBounds_2, qi_inb, qi_ix, ck_t, lt_e, s_countWho hM2 hN ht, bnd_s]
      rw [if_neg (by rw [qi_lit 16, qi_nle (by omega) (by omega)]; omega)]
      have inner : (fun l (X : Int32 → mC → Option mC) => X (nI l) (up (rowT v (39, 0, 0) g t) (39, 0, 0) t (nI (cT M t N + qs (fun l => if t.testBit l then 0 else op l) l)))) 0 (lp (fun _ _ => none) (L_X3_setBounds_22 (nI t) self) 8192) = self (nI (t + 1)) (rowT v (39, 0, 0) g (t + 1)) := by
        refine lp_go (fuel := 8192) (ev := fun l (X : Int32 → mC → Option mC) => X (nI l) (up (rowT v (39, 0, 0) g t) (39, 0, 0) t (nI (cT M t N + qs (fun l => if t.testBit l then 0 else op l) l)))) 4 (by omega) (fun l hl self2 => ?_) (fun self2 => ?_)
        · show L_X3_setBounds_22 (nI t) self self2 (nI l) (up (rowT v (39, 0, 0) g t) (39, 0, 0) t (nI (cT M t N + qs (fun l => if t.testBit l then 0 else op l) l))) = self2 (nI (l + 1)) (up (rowT v (39, 0, 0) g t) (39, 0, 0) t (nI (cT M t N + qs (fun l => if t.testBit l then 0 else op l) (l + 1))))
          have h38 : ∀ x, up (rowT v (39, 0, 0) g t) (39, 0, 0) t x (38, 0, 0) l = nI (op l) := fun x => by
            rw [up_ne _ _ _ (by decide), rowT_ne v g t l (by decide)]
            exact ho l hl
          simp (disch := omega) only [L_X3_setBounds_22, s_contains ht hl, bnd_s, b2_if, qi_inb, qi_ix, ck_t, lt_e, nI_1, h38, up_up, qs_s]
          rw [if_neg (by rw [qi_lit 4, qi_nle (by omega) (by omega)]; omega)]
          by_cases p : t.testBit l = true
          · simp [p]
          · rw [if_neg p, if_neg p, show up (rowT v (39, 0, 0) g t) (39, 0, 0) t (nI (cT M t N + qs (fun l => if t.testBit l then 0 else op l) l)) (39, 0, 0) t = nI (cT M t N + qs (fun l => if t.testBit l then 0 else op l) l) by simp [up_r], qi_add, Nat.add_assoc]
        · show L_X3_setBounds_22 (nI t) self self2 (nI 4) _ = _
          simp only [L_X3_setBounds_22]
          rw [if_pos (by decide), nI_1, ← rowT_s, ← hg]
          show self _ (up _ _ _ _) = self _ (up _ _ _ (nI (bdS M N op 0 t)))
          unfold bdS outS
          rw [show cT M t 0 = 0 from rfl, Nat.sub_zero]
      exact inner
    · show L_X3_setBounds_2 (nI N) self (nI 16) _ = _
      simp only [L_X3_setBounds_2]
      rw [if_pos (by decide)]
  rw [show (fun k (X : Int32 → mC → Option mC) => X (nI k) (rowT v (39, 0, 0) g k)) 0 (lp (fun _ _ => none) (L_X3_setBounds_2 (nI N)) 8192) = lp (fun _ _ => none) (L_X3_setBounds_2 (nI N)) 8192 (nI 0) (rowT v (39, 0, 0) g 0) from rfl, rowT_0] at key
  exact key
theorem s_leastBound {v : mC} {b : Nat → Nat} (h : ∀ t, t < 16 → v (39, 0, 0) t = nI (b t) ∧ b t ≤ 100) : f_X3_leastBound v = some (nI (qm b 15)) := by
  unfold f_X3_leastBound
  rw [show inb (0 : Int32) 16 = true from rfl, ck_t, ix_0, (h 0 (by omega)).1]
  refine lp_go (fuel := 8192) (ev := fun k (X : Int32 → Int32 → Option Int32) => X (nI (qm b k)) (nI (k + 1))) 15 (by omega) (fun k hk self => ?_) (fun self => ?_)
  · show L_X3_leastBound_9 v self (nI (qm b k)) (nI (k + 1)) = self (nI (qm b (k + 1))) (nI (k + 1 + 1))
    have h1 := qm_le b k 0 (by omega)
    have h2 := (h 0 (by omega)).2
    obtain ⟨h3, h4⟩ := h (k + 1) (by omega)
    simp (disch := omega) only [L_X3_leastBound_9, qi_inb, qi_ix, ck_t, h3, qi_nle, nI_1]
    rw [if_neg (by rw [qi_lit 16, qi_nle (by omega) (by omega)]; omega)]
    show _ = self (nI (if b (k + 1) < qm b k then b (k + 1) else qm b k)) _
    by_cases p : qm b k ≤ b (k + 1)
    · rw [if_pos p, if_neg (by omega)]
    · rw [if_neg p, if_pos (by omega)]
  · show L_X3_leastBound_9 v self (nI (qm b 15)) (nI (15 + 1)) = _
    simp only [L_X3_leastBound_9]
    rw [if_pos (by decide)]
theorem s_cost {x t l : Nat} (hx : x < 16) (ht : t < 16) (hl : l < 4) (v : mC) : f_X3_cost (nI t) (nI x) (nI l) v = some (nI ((if x &&& t = 0 then 0 else 1) + (if t.testBit l then 0 else 1))) := by
  simp only [f_X3_cost, jn_e]
  rw [i2b _ _ (ba_and x hx t ht), if_neg (qi_nM (by omega)), if_neg (qi_nM (by omega)), i2b _ _ (ba_bit t ht l hl), i2b _ _ (ba_bit t ht l hl)]
  by_cases p : x &&& t = 0 <;> by_cases q : t.testBit l <;> simp [p, q] <;> rfl
theorem s_costN {x t : Nat} (hx : x < 16) (ht : t < 16) (v : mC) : f_X3_cost (nI t) (nI x) (-1) v = some (nI (if x &&& t = 0 then 0 else 1)) := by
  simp only [f_X3_cost, jn_e]
  rw [i2b _ _ (ba_and x hx t ht), if_pos trivial, if_pos trivial]
  by_cases p : x &&& t = 0 <;> simp [p] <;> rfl
/-- the class's lineup memory: masks, open places, bounds -/
def LU (v : mC) (M : Nat → Nat) (N : Nat) (op : Nat → Nat) (cur : Nat) : Prop :=
  (∀ k, k < N → v (37, 0, 0) k = nI (M k) ∧ M k < 16) ∧ (∀ l, l < 4 → v (38, 0, 0) l = nI (op l) ∧ op l ≤ 6) ∧ ∀ t, t < 16 → v (39, 0, 0) t = nI (bdS M N op cur t)
def gdK (M : Nat → Nat) (N : Nat) (op : Nat → Nat) (cur fil l : Nat) : Prop := ¬ 0 < qc (fun t => decide (bdS M N (opL op l) (cur + 1) t + 1 < fil)) 16
theorem s_keeps {v : mC} {cur fil l : Nat} (h : LU v M N op cur) (hN : N ≤ 30) (hc : cur < N) (hl : l < 4) (ho : 0 < op l) (hf : fil ≤ 100) : f_X3_keepsFillable (nI (M cur)) (nI l) (nI fil) v = some (b2 (¬ 0 < qc (fun t => decide (bdS M N (opL op l) (cur + 1) t + 1 < fil)) 16)) := by
  obtain ⟨hM, hO, hB⟩ := h
  generalize hp : (fun t => decide (bdS M N (opL op l) (cur + 1) t + 1 < fil)) = p
  have hq := qf_le p 16
  have hx := (hM cur hc).2
  have val : ∀ t, t < 16 → (nI fil - 1 ≤ v (39, 0, 0) t - nI ((if M cur &&& t = 0 then 0 else 1) + (if t.testBit l then 0 else 1)) ↔ fil ≤ bdS M N (opL op l) (cur + 1) t + 1) := fun t ht => by
    have h1 := bdS_L (M := M) (N := N) (op := op) hc hl ho t
    have h2 := bdS_le (M := M) (N := N) (op := op) hN (fun l hl => (hO l hl).2) cur t
    rw [hB t ht, h1, qi_sub (by omega), Nat.add_sub_cancel, qi_le, qi_I (by omega), qi_lit 1, pk_sub_toInt (by omega) (by omega)]
    omega
  unfold f_X3_keepsFillable
  refine lp_go (fuel := 8192) (ev := fun k (X : Int32 → Option Int32) => X (nI k)) (qf p 16) (by omega) (fun t ht self => ?_) (fun self => ?_)
  · show L_X3_keepsFillable_3 (nI (M cur)) (nI l) (nI fil) v self (nI t) = self (nI (t + 1))
    have hn := qf_no p 16 t ht
    rw [← hp] at hn
    have hn := of_decide_eq_false hn
    simp (disch := omega) only [L_X3_keepsFillable_3, qi_inb, qi_ix, ck_t, s_cost hx (show t < 16 by omega) hl, bnd_s, nI_1]
    rw [if_neg (by rw [qi_lit 16, qi_nle (by omega) (by omega)]; omega), if_pos ((val t (by omega)).mpr (by omega))]
  · show L_X3_keepsFillable_3 (nI (M cur)) (nI l) (nI fil) v self (nI (qf p 16)) = _
    generalize hQ : qf p 16 = q at hq
    by_cases e : q = 16
    · subst e
      simp only [L_X3_keepsFillable_3, ck_t, zb_1]
      rw [if_pos (by decide), b2_t (by rw [← qf_c, hQ]; omega)]
    · have hy := qf_yes p 16 (by omega)
      rw [hQ, ← hp] at hy
      have hy := of_decide_eq_true hy
      simp (disch := omega) only [L_X3_keepsFillable_3, qi_inb, qi_ix, ck_t, s_cost hx (show q < 16 by omega) hl, bnd_s, zb_0]
      rw [if_neg (by rw [qi_lit 16, qi_nle (by omega) (by omega)]; omega), if_neg (fun z => by have := (val q (by omega)).mp z; omega), b2_f (by rw [← qf_c, hQ]; omega)]
def gd (M : Nat → Nat) (N : Nat) (op : Nat → Nat) (cur fil l : Nat) : Bool := (M cur).testBit l && decide (0 < op l) && decide (¬ 0 < qc (fun t => decide (bdS M N (opL op l) (cur + 1) t + 1 < fil)) 16)
theorem s_first {v : mC} {cur fil : Nat} (h : LU v M N op cur) (hN : N ≤ 30) (hc : cur < N) (hf : fil ≤ 100) : f_X3_firstGoodLine (nI (M cur)) (nI fil) v = some (if qf (gd M N op cur fil) 4 < 4 then nI (qf (gd M N op cur fil) 4) else -1) := by
  obtain ⟨hM, hO, hB⟩ := id h
  have hq := qf_le (gd M N op cur fil) 4
  have hx := (hM cur hc).2
  unfold f_X3_firstGoodLine
  refine lp_go (fuel := 8192) (ev := fun k (X : Int32 → Option Int32) => X (nI k)) (qf (gd M N op cur fil) 4) (by omega) (fun l hl self => ?_) (fun self => ?_)
  · show L_X3_firstGoodLine_2 (nI (M cur)) (nI fil) v self (nI l) = self (nI (l + 1))
    have hn := qf_no _ 4 l hl
    unfold gd at hn
    obtain ⟨h1, h2⟩ := hO l (by omega)
    simp (disch := omega) only [L_X3_firstGoodLine_2, s_contains hx (show l < 4 by omega), bnd_s, b2_if, qi_inb, qi_ix, ck_t, h1, nI_1]
    rw [if_neg (by rw [qi_lit 4, qi_nle (by omega) (by omega)]; omega)]
    by_cases p1 : (M cur).testBit l = true
    · rw [if_pos p1]
      by_cases p2 : 0 < op l
      · rw [if_neg (by rw [qi_lit 0, qi_nle (by omega) (by omega)]; omega), s_keeps h hN hc (by omega) p2 hf, bnd_s, b2_if, if_neg]
        simp only [p1, p2, decide_true, Bool.true_and, Bool.and_true] at hn
        exact of_decide_eq_false hn
      · rw [if_pos (by rw [qi_lit 0, qi_nle (by omega) (by omega)]; omega)]
    · rw [if_neg p1]
  · show L_X3_firstGoodLine_2 (nI (M cur)) (nI fil) v self (nI (qf (gd M N op cur fil) 4)) = _
    generalize hQ : qf (gd M N op cur fil) 4 = q at hq
    by_cases e : q = 4
    · subst e
      simp only [L_X3_firstGoodLine_2]
      rw [if_pos (by decide), if_neg (by omega)]
    · have hy := qf_yes (gd M N op cur fil) 4 (by omega)
      rw [hQ] at hy
      unfold gd at hy
      simp only [Bool.and_eq_true, decide_eq_true_eq] at hy
      obtain ⟨⟨y1, y2⟩, y3⟩ := hy
      obtain ⟨h1, h2⟩ := hO q (by omega)
      simp (disch := omega) only [L_X3_firstGoodLine_2, s_contains hx (show q < 4 by omega), bnd_s, b2_if, qi_inb, qi_ix, ck_t, h1]
      rw [if_neg (by rw [qi_lit 4, qi_nle (by omega) (by omega)]; omega), if_pos y1, if_neg (by rw [qi_lit 0, qi_nle (by omega) (by omega)]; omega), s_keeps h hN hc (by omega) y2 hf, bnd_s, b2_if, if_pos y3, if_pos (by omega)]
end Bounds
