/-! THE SHORTFALL BY SETS: on both sides -/
theorem qi_subI {a c : Nat} (ha : a ≤ 100000000) (hc : c ≤ 100000000) : (nI a - nI c).toInt = (a : Int) - c := by
  rw [Int32.toInt_sub, qi_I (by omega), qi_I (by omega)]
  show ((a : Int) - c).bmod _ = _
  rw [Int.bmod_eq_of_le] <;> simp <;> omega
theorem qi_neg (c : Nat) : -(nI c) = nI 0 - nI c := by
  show _ = (0 : Int32) - nI c
  rw [Int32.zero_sub]
theorem qi_acc (a b c : Nat) : nI a - nI c + nI b = nI (a + b) - nI c := by
  rw [← qi_add, Int32.sub_eq_add_neg, Int32.sub_eq_add_neg, Int32.add_assoc, Int32.add_assoc, Int32.add_comm (-(nI c)) (nI b)]
def inS (P : Nat → Nat) (t : Nat) : Nat := qs (fun l => if t.testBit l then P l else 0) 4
theorem in_out (P : Nat → Nat) (t : Nat) : inS P t + outS P t = qs P 4 := by
  unfold inS outS
  rw [← qs_add]
  refine qs_cong fun l _ => ?_
  show (if _ then _ else _) + (if _ then _ else _) = _
  by_cases h : t.testBit l
  · rw [if_pos h, if_pos h, Nat.add_zero]
  · rw [if_neg h, if_neg h, Nat.zero_add]
def gr (M : Nat → Nat) (N : Nat) (P : Nat → Nat) : Nat → Nat
  | 0 => 0
  | t + 1 => if inS P t ≤ gr M N P t + cT M t N then gr M N P t else inS P t - cT M t N
theorem gr_s (M : Nat → Nat) (N : Nat) (P : Nat → Nat) (t : Nat) : gr M N P (t + 1) = if inS P t ≤ gr M N P t + cT M t N then gr M N P t else inS P t - cT M t N := rfl
theorem bdS_0 (M : Nat → Nat) (N : Nat) (P : Nat → Nat) (t : Nat) : bdS M N P 0 t = cT M t N + outS P t := rfl
def lackS (M : Nat → Nat) (N : Nat) (P : Nat → Nat) : Nat := qs P 4 - qm (bdS M N P 0) 15
theorem gr_q (M : Nat → Nat) (N : Nat) (P : Nat → Nat) : ∀ t, gr M N P (t + 1) + qm (bdS M N P 0) t = qs P 4
  | 0 => by
    have h0 : cT M 0 N = 0 := qc_0.mpr fun k _ => by simp
    have h1 : inS P 0 = 0 := by simp [inS, qs]
    have h2 := in_out P 0
    rw [gr_s]
    show _ + bdS M N P 0 0 = _
    rw [bdS_0, h0, h1, if_pos (Nat.zero_le _)]
    show 0 + _ = _
    omega
  | t + 1 => by
    have ih := gr_q M N P t
    have h2 := in_out P (t + 1)
    have h3 := bdS_0 M N P (t + 1)
    rw [gr_s]
    show _ + (if bdS M N P 0 (t + 1) < qm (bdS M N P 0) t then bdS M N P 0 (t + 1) else qm (bdS M N P 0) t) = _
    by_cases q : inS P (t + 1) ≤ gr M N P (t + 1) + cT M (t + 1) N
    · rw [if_pos q, if_neg (by omega)]
      omega
    · rw [if_neg q, if_pos (by omega)]
      omega
theorem gr_lack (M : Nat → Nat) (N : Nat) (P : Nat → Nat) : gr M N P 16 = lackS M N P := by
  have h : gr M N P 16 + qm (bdS M N P 0) 15 = qs P 4 := gr_q M N P 15
  show gr M N P 16 = qs P 4 - qm (bdS M N P 0) 15
  omega
theorem lack_le (M : Nat → Nat) (N : Nat) {P : Nat → Nat} (h : ∀ l, l < 4 → P l ≤ 6) : qs P 4 ≤ 24 ∧ qm (bdS M N P 0) 15 ≤ qs P 4 := by
  have := gr_q M N P 15
  have h2 := qs_bound (f := P) (c := 6) (n := 4) h
  exact ⟨h2, by omega⟩
theorem gr_le (M : Nat → Nat) (N : Nat) {P : Nat → Nat} (h : ∀ l, l < 4 → P l ≤ 6) : ∀ t, gr M N P t ≤ 24
  | 0 => Nat.zero_le _
  | t + 1 => by
    have h1 := gr_q M N P t
    have h2 := (lack_le M N h).1
    omega
section Lack
variable {v : mC} {o : Nat} {w : mM} {D n m f : Nat} {dd : Nat → Nat}
theorem s_lack (R : Rl v o (w 1) D n m f dd) {j : Nat} (hj : j < f) {x3 : Int32} {P : Nat → Nat} (hP : ∀ l, l < 4 → (nI l = x3 → v (26, o, j) l - 1 = nI (P l)) ∧ (¬ nI l = x3 → v (26, o, j) l = nI (P l)) ∧ P l ≤ 6) :
    f_X3_lackBySets o (nI j) x3 v = some (nI (lackS (fM v o m j (nI (dd j))) n P), rowT v (37, 0, 0) (fun s => nI (fM v o m j (nI (dd j)) s)) n) := by
  have hn := R.1.2.1
  have hm := R.1.2.2.1
  have hf := R.1.2.2.2
  have hn1 := R.2.1.2.2.1
  have hm1 := R.2.1.2.2.2.2.1
  have hd1 := (R.2.2.2.2.1 j hj).1.2.2.2
  have hl := s_list (o := o) (j := j) hn1 hn hm1 hm (show j < 20 by omega)
  rw [hd1] at hl
  generalize hMM : fM v o m j (nI (dd j)) = M
  have hM : (fun s => nI (mskC v o m j s (nI (dd j)))) = fun s => nI (M s) := by rw [← hMM]; rfl
  have hM16 : ∀ k, k < n → M k < 16 := fun k _ => by rw [← hMM]; exact mskC_lt _ _ _ _ _ _
  have hP6 : ∀ l, l < 4 → P l ≤ 6 := fun l h => (hP l h).2.2
  rw [hM] at hl
  generalize hA : rowT v (37, 0, 0) (fun s => nI (M s)) n = A at hl
  have Ao : ∀ z i, z ≠ (37, 0, 0) → A z i = v z i := fun z i h => by rw [← hA, rowT_ne _ _ n i h]
  have A37 : ∀ k, k < n → A (37, 0, 0) k = nI (M k) ∧ M k < 16 := fun k hk => ⟨by rw [← hA, rowT_in _ _ _ hk], hM16 k hk⟩
  have a2 : A (2, o, 0) 0 = nI n := by rw [Ao _ _ (kne 2 o 0 37 (by omega)), hn1]
  have a26 : ∀ l, A (26, o, j) l = v (26, o, j) l := fun l => Ao _ _ (kne 26 o j 37 (by omega))
  unfold f_X3_lackBySets
  rw [hl, bnd_s]
  rw [← gr_lack]
  refine lp_go (fuel := 8192) (ev := fun t (X : Int32 → Int32 → Option (Int32 × mC)) => X (nI (gr M n P t)) (nI t)) 16 (by omega) (fun t ht self => ?_) (fun self => ?_)
  · show L_X3_lackBySets_12 o (nI j) x3 A self (nI (gr M n P t)) (nI t) = self (nI (gr M n P (t + 1))) (nI (t + 1))
    have hc := cT_le M t n
    have hg := gr_le M n hP6 t
    have hi : inS P t ≤ 24 := by
      have h1 := in_out P t
      have h2 := (lack_le M n hP6).1
      omega
    simp only [L_X3_lackBySets_12, a2, s_countWho A37 hn ht, bnd_s]
    rw [if_neg (show ¬ (16 : Int32) ≤ nI t from nI_ge (b := 16) ht (by omega)), qi_neg]
    refine lp_go (fuel := 8192) (ev := fun l (X : Int32 → Int32 → Option (Int32 × mC)) => X (nI (qs (fun l => if t.testBit l then P l else 0) l) - nI (cT M t n)) (nI l)) 4 (by omega) (fun l hl self2 => ?_) (fun self2 => ?_)
    · show L_X3_lackBySets_38 o (nI j) x3 (nI (gr M n P t)) (nI t) self A self2 (nI (qs (fun l => if t.testBit l then P l else 0) l) - nI (cT M t n)) (nI l) = self2 (nI (qs (fun l => if t.testBit l then P l else 0) l + (if t.testBit l then P l else 0)) - nI (cT M t n)) (nI (l + 1))
      obtain ⟨p1, p2, p3⟩ := hP l hl
      simp (disch := omega) only [L_X3_lackBySets_38, s_contains ht hl, bnd_s, b2_if, qi_inb, qi_ix, ck_t, lt_e, a26, nI_1]
      rw [if_neg (show ¬ (4 : Int32) ≤ nI l from nI_ge (b := 4) hl (by omega))]
      by_cases q : t.testBit l = true
      · rw [if_pos q, if_pos q]
        by_cases q2 : nI l = x3
        · rw [if_pos q2, p1 q2, qi_acc]
        · rw [if_neg q2, p2 q2, show nI (P l) - 0 = nI (P l) from qi_sub (b := 0) (by omega), qi_acc]
      · rw [if_neg q, if_neg q]
        rfl
    · show L_X3_lackBySets_38 o (nI j) x3 (nI (gr M n P t)) (nI t) self A self2 (nI (inS P t) - nI (cT M t n)) (nI 4) = _
      simp only [L_X3_lackBySets_38, nI_1]
      have hle : nI (inS P t) - nI (cT M t n) ≤ nI (gr M n P t) ↔ inS P t ≤ gr M n P t + cT M t n := by
        rw [qi_le, qi_subI (by omega) (by omega), qi_I (by omega)]
        omega
      rw [if_pos (by decide), gr_s, i2b _ _ hle]
      by_cases q : inS P t ≤ gr M n P t + cT M t n
      · rw [if_pos q, if_pos q]
      · rw [if_neg q, if_neg q, qi_sub (by omega)]
  · show L_X3_lackBySets_12 o (nI j) x3 A self _ (nI 16) = _
    simp only [L_X3_lackBySets_12]
    rw [if_pos (by decide)]
theorem s_lackN (R : Rl v o (w 1) D n m f dd) {j : Nat} (hj : j < f) : f_X3_lackBySets o (nI j) (-1) v = some (nI (lackS (fM v o m j (nI (dd j))) n (fP v o j)), rowT v (37, 0, 0) (fun s => nI (fM v o m j (nI (dd j)) s)) n) :=
  s_lack R hj fun l hl => ⟨fun h => absurd h (qi_nM (by omega)), fun _ => (fP_ok R hj hl).2.1, (fP_ok R hj hl).1⟩
theorem s_lackL (R : Rl v o (w 1) D n m f dd) {j l : Nat} (hj : j < f) (hl : l < 4) (hp : 0 < fP v o j l) : f_X3_lackBySets o (nI j) (nI l) v = some (nI (lackS (fM v o m j (nI (dd j))) n (opL (fP v o j) l)), rowT v (37, 0, 0) (fun s => nI (fM v o m j (nI (dd j)) s)) n) :=
  s_lack R hj fun k hk => ⟨fun h => by
    have e : k = l := (qi_neq (by omega) (by omega)).mp h
    subst e
    rw [(fP_ok R hj hk).2.1, show (1 : Int32) = nI 1 from rfl, qi_sub hp]
    unfold opL
    rw [if_pos rfl], fun h => by
    have e : k ≠ l := fun e => h (by rw [e])
    rw [(fP_ok R hj hk).2.1]
    unfold opL
    rw [if_neg e], by
    have := (fP_ok R hj hk).1
    unfold opL
    split <;> omega⟩
theorem m_missing (R : Rl v o (w 1) D n m f dd) {j : Nat} (hj : j < f) (hd : D ≤ dd j) : ∃ w', f_X7_missing (nI j) w = some (nI (lackS (fM v o m j (nI (dd j))) n (fP v o j)), w') ∧ (∀ z, z ≠ 6 → z ≠ 7 → w' z = w z) ∧ (∀ l, l < 4 → w' 6 l = nI (fP v o j l)) ∧ ∀ i, i < 16 → w' 7 i = nI (cM (fM v o m j (nI (dd j))) i n) := by
  have hn := R.1.2.1
  generalize hMM : fM v o m j (nI (dd j)) = M
  have hM : ∀ s, M s = mskC v o m j s (nI (dd j)) := fun s => by rw [← hMM]; rfl
  have hM16 : ∀ k, k < n → M k < 16 := fun k _ => by rw [hM]; exact mskC_lt _ _ _ _ _ _
  generalize hPP : fP v o j = P
  have hop : ∀ l, l < 4 → P l ≤ 6 := fun l hl => by rw [← hPP]; exact (fP_ok R hj hl).1
  have hwP : ∀ l, l < 4 → w 1 (585 + 45 * j + 3 * l) = nI (P l) := fun l hl => by rw [← hPP]; exact (fP_ok R hj hl).2.2
  generalize hW : rowT (rowT (rowT w 7 (fun _ => 0) 16) 6 (fun l => nI (P l)) 4) 7 (fun i => nI (cM M i n)) 16 = W
  have hcnt := (m_counts R hj hd hwP hM).trans (congrArg some hW)
  have W6 : ∀ l, l < 4 → W 6 l = nI (P l) := fun l hl => by
    rw [← hW, rowT_ne _ _ 16 l (by decide), rowT_in _ 6 _ hl]
  have W7 : ∀ i, i < 16 → W 7 i = nI (cM M i n) := fun i hi => by rw [← hW, rowT_in _ 7 _ hi]
  have Wo : ∀ z, z ≠ 6 → z ≠ 7 → W z = w z := fun z h6 h7 => funext fun i => by
    rw [← hW, rowT_ne _ _ 16 i h7, rowT_ne _ _ 4 i h6, rowT_ne _ _ 16 i h7]
  have hfil : f_X7_fillable W = some (nI (qm (bdS M n P 0) 15)) := m_fillB (M := M) (N := n) (op := P) (c := 0) (fun l hl => ⟨W6 l hl, hop l hl⟩) (fun k hk => W7 k hk) (by omega) hn hM16
  have hall : f_X7_allPlaces (nI j) W = some (nI (qs P 4)) := by
    rw [← hPP]
    exact m_allP (w := W) (D := D) (E := D) (n := n) (m := m) (f := f) (dd := dd) (by rw [Wo 1 (by decide) (by decide)]; exact R) hj
  refine ⟨W, ?_, Wo, W6, W7⟩
  simp only [f_X7_missing, hcnt, hall, hfil, bnd_s]
  rw [qi_sub (lack_le M n hop).2]
  rfl
/-- a line whose want one place less would lessen -/
def ndC (M : Nat → Nat) (n : Nat) (P : Nat → Nat) (l : Nat) : Bool := decide (0 < P l ∧ lackS M n (opL P l) < lackS M n P)
def nd (c : Nat → Bool) : Nat → Int32
  | 0 => -1
  | t + 1 => if c (3 - t) then nI (3 - t) else nd c t
theorem nd_qf (c : Nat → Bool) : nd c 4 = if qf c 4 < 4 then nI (qf c 4) else -1 := by
  have e : nd c 4 = if c 0 then nI 0 else if c 1 then nI 1 else if c 2 then nI 2 else if c 3 then nI 3 else -1 := rfl
  rw [e]
  cases h0 : c 0 <;> cases h1 : c 1 <;> cases h2 : c 2 <;> cases h3 : c 3 <;> simp [qf, h0, h1, h2, h3]
theorem m_needed (R : Rl v o (w 1) D n m f dd) {j : Nat} (hj : j < f) (hd : D ≤ dd j) : ∃ w', f_X7_needed (nI j) w = some (if qf (ndC (fM v o m j (nI (dd j))) n (fP v o j)) 4 < 4 then nI (qf (ndC (fM v o m j (nI (dd j))) n (fP v o j)) 4) else -1, w') ∧ (∀ z, z ≠ 6 → z ≠ 7 → w' z = w z) := by
  have hn := R.1.2.1
  have hf := R.1.2.2.2
  obtain ⟨W, h1, Wo, W6, W7⟩ := m_missing R hj hd
  refine ⟨W, ?_, Wo⟩
  rw [← nd_qf]
  have hM16 : ∀ k, k < n → fM v o m j (nI (dd j)) k < 16 := fun k _ => mskC_lt _ _ _ _ _ _
  have hop : ∀ l, l < 4 → fP v o j l ≤ 6 := fun l hl => (fP_ok R hj hl).1
  have hwP : ∀ l, l < 4 → w 1 (585 + 45 * j + 3 * l) = nI (fP v o j l) := fun l hl => (fP_ok R hj hl).2.2
  have hW1 : W 1 = w 1 := Wo 1 (by decide) (by decide)
  generalize hMM : fM v o m j (nI (dd j)) = M at *
  have hall : ∀ x l, f_X7_allPlaces (nI j) (up W 6 l x) = some (nI (qs (fP v o j) 4)) := fun x l => m_allP (w := up W 6 l x) (D := D) (E := D) (n := n) (m := m) (f := f) (dd := dd) (by
    rw [show up W 6 l x 1 = W 1 from funext fun i => by rw [up_r, if_neg (fun q => absurd q.1 (by decide))], hW1]
    exact R) hj
  generalize hPP : fP v o j = P at *
  have hSL := lack_le M n hop
  unfold f_X7_needed
  rw [h1, bnd_s]
  have l3 : (3 : Int32) = (if 0 < 4 then nI (3 - 0) else -1) := rfl
  rw [l3]
  refine lp_go (fuel := 8192) (ev := fun t (X : Int32 → Int32 → mM → Option (Int32 × mM)) => X (nd (ndC M n P) t) (if t < 4 then nI (3 - t) else -1) W) 4 (by omega) (fun t ht self => ?_) (fun self => ?_)
  · show L_X7_needed_11 (nI j) (nI (lackS M n P), W) self (nd (ndC M n P) t) (if t < 4 then nI (3 - t) else -1) W = self (if ndC M n P (3 - t) then nI (3 - t) else nd (ndC M n P) t) (if t + 1 < 4 then nI (3 - (t + 1)) else -1) W
    have hl : 3 - t < 4 := by omega
    have hdec : nI (3 - t) + (-1 : Int32) = (if t + 1 < 4 then nI (3 - (t + 1)) else -1) := by
      by_cases q : t + 1 < 4
      · rw [if_pos q, qi_dec (by omega)]
        exact congrArg nI (by omega)
      · have : t = 3 := by omega
        subst this
        decide
    have hpl : f_X7_places (nI j) (nI (3 - t)) W = some (nI (P (3 - t))) := (m_places (show j < 20 by omega) hl W).trans (by rw [hW1, hwP _ hl])
    rw [if_pos ht]
    generalize (if t + 1 < 4 then nI (3 - (t + 1)) else (-1 : Int32)) = Z at hdec ⊢
    simp (disch := omega) only [L_X7_needed_11, hpl, bnd_s, jn_e, qi_inb, qi_ix, ck_t, lt_e, W6 _ hl, hall, hdec]
    rw [if_neg (show ¬ nI (3 - t) < 0 from nI_nlt (b := 0) (Nat.zero_le _) (by omega))]
    by_cases hp : 0 < P (3 - t)
    · have hoL : ∀ l, l < 4 → opL P (3 - t) l ≤ 6 := fun l h => by
        have := hop l h
        unfold opL
        split <;> omega
      have hfil : f_X7_fillable (up W 6 (3 - t) (nI (P (3 - t)) - 1)) = some (nI (qm (bdS M n (opL P (3 - t)) 0) 15)) := m_fillB (M := M) (N := n) (op := opL P (3 - t)) (c := 0) (fun l h => ⟨by
        rw [up_r]
        unfold opL
        by_cases q : l = 3 - t
        · rw [if_pos ⟨rfl, q⟩, if_pos q, q]
          exact qi_sub hp
        · rw [if_neg (fun e => q e.2), if_neg q]
          exact W6 l h, hoL l h⟩) (fun k hk => by
        rw [up_r, if_neg (fun e => absurd e.1 (by decide))]
        exact W7 k hk) (by omega) hn hM16
      have hone : qs P 4 = qs (opL P (3 - t)) 4 + 1 := qs_one (i := 3 - t) 1 hl (fun k _ hne => by unfold opL; rw [if_neg hne]) (by unfold opL; rw [if_pos rfl]; omega)
      have hL2 := lack_le M n hoL
      have back : up (up W 6 (3 - t) (nI (P (3 - t)) - 1)) 6 (3 - t) (up W 6 (3 - t) (nI (P (3 - t)) - 1) 6 (3 - t) + 1) = W := by
        rw [up_up]
        refine up_self _ _ _ _ ?_
        rw [up_r, if_pos ⟨rfl, rfl⟩, show (1 : Int32) = nI 1 from rfl, qi_sub hp, qi_add, W6 _ hl]
        exact congrArg nI (by omega)
      have hval : nI (qs P 4) - 1 - nI (qm (bdS M n (opL P (3 - t)) 0) 15) = nI (lackS M n (opL P (3 - t))) := by
        rw [show (1 : Int32) = nI 1 from rfl, qi_sub (by omega), qi_sub (by omega)]
        refine congrArg nI ?_
        show _ = qs (opL P (3 - t)) 4 - qm (bdS M n (opL P (3 - t)) 0) 15
        omega
      have hlk1 : lackS M n P ≤ 24 := Nat.le_trans (Nat.sub_le _ _) hSL.1
      have hlk2 : lackS M n (opL P (3 - t)) ≤ 24 := Nat.le_trans (Nat.sub_le _ _) hL2.1
      rw [if_neg (show ¬ nI (P (3 - t)) ≤ 0 from nI_ge (a := 0) hp (by have := hop _ hl; omega))]
      simp only [hfil, bnd_s, back, hval]
      by_cases q : lackS M n P ≤ lackS M n (opL P (3 - t))
      · rw [if_pos (nI_le q (by omega)), if_neg (by unfold ndC; simp only [decide_eq_true_eq]; omega)]
      · rw [if_neg (nI_ge (by omega) (by omega)), if_pos (by unfold ndC; simp only [decide_eq_true_eq]; omega)]
    · rw [if_pos (show nI (P (3 - t)) ≤ 0 from nI_le (b := 0) (by omega) (by omega)), if_neg (by unfold ndC; simp only [decide_eq_true_eq]; omega)]
  · show L_X7_needed_11 (nI j) (nI (lackS M n P), W) self (nd (ndC M n P) 4) (if 4 < 4 then _ else -1) W = _
    rw [if_neg (by omega)]
    simp only [L_X7_needed_11]
    rw [if_pos (by decide)]
end Lack
