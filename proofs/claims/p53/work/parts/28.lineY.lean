/-! THE LINEUP IN STEP: the reference's side -/
def lm (w : mM) (p : Nat → Int32) (op ct : Nat → Nat) : mM := fun z i => if z = 5 ∧ i < 30 then p i else if z = 6 ∧ i < 4 then nI (op i) else if z = 7 ∧ i < 16 then nI (ct i) else w z i
theorem lm_5 (w : mM) (p : Nat → Int32) (op ct : Nat → Nat) {i : Nat} (h : i < 30) : lm w p op ct 5 i = p i := by unfold lm; rw [if_pos ⟨rfl, h⟩]
theorem lm_6 (w : mM) (p : Nat → Int32) (op ct : Nat → Nat) {i : Nat} (h : i < 4) : lm w p op ct 6 i = nI (op i) := by
  unfold lm
  rw [if_neg (fun q => absurd q.1 (by decide)), if_pos ⟨rfl, h⟩]
theorem lm_7 (w : mM) (p : Nat → Int32) (op ct : Nat → Nat) {i : Nat} (h : i < 16) : lm w p op ct 7 i = nI (ct i) := by
  unfold lm
  rw [if_neg (fun q => absurd q.1 (by decide)), if_neg (fun q => absurd q.1 (by decide)), if_pos ⟨rfl, h⟩]
theorem lm_o (w : mM) (p : Nat → Int32) (op ct : Nat → Nat) {z : Nat} (i : Nat) (h1 : z ≠ 5) (h2 : z ≠ 6) (h3 : z ≠ 7) : lm w p op ct z i = w z i := by
  unfold lm
  rw [if_neg (fun q => h1 q.1), if_neg (fun q => h2 q.1), if_neg (fun q => h3 q.1)]
theorem lm_1 (w : mM) (p : Nat → Int32) (op ct : Nat → Nat) : lm w p op ct 1 = w 1 := funext fun i => lm_o w p op ct i (by decide) (by decide) (by decide)
theorem lm_u5 (w : mM) (p p' : Nat → Int32) (op ct : Nat → Nat) {k : Nat} (hk : k < 30) (x : Int32) (h : ∀ i, i < 30 → p' i = if i = k then x else p i) : up (lm w p op ct) 5 k x = lm w p' op ct := by
  funext z i
  rw [up_r]
  unfold lm
  by_cases z5 : z = 5
  · subst z5
    by_cases hi : i = k
    · subst hi
      rw [if_pos ⟨rfl, rfl⟩, if_pos ⟨rfl, hk⟩, h i hk, if_pos rfl]
    · rw [if_neg (fun q => hi q.2)]
      by_cases i30 : i < 30
      · rw [if_pos ⟨rfl, i30⟩, if_pos ⟨rfl, i30⟩, h i i30, if_neg hi]
      · simp [i30]
  · simp only [z5, false_and, if_false]
theorem lm_u6 (w : mM) (p : Nat → Int32) (op op' ct : Nat → Nat) {l : Nat} (hl : l < 4) (x : Int32) (h : ∀ i, i < 4 → nI (op' i) = if i = l then x else nI (op i)) : up (lm w p op ct) 6 l x = lm w p op' ct := by
  funext z i
  rw [up_r]
  unfold lm
  by_cases z6 : z = 6
  · subst z6
    by_cases hi : i = l
    · subst hi
      rw [if_pos ⟨rfl, rfl⟩, if_neg (fun q => absurd q.1 (by decide)), if_pos ⟨rfl, hl⟩, h i hl, if_pos rfl]
    · rw [if_neg (fun q => hi q.2)]
      by_cases i4 : i < 4
      · rw [if_neg (fun q => absurd q.1 (by decide)), if_pos ⟨rfl, i4⟩, if_neg (fun q => absurd q.1 (by decide)), if_pos ⟨rfl, i4⟩, h i i4, if_neg hi]
      · simp [i4]
  · simp only [z6, false_and, if_false]
theorem lm_u7 (w : mM) (p : Nat → Int32) (op ct ct' : Nat → Nat) {l : Nat} (hl : l < 16) (x : Int32) (h : ∀ i, i < 16 → nI (ct' i) = if i = l then x else nI (ct i)) : up (lm w p op ct) 7 l x = lm w p op ct' := by
  funext z i
  rw [up_r]
  unfold lm
  by_cases z7 : z = 7
  · subst z7
    by_cases hi : i = l
    · subst hi
      rw [if_pos ⟨rfl, rfl⟩, if_neg (fun q => absurd q.1 (by decide)), if_neg (fun q => absurd q.1 (by decide)), if_pos ⟨rfl, hl⟩, h i hl, if_pos rfl]
    · rw [if_neg (fun q => hi q.2)]
      by_cases i4 : i < 16
      · rw [if_neg (fun q => absurd q.1 (by decide)), if_neg (fun q => absurd q.1 (by decide)), if_pos ⟨rfl, i4⟩, if_neg (fun q => absurd q.1 (by decide)), if_neg (fun q => absurd q.1 (by decide)), if_pos ⟨rfl, i4⟩, h i i4, if_neg hi]
      · simp [i4]
  · simp only [z7, false_and, if_false]
theorem up_self {κ : Type} [DecidableEq κ] (v : κ → Nat → Int32) (k0 : κ) (i0 : Nat) (x : Int32) (h : x = v k0 i0) : up v k0 i0 x = v := by
  funext z i
  rw [up_r]
  by_cases q : z = k0 ∧ i = i0
  · rw [if_pos q, h, q.1, q.2]
  · rw [if_neg q]
section MakeM
variable {M : Nat → Nat} {N : Nat} {op0 : Nat → Nat} {F : Nat}
theorem m_fillB {u : mM} {op : Nat → Nat} {c : Nat} (h : ∀ l, l < 4 → u 6 l = nI (op l) ∧ op l ≤ 6) (hc : ∀ k, k < 16 → u 7 k = nI (cM M k N - cM M k c)) (hcN : c ≤ N) (hN : N ≤ 30) (hM : ∀ k, k < N → M k < 16) : f_X7_fillable u = some (nI (qm (bdS M N op c) 15)) := by
  have e : ∀ t, qs (fun k => if k &&& t = 0 then 0 else cM M k N - cM M k c) 16 = cT M t N - cT M t c := fun t => cMT_from M t hcN hM
  rw [m_fillable h hc (fun t _ => by rw [e t]; have := cT_le M t N; omega)]
  refine congrArg (fun x => some (nI x)) (qm_c fun t _ => ?_)
  rw [e t]
  rfl
/-- one line tried for one singer: c lines are filled, fil can still be -/
theorem in_step {w : mM} {p : Nat → Int32} {op : Nat → Nat} {k l c fil : Nat} (self39 self73 : Int32 → Int32 → mM → Option (Int32 × mM)) (hk : k < N) (hl : l < 4) (hN : N ≤ 30) (hM : ∀ k, k < N → M k < 16) (hop : ∀ l, l < 4 → op l ≤ 6) (hf : qm (bdS M N op k) 15 ≤ fil) (hF : fil + c = F) (hF2 : F ≤ 100) (hp : p k = -1) :
    L_X7_linesUp_73 (nI k) self39 (nI F) (nI (M k)) self73 (nI c) (nI l) (lm w p op (fun i => cM M i N - cM M i (k + 1))) = (if gd M N op k fil l = true then self73 (nI (c + 1)) (nI (l + 1)) (lm w (fun i => if i = k then nI l else p i) (opL op l) (fun i => cM M i N - cM M i (k + 1))) else self73 (nI c) (nI (l + 1)) (lm w p op (fun i => cM M i N - cM M i (k + 1)))) := by
  generalize hct : (fun i => cM M i N - cM M i (k + 1)) = ct
  have h5 : lm w p op ct 5 k = -1 := (lm_5 w p op ct (by omega)).trans hp
  have h6 : lm w p op ct 6 l = nI (op l) := lm_6 w p op ct hl
  have hol := hop l hl
  have iq : inb (nI l) 4 = true := qi_inb hl (by omega)
  have iqk : inb (nI k) 30 = true := qi_inb (by omega) (by omega)
  have xl : ix (nI l) = l := qi_ix (by omega)
  have xk : ix (nI k) = k := qi_ix (by omega)
  have n01 : ¬ (1 : Int32) = 0 := by decide
  have u0 : ∀ x : Int32, x = nI (op l) → up (lm w p op ct) 6 l x = lm w p op ct := fun x hx => up_self _ _ _ _ (by rw [h6]; exact hx)
  unfold L_X7_linesUp_73
  simp only [jn_e, lt_e, iq, iqk, xl, xk, ck_t, h5, h6, n01, if_true, if_false]
  rw [if_neg (show ¬ (4 : Int32) ≤ nI l from nI_ge (b := 4) hl (by omega)), i2b _ _ (ba_shr (M k) (hM k hk) l hl), nI_1]
  have no : gd M N op k fil l = false → ∀ (Y : Option (Int32 × mM)), (if gd M N op k fil l = true then Y else self73 (nI c) (nI (l + 1)) (lm w p op ct)) = self73 (nI c) (nI (l + 1)) (lm w p op ct) := fun h Y => by rw [h]; simp
  have z0 : nI (op l) - 0 = nI (op l) := qi_sub (b := 0) (by omega)
  have z1 : nI (op l) + 0 = nI (op l) := qi_add (op l) 0
  by_cases hb : (M k).testBit l = true
  · rw [if_pos hb]
    by_cases ho : 0 < op l
    · have n0 : ¬ nI (op l) ≤ 0 := nI_ge (b := op l) (a := 0) ho (by omega)
      have eop : up (lm w p op ct) 6 l (nI (op l) - 1) = lm w p (opL op l) ct := lm_u6 w p op (opL op l) ct hl _ (fun i hi => by
        unfold opL
        by_cases q : i = l
        · rw [if_pos q, if_pos q, q]
          exact (qi_sub ho).symm
        · rw [if_neg q, if_neg q])
      have hfi : f_X7_fillable (lm w p (opL op l) ct) = some (nI (qm (bdS M N (opL op l) (k + 1)) 15)) := m_fillB (fun i hi => ⟨lm_6 w p _ ct hi, by
        have := hop i hi
        unfold opL
        split <;> omega⟩) (fun i hi => by rw [lm_7 w p _ ct hi, ← hct]) (by omega) hN hM
      have hq54 : qm (bdS M N (opL op l) (k + 1)) 15 ≤ 54 := Nat.le_trans (qm_le _ 15 0 (by omega)) (bdS_le hN (fun i hi => by
        have := hop i hi
        unfold opL
        split <;> omega) _ _)
      have e6 : lm w p (opL op l) ct 6 l = nI (opL op l l) := lm_6 w p _ ct hl
      have back : up (lm w p (opL op l) ct) 6 l (lm w p (opL op l) ct 6 l + 1) = lm w p op ct := lm_u6 w p (opL op l) op ct hl _ (fun i hi => by
        rw [e6]
        unfold opL
        by_cases q : i = l
        · rw [if_pos q, if_pos rfl, q, nI_1]
          congr 1
          omega
        · rw [if_neg q, if_neg q])
      simp only [n0, if_false, eop, hfi, bnd_s, back]
      have en : nI c + 1 + nI (qm (bdS M N (opL op l) (k + 1)) 15) = nI (c + 1 + qm (bdS M N (opL op l) (k + 1)) 15) := by rw [nI_1, qi_add]
      rw [en, i2b _ _ (qi_neq (a := c + 1 + qm (bdS M N (opL op l) (k + 1)) 15) (b := F) (by omega) (by omega))]
      by_cases q : c + 1 + qm (bdS M N (opL op l) (k + 1)) 15 = F
      · have g : gd M N op k fil l = true := (gd_iff hk hl (hM k hk) hf).mpr ⟨hb, ho, by omega⟩
        rw [if_pos q, if_pos g, nI_1, lm_u5 w p (fun i => if i = k then nI l else p i) (opL op l) ct (by omega) (nI l) (fun i _ => rfl)]
      · have g : gd M N op k fil l = false := by
          cases e : gd M N op k fil l
          · rfl
          · exfalso
            have := ((gd_iff hk hl (hM k hk) hf).mp e).2.2
            omega
        rw [if_neg q, no g]
    · have n0 : nI (op l) ≤ 0 := nI_le (a := op l) (b := 0) (by omega) (by omega)
      have g : gd M N op k fil l = false := by
        cases e : gd M N op k fil l
        · rfl
        · exact absurd ((gd_iff hk hl (hM k hk) hf).mp e).2.1 ho
      simp only [n0, if_true, z0, u0 _ rfl, h6, z1]
      rw [no g]
  · have g : gd M N op k fil l = false := by
      cases e : gd M N op k fil l
      · rfl
      · exact absurd ((gd_iff hk hl (hM k hk) hf).mp e).1 hb
    rw [if_neg hb]
    simp only [z0, u0 _ rfl, h6, z1]
    rw [no g]
def lmK (M : Nat → Nat) (N : Nat) (op0 : Nat → Nat) (F : Nat) (w : mM) (k : Nat) : mM := lm w (fun i => if i < k then luI M N op0 F i else -1) (luS M N op0 F k).1 (fun i => cM M i N - cM M i k)
theorem m_one {w : mM} {k : Nat} (self : Int32 → Int32 → mM → Option (Int32 × mM)) (hk : k < N) (hN : N ≤ 30) (hM : ∀ k, k < N → M k < 16) (hop : ∀ l, l < 4 → op0 l ≤ 6) (hF : qm (bdS M N op0 0) 15 ≤ F) (hF2 : F ≤ 100) :
    lp (fun _ _ _ => none) (L_X7_linesUp_73 (nI k) self (nI F) (nI (M k))) 8192 (nI (luC M N op0 F k)) (nI 0) (lm w (fun i => if i < k then luI M N op0 F i else -1) (luS M N op0 F k).1 (fun i => cM M i N - cM M i (k + 1))) = self (nI (luC M N op0 F (k + 1))) (nI (k + 1)) (lmK M N op0 F w (k + 1)) := by
  obtain ⟨h1, h2, h3⟩ := luS_ok hM hop hF k (by omega)
  generalize hc : luC M N op0 F k = c at h3
  generalize hfil : (luS M N op0 F k).2 = fil at h2 h3
  generalize hop1 : (luS M N op0 F k).1 = op at h1 h2
  generalize hW : lm w (fun i => if i < k then luI M N op0 F i else -1) op (fun i => cM M i N - cM M i (k + 1)) = W
  have st : ∀ l self2, l < 4 → _ := fun l self2 hl => in_step (M := M) (N := N) (F := F) (w := w) (p := fun i => if i < k then luI M N op0 F i else -1) (op := op) (k := k) (l := l) (c := c) (fil := fil) self self2 hk hl hN hM h1 h2 h3 hF2 (if_neg (by omega))
  have ep : luP M N op0 F k = qf (gd M N op k fil) 4 := by unfold luP; rw [hop1, hfil]
  by_cases hp : luP M N op0 F k < 4
  · have hp2 := hp
    rw [ep] at hp2
    generalize hW2 : lm w (fun i => if i = k then nI (luP M N op0 F k) else (if i < k then luI M N op0 F i else -1)) (opL op (luP M N op0 F k)) (fun i => cM M i N - cM M i (k + 1)) = W2
    have e2 : lmK M N op0 F w (k + 1) = W2 := by
      rw [← hW2]
      unfold lmK
      rw [luS_s, if_pos hp, hop1]
      have : (fun i => if i < k + 1 then luI M N op0 F i else (-1 : Int32)) = (fun i => if i = k then nI (luP M N op0 F k) else (if i < k then luI M N op0 F i else -1)) := funext fun i => by
        by_cases q : i = k
        · subst q
          rw [if_pos (by omega), if_pos rfl]
          exact if_pos hp
        · rw [if_neg q]
          by_cases q2 : i < k
          · rw [if_pos q2, if_pos (by omega)]
          · rw [if_neg q2, if_neg (by omega)]
      rw [this]
    rw [luC_s, if_pos hp, hc, e2]
    have key := lp_at (bot := fun _ _ _ => none) (F := L_X7_linesUp_73 (nI k) self (nI F) (nI (M k))) (ev := fun l (X : Int32 → Int32 → mM → Option (Int32 × mM)) => if l ≤ luP M N op0 F k then X (nI c) (nI l) W else X (nI (c + 1)) (nI l) W2) (luP M N op0 F k + 1) (self (nI (c + 1)) (nI (k + 1)) W2) (fun l hl self2 => ?_) (fun self2 => ?_) (luP M N op0 F k + 1) 0 8192 (by omega) (by omega)
    · simpa using key
    · have hs := st l self2 (by omega)
      rw [hW] at hs
      show (if l ≤ luP M N op0 F k then L_X7_linesUp_73 (nI k) self (nI F) (nI (M k)) self2 (nI c) (nI l) W else _) = _
      rw [if_pos (by omega), hs]
      by_cases q : l = luP M N op0 F k
      · rw [if_neg (show ¬ l + 1 ≤ luP M N op0 F k by omega)]
        have g : gd M N op k fil l = true := by
          rw [q, ep]
          exact qf_yes (gd M N op k fil) 4 hp2
        rw [if_pos g, q, hW2]
      · rw [if_pos (show l + 1 ≤ luP M N op0 F k by omega)]
        have g : gd M N op k fil l = false := qf_no (gd M N op k fil) 4 l (by omega)
        rw [g]
        simp
    · show (if luP M N op0 F k + 1 ≤ luP M N op0 F k then _ else L_X7_linesUp_73 (nI k) self (nI F) (nI (M k)) self2 (nI (c + 1)) (nI (luP M N op0 F k + 1)) W2) = _
      rw [if_neg (by omega)]
      have e5 : W2 5 k = nI (luP M N op0 F k) := by
        rw [← hW2, lm_5 _ _ _ _ (by omega)]
        exact if_pos rfl
      unfold L_X7_linesUp_73
      simp (disch := omega) only [qi_inb, qi_ix, ck_t, e5]
      rw [if_neg (qi_nM (show luP M N op0 F k < 2147483648 by omega)), nI_1]
      split <;> rfl
  · have e2 : lmK M N op0 F w (k + 1) = W := by
      rw [← hW]
      unfold lmK
      rw [luS_s, if_neg hp, hop1]
      have : (fun i => if i < k + 1 then luI M N op0 F i else (-1 : Int32)) = (fun i => if i < k then luI M N op0 F i else -1) := funext fun i => by
        by_cases q : i = k
        · subst q
          rw [if_pos (by omega), if_neg (by omega)]
          exact if_neg hp
        · by_cases q2 : i < k
          · rw [if_pos q2, if_pos (by omega)]
          · rw [if_neg q2, if_neg (by omega)]
      rw [this]
    rw [luC_s, if_neg hp, hc, e2]
    have hq4 : qf (gd M N op k fil) 4 = 4 := by
      have := qf_le (gd M N op k fil) 4
      rw [ep] at hp
      omega
    refine lp_go (fuel := 8192) (ev := fun l (X : Int32 → Int32 → mM → Option (Int32 × mM)) => X (nI c) (nI l) W) 4 (by omega) (fun l hl self2 => ?_) (fun self2 => ?_)
    · have hs := st l self2 hl
      rw [hW] at hs
      show L_X7_linesUp_73 (nI k) self (nI F) (nI (M k)) self2 (nI c) (nI l) W = self2 (nI c) (nI (l + 1)) W
      have g : gd M N op k fil l = false := qf_no (gd M N op k fil) 4 l (by omega)
      rw [hs, g]
      simp
    · show L_X7_linesUp_73 (nI k) self (nI F) (nI (M k)) self2 (nI c) (nI 4) W = _
      unfold L_X7_linesUp_73
      rw [if_pos (by decide), nI_1]
      rfl
end MakeM
section LinesUp
variable {v : mC} {o : Nat} {w : mM} {D E n m f : Nat} {dd : Nat → Nat}
theorem m_linesUpL (R : RlE v o (w 1) D E n m f dd) {j : Nat} (hj : j < f) (hd : D ≤ dd j) {M op0 : Nat → Nat} {F : Nat} (hM : ∀ s, M s = mskC v o m j s (nI (dd j))) (hop : ∀ l, l < 4 → op0 l ≤ 6) (hF : qm (bdS M n op0 0) 15 ≤ F) (hF2 : F ≤ 100) :
    lp (fun _ _ _ => none) (L_X7_linesUp_39 (nI j) (nI F)) 8192 (nI 0) (nI 0) (lmK M n op0 F w 0) = some (nI (luC M n op0 F n), lmK M n op0 F w n) := by
  have hn := R.1.2.1
  have hf := R.1.2.2.2
  have hn1 := R.2.1.2.2.2.1
  have hM16 : ∀ k, k < n → M k < 16 := fun k _ => by rw [hM]; exact mskC_lt _ _ _ _ _ _
  refine lp_go (fuel := 8192) (ev := fun k (X : Int32 → Int32 → mM → Option (Int32 × mM)) => X (nI (luC M n op0 F k)) (nI k) (lmK M n op0 F w k)) n (by omega) (fun k hk self => ?_) (fun self => ?_)
  · show L_X7_linesUp_39 (nI j) (nI F) self (nI (luC M n op0 F k)) (nI k) (lmK M n op0 F w k) = self (nI (luC M n op0 F (k + 1))) (nI (k + 1)) (lmK M n op0 F w (k + 1))
    have e1 : lmK M n op0 F w k 1 = w 1 := lm_1 _ _ _ _
    have e11 : lmK M n op0 F w k 1 1 = nI n := by rw [e1]; exact hn1
    have hset : f_X7_set (nI j) (nI k) (lmK M n op0 F w k) = some (nI (M k)) := by
      rw [m_set (v := v) (o := o) (D := D) (E := E) (n := n) (m := m) (f := f) (dd := dd) (by rw [e1]; exact R) hj hk hd, hM]
    have hMk := hM16 k hk
    have e7 : lmK M n op0 F w k 7 (M k) = nI (cM M (M k) n - cM M (M k) k) := lm_7 _ _ _ _ hMk
    have hcl : ∀ i, cM M i (k + 1) ≤ cM M i n := fun i => qc_mono _ (by omega)
    have hcm := hcl (M k)
    rw [cM_s, if_pos rfl] at hcm
    have e7u : up (lmK M n op0 F w k) 7 (M k) (nI (cM M (M k) n - cM M (M k) k) - 1) = lm w (fun i => if i < k then luI M n op0 F i else -1) (luS M n op0 F k).1 (fun i => cM M i n - cM M i (k + 1)) := lm_u7 w _ _ _ (fun i => cM M i n - cM M i (k + 1)) hMk _ (fun i _ => by
      by_cases q : i = M k
      · rw [if_pos q, q, show (1 : Int32) = nI 1 from rfl, qi_sub (by omega), cM_s, if_pos rfl]
        congr 1
      · rw [if_neg q, cM_s, if_neg (fun h => q h.symm)]
        rfl)
    simp (disch := omega) only [L_X7_linesUp_39, inb_1, ix_1, ck_t, e11, hset, bnd_s, qi_inb, qi_ix, lt_e, e7, e7u]
    rw [if_neg (nI_ge hk (by omega))]
    exact m_one self hk hn hM16 hop hF hF2
  · show L_X7_linesUp_39 (nI j) (nI F) self (nI (luC M n op0 F n)) (nI n) (lmK M n op0 F w n) = _
    have e11 : lmK M n op0 F w n 1 1 = nI n := by rw [show lmK M n op0 F w n 1 = w 1 from lm_1 _ _ _ _]; exact hn1
    simp only [L_X7_linesUp_39, inb_1, ix_1, ck_t, e11]
    rw [if_pos (nI_le (Nat.le_refl _) (by omega))]
/-- the lines of a feast, on both sides -/
def fM (v : mC) (o m j : Nat) (d : Int32) : Nat → Nat := fun s => mskC v o m j s d
def fP (v : mC) (o j : Nat) : Nat → Nat := fun l => ix (v (26, o, j) l)
def fF (v : mC) (o n m j : Nat) (d : Int32) : Nat := qm (bdS (fM v o m j d) n (fP v o j) 0) 15
def fL (v : mC) (o n m j : Nat) (d : Int32) (i : Nat) : Int32 := if i < n then luI (fM v o m j d) n (fP v o j) (fF v o n m j d) i else -1
def fC (v : mC) (o n m j : Nat) (d : Int32) : Nat := luC (fM v o m j d) n (fP v o j) (fF v o n m j d) n
theorem fP_ok (R : RlE v o (w 1) D E n m f dd) {j l : Nat} (hj : j < f) (hl : l < 4) : fP v o j l ≤ 6 ∧ v (26, o, j) l = nI (fP v o j l) ∧ w 1 (585 + 45 * j + 3 * l) = nI (fP v o j l) := by
  obtain ⟨⟨p, h1, h2, h3⟩, -⟩ := (R.2.2.2.2.1 j hj).2.2.1 l hl
  have e : fP v o j l = p := by unfold fP; rw [h3, qi_ix (by omega)]
  rw [e]
  exact ⟨h1, h3, h2⟩
theorem m_linesUp (R : RlE v o (w 1) D E n m f dd) {j : Nat} (hj : j < f) (hd : D ≤ dd j) : ∃ w', f_X7_linesUp (nI j) w = some (nI (fC v o n m j (nI (dd j))), w') ∧ (∀ z, z ≠ 5 → z ≠ 6 → z ≠ 7 → w' z = w z) ∧ (∀ i, i < 30 → w' 5 i = fL v o n m j (nI (dd j)) i) := by
  have hn := R.1.2.1
  have hf := R.1.2.2.2
  generalize hMM : fM v o m j (nI (dd j)) = M
  have hM : ∀ s, M s = mskC v o m j s (nI (dd j)) := fun s => by rw [← hMM]; rfl
  have hM16 : ∀ k, k < n → M k < 16 := fun k _ => by rw [hM]; exact mskC_lt _ _ _ _ _ _
  generalize hPP : fP v o j = P
  have hop : ∀ l, l < 4 → P l ≤ 6 := fun l hl => by rw [← hPP]; exact (fP_ok R hj hl).1
  have hwP : ∀ l, l < 4 → w 1 (585 + 45 * j + 3 * l) = nI (P l) := fun l hl => by rw [← hPP]; exact (fP_ok R hj hl).2.2
  generalize hFF : qm (bdS M n P 0) 15 = F
  have hF54 : F ≤ 54 := by rw [← hFF]; exact Nat.le_trans (qm_le _ 15 0 (by omega)) (bdS_le hn hop _ _)
  generalize hW : rowT (rowT (rowT w 7 (fun _ => 0) 16) 6 (fun l => nI (P l)) 4) 7 (fun i => nI (cM M i n)) 16 = W
  have hcnt := (m_counts R hj hd hwP hM).trans (congrArg some hW)
  have W6 : ∀ l, l < 4 → W 6 l = nI (P l) := fun l hl => by
    rw [← hW, rowT_ne _ _ 16 l (by decide), rowT_in _ 6 _ hl]
  have W7 : ∀ i, i < 16 → W 7 i = nI (cM M i n) := fun i hi => by rw [← hW, rowT_in _ 7 _ hi]
  have Wo : ∀ z, z ≠ 6 → z ≠ 7 → W z = w z := fun z h6 h7 => funext fun i => by
    rw [← hW, rowT_ne _ _ 16 i h7, rowT_ne _ _ 4 i h6, rowT_ne _ _ 16 i h7]
  have hfil : f_X7_fillable W = some (nI F) := by
    rw [m_fillB (M := M) (N := n) (op := P) (c := 0) (fun l hl => ⟨W6 l hl, hop l hl⟩) (fun k hk => W7 k hk) (by omega) hn hM16, hFF]
  have h15 : lp (fun _ _ => none) (L_X7_linesUp_15 (nI j) (nI F)) 8192 (nI 0) (rowT W 5 (fun _ => -1) 0) = some (nI (luC M n P F n), lmK M n P F W n) := by
    refine lp_go (fuel := 8192) (ev := fun k (X : Int32 → mM → Option (Int32 × mM)) => X (nI k) (rowT W 5 (fun _ => -1) k)) 30 (by omega) (fun k hk self => ?_) (fun self => ?_)
    · show L_X7_linesUp_15 (nI j) (nI F) self (nI k) (rowT W 5 (fun _ => -1) k) = self (nI (k + 1)) (rowT W 5 (fun _ => -1) (k + 1))
      simp (disch := omega) only [L_X7_linesUp_15, qi_inb, qi_ix, ck_t, lt_e, nI_1]
      rw [if_neg (show ¬ (30 : Int32) ≤ nI k from nI_ge (b := 30) hk (by omega)), ← rowT_s]
    · show L_X7_linesUp_15 (nI j) (nI F) self (nI 30) (rowT W 5 (fun _ => -1) 30) = _
      simp only [L_X7_linesUp_15]
      rw [if_pos (by decide)]
      have e0 : rowT W 5 (fun _ => (-1 : Int32)) 30 = lmK M n P F W 0 := by
        funext z i
        unfold lmK lm rowT
        by_cases z5 : z = 5
        · subst z5
          by_cases i30 : i < 30
          · simp [i30]
          · simp [i30]
        · simp only [z5, false_and, if_false]
          by_cases z6 : z = 6
          · subst z6
            by_cases i4 : i < 4
            · rw [if_pos ⟨rfl, i4⟩]
              exact W6 i i4
            · simp [i4]
          · simp only [z6, false_and, if_false]
            by_cases z7 : z = 7 ∧ i < 16
            · rw [if_pos z7, z7.1]
              exact W7 i z7.2
            · rw [if_neg z7]
      rw [e0]
      exact m_linesUpL (v := v) (o := o) (D := D) (E := E) (m := m) (f := f) (dd := dd) (by rw [Wo 1 (by decide) (by decide)]; exact R) hj hd hM hop (by omega) (by omega)
  rw [rowT_0] at h15
  refine ⟨lmK M n P F W n, ?_, fun z h5 h6 h7 => ?_, fun i hi => ?_⟩
  · unfold f_X7_linesUp
    rw [hcnt, bnd_s, hfil, bnd_s]
    refine h15.trans ?_
    unfold fC fF
    rw [hMM, hPP, hFF]
  · rw [← Wo z h6 h7]
    exact funext fun i => lm_o _ _ _ _ i h5 h6 h7
  · rw [show lmK M n P F W n 5 i = _ from lm_5 _ _ _ _ hi]
    unfold fL fF
    rw [hMM, hPP, hFF]
theorem s_make (R : RlE v o (w 1) D E n m f dd) {j : Nat} (hj : j < f) : ∃ v', f_X3_make o (nI j) v = some v' ∧ (∀ z, z.1 < 36 → v' z = v z) ∧ (∀ z, z.1 = 40 → v' z = v z) ∧ (∀ i, i < 30 → v' (36, 0, 0) i = fL v o n m j (nI (dd j)) i) := by
  have hn := R.1.2.1
  have hm := R.1.2.2.1
  have hf := R.1.2.2.2
  have hn1 := R.2.1.2.2.1
  have hm1 := R.2.1.2.2.2.2.1
  have hd1 := (R.2.2.2.2.1 j hj).1.2.2.2
  have hl := s_list (o := o) (j := j) hn1 hn hm1 hm (show j < 20 by omega)
  rw [hd1] at hl
  generalize hMM : fM v o m j (nI (dd j)) = M
  have hM : (fun s => nI (mskC v o m j s (nI (dd j)))) = fun s => nI (M s) := by rw [← hMM]; rfl
  have hM16 : ∀ k, k < n → M k < 16 := fun k _ => by rw [← hMM]; exact mskC_lt _ _ _ _ _ _
  rw [hM] at hl
  generalize hPP : fP v o j = P
  have hop : ∀ l, l < 4 → P l ≤ 6 := fun l hl => by rw [← hPP]; exact (fP_ok R hj hl).1
  have hvP : ∀ l, l < 4 → v (26, o, j) l = nI (P l) := fun l hl => by rw [← hPP]; exact (fP_ok R hj hl).2.1
  generalize hFF : qm (bdS M n P 0) 15 = F
  have hF54 : F ≤ 54 := by rw [← hFF]; exact Nat.le_trans (qm_le _ 15 0 (by omega)) (bdS_le hn hop _ _)
  generalize hA : rowT v (37, 0, 0) (fun s => nI (M s)) n = A at hl
  have hfill := s_fill (n0 := 30) (by omega) (36, 0, 0) (-1) A
  generalize hB : rowT A (36, 0, 0) (fun _ => (-1 : Int32)) 30 = B at hfill
  generalize hC : upA B (38, 0, 0) (va_cpy (B (26, o, j)) (B (38, 0, 0)) 0 0 4) = C
  have Ao : ∀ z i, z ≠ (37, 0, 0) → A z i = v z i := fun z i h => by rw [← hA, rowT_ne _ _ n i h]
  have Bo : ∀ z i, z ≠ (37, 0, 0) → z ≠ (36, 0, 0) → B z i = v z i := fun z i h h2 => by rw [← hB, rowT_ne _ _ 30 i h2, Ao z i h]
  have Co : ∀ z i, z ≠ (37, 0, 0) → z ≠ (36, 0, 0) → z ≠ (38, 0, 0) → C z i = v z i := fun z i h h2 h3 => by rw [← hC, upA_r, if_neg h3, Bo z i h h2]
  have C37 : ∀ k, k < n → C (37, 0, 0) k = nI (M k) ∧ M k < 16 := fun k hk => ⟨by
    rw [← hC, upA_r, if_neg (by decide), ← hB, rowT_ne _ _ 30 k (by decide), ← hA, rowT_in _ _ _ hk], hM16 k hk⟩
  have C36 : ∀ k, k < 30 → C (36, 0, 0) k = -1 := fun k hk => by
    rw [← hC, upA_r, if_neg (by decide), ← hB, rowT_in _ _ _ hk]
  have C38 : ∀ l, l < 4 → C (38, 0, 0) l = nI (P l) := fun l hl => by
    rw [← hC, upA_r, if_pos rfl, cpy_r, if_pos hl, Bo (26, o, j) l (kne 26 o j 37 (by omega)) (kne 26 o j 36 (by omega)), hvP l hl]
  have hset := s_setBounds (v := C) (M := M) (N := n) (op := P) C37 hn C38
  generalize hE : rowT C (39, 0, 0) (fun t => nI (bdS M n P 0 t)) 16 = E at hset
  have Eo : ∀ z i, z ≠ (39, 0, 0) → E z i = C z i := fun z i h => by rw [← hE, rowT_ne _ _ 16 i h]
  have hleast : f_X3_leastBound E = some (nI F) := by
    rw [s_leastBound (b := bdS M n P 0) (fun t ht => ⟨by rw [← hE, rowT_in _ _ _ ht], Nat.le_trans (bdS_le hn hop _ _) (by omega)⟩), hFF]
  have e2 : E (2, o, 0) 0 = nI n := by
    rw [Eo _ _ (kne 2 o 0 39 (by omega)), Co _ _ (kne 2 o 0 37 (by omega)) (kne 2 o 0 36 (by omega)) (kne 2 o 0 38 (by omega)), hn1]
  have c2 : C (2, o, 0) 0 = nI n := by
    rw [Co _ _ (kne 2 o 0 37 (by omega)) (kne 2 o 0 36 (by omega)) (kne 2 o 0 38 (by omega)), hn1]
  have e0 : E = lwK M n P F E 0 := by
    funext z i
    unfold lwK lw
    by_cases z36 : z = (36, 0, 0) ∧ i < 30
    · rw [if_pos z36, z36.1, Eo _ _ (by decide), C36 i z36.2]
      exact (if_neg (Nat.not_lt_zero i)).symm
    · rw [if_neg z36]
      by_cases z38 : z = (38, 0, 0) ∧ i < 4
      · rw [if_pos z38, z38.1, Eo _ _ (by decide), C38 i z38.2]
        rfl
      · rw [if_neg z38]
        by_cases z39 : z = (39, 0, 0) ∧ i < 16
        · rw [if_pos z39, z39.1, ← hE, rowT_in _ _ _ z39.2]
          rfl
        · rw [if_neg z39]
  have hlp := s_makeL (M := M) (N := n) (op0 := P) (F := F) (v := E) (o := o) e2 hn (fun k hk => by rw [Eo _ _ (by decide)]; exact C37 k hk) hop (by omega) (by omega)
  rw [← e0] at hlp
  refine ⟨lwK M n P F E n, ?_, fun z hz => funext fun i => ?_, fun z hz => funext fun i => ?_, fun i hi => ?_⟩
  · have i0 : ix (0 : Int32) = 0 := rfl
    have i4 : ix (4 : Int32) = 4 := rfl
    have c4 : cpo (0 : Int32) (0 : Int32) (4 : Int32) 4 4 = true := by decide
    unfold f_X3_make
    rw [hl, bnd_s, hfill, bnd_s]
    simp (disch := omega) only [qi_inb, qi_ix, ck_t, lt_e, i0, i4, c4, hC, c2, hset, bnd_s, hleast]
    exact hlp
  · have k1 : ∀ c, 36 ≤ c → z ≠ (c, 0, 0) := fun c hc e => by
      have : z.1 = c := by rw [e]
      omega
    rw [show lwK M n P F E n z i = E z i from lw_o _ _ _ _ i (k1 36 (by omega)) (k1 38 (by omega)) (k1 39 (by omega)), Eo z i (k1 39 (by omega)), Co z i (k1 37 (by omega)) (k1 36 (by omega)) (k1 38 (by omega))]
  · have k1 : ∀ c, c < 40 → z ≠ (c, 0, 0) := fun c hc e => by
      have : z.1 = c := by rw [e]
      omega
    rw [show lwK M n P F E n z i = E z i from lw_o _ _ _ _ i (k1 36 (by omega)) (k1 38 (by omega)) (k1 39 (by omega)), Eo z i (k1 39 (by omega)), Co z i (k1 37 (by omega)) (k1 36 (by omega)) (k1 38 (by omega))]
  · rw [show lwK M n P F E n (36, 0, 0) i = _ from lw_36 _ _ _ _ hi]
    unfold fL fF
    rw [hMM, hPP, hFF]
end LinesUp
