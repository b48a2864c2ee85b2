/-! THE LINEUP IN STEP: singer by singer, the class and the reference give the same line -/
theorem qi_dec {x : Nat} (h : 0 < x) : nI x + (-1 : Int32) = nI (x - 1) := by
  rw [← Int32.sub_eq_add_neg]
  exact qi_sub h
section LUp
variable (M : Nat → Nat) (N : Nat) (op0 : Nat → Nat) (F : Nat)
/-- the places left and what can be filled, when k singers have been told -/
def luS : Nat → (Nat → Nat) × Nat
  | 0 => (op0, F)
  | k + 1 => if qf (gd M N (luS k).1 k (luS k).2) 4 < 4 then (opL (luS k).1 (qf (gd M N (luS k).1 k (luS k).2) 4), (luS k).2 - 1) else luS k
def luP (k : Nat) : Nat := qf (gd M N (luS M N op0 F k).1 k (luS M N op0 F k).2) 4
def luI (k : Nat) : Int32 := if luP M N op0 F k < 4 then nI (luP M N op0 F k) else -1
def luC (k : Nat) : Nat := qc (fun i => decide (luP M N op0 F i < 4)) k
end LUp
theorem gd_iff {M : Nat → Nat} {N : Nat} {op : Nat → Nat} {cur l fil : Nat} (hc : cur < N) (hl : l < 4) (hM : M cur < 16) (hf : qm (bdS M N op cur) 15 ≤ fil) : gd M N op cur fil l = true ↔ (M cur).testBit l = true ∧ 0 < op l ∧ qm (bdS M N (opL op l) (cur + 1)) 15 + 1 = fil := by
  unfold gd
  simp only [Bool.and_eq_true, decide_eq_true_eq]
  constructor
  · intro ⟨⟨h1, h2⟩, h3⟩
    refine ⟨h1, h2, (good_iff hc hl hM h2 h1 hf).mp fun t ht => ?_⟩
    have h4 := (qc_0.mp (Nat.eq_zero_of_not_pos h3)) t ht
    have h5 := of_decide_eq_false h4
    omega
  · intro ⟨h1, h2, h3⟩
    have g := (good_iff hc hl hM h2 h1 hf).mpr h3
    refine ⟨⟨h1, h2⟩, ?_⟩
    rw [qc_pos]
    intro ⟨t, ht, e⟩
    have e1 := of_decide_eq_true e
    have e2 := g t ht
    omega
section LUq
variable {M : Nat → Nat} {N : Nat} {op0 : Nat → Nat} {F : Nat}
theorem luS_s (k : Nat) : luS M N op0 F (k + 1) = if luP M N op0 F k < 4 then (opL (luS M N op0 F k).1 (luP M N op0 F k), (luS M N op0 F k).2 - 1) else luS M N op0 F k := rfl
theorem luC_s (k : Nat) : luC M N op0 F (k + 1) = luC M N op0 F k + (if luP M N op0 F k < 4 then 1 else 0) := by
  unfold luC
  rw [qc_s]
  simp only [decide_eq_true_eq]
theorem luS_ok (hM : ∀ k, k < N → M k < 16) (hop : ∀ l, l < 4 → op0 l ≤ 6) (hF : qm (bdS M N op0 0) 15 ≤ F) : ∀ k, k ≤ N → (∀ l, l < 4 → (luS M N op0 F k).1 l ≤ 6) ∧ qm (bdS M N (luS M N op0 F k).1 k) 15 ≤ (luS M N op0 F k).2 ∧ (luS M N op0 F k).2 + luC M N op0 F k = F
  | 0, _ => ⟨hop, hF, rfl⟩
  | k + 1, hk => by
    obtain ⟨h1, h2, h3⟩ := luS_ok hM hop hF k (by omega)
    rw [luS_s, luC_s]
    by_cases hp : luP M N op0 F k < 4
    · rw [if_pos hp, if_pos hp]
      have hy := qf_yes (gd M N (luS M N op0 F k).1 k (luS M N op0 F k).2) 4 hp
      obtain ⟨g1, g2, g3⟩ := (gd_iff (by omega) hp (hM k (by omega)) h2).mp hy
      refine ⟨fun l hl => ?_, ?_, ?_⟩
      · have := h1 l hl
        show opL _ _ l ≤ 6
        unfold opL
        split <;> omega
      · show qm (bdS M N (opL (luS M N op0 F k).1 (luP M N op0 F k)) (k + 1)) 15 ≤ (luS M N op0 F k).2 - 1
        have g4 : qm (bdS M N (opL (luS M N op0 F k).1 (luP M N op0 F k)) (k + 1)) 15 + 1 = (luS M N op0 F k).2 := g3
        omega
      · show (luS M N op0 F k).2 - 1 + _ = F
        have g4 : qm (bdS M N (opL (luS M N op0 F k).1 (luP M N op0 F k)) (k + 1)) 15 + 1 = (luS M N op0 F k).2 := g3
        omega
    · rw [if_neg hp, if_neg hp]
      refine ⟨h1, ?_, h3⟩
      obtain ⟨t, ht, e⟩ := qm_at (bdS M N (luS M N op0 F k).1 k) 15
      have a1 := qm_le (bdS M N (luS M N op0 F k).1 (k + 1)) 15 t ht
      have a2 := bdS_N (M := M) (N := N) (op := (luS M N op0 F k).1) (cur := k) (by omega) t
      omega
theorem luP_pos (hM : ∀ k, k < N → M k < 16) (hop : ∀ l, l < 4 → op0 l ≤ 6) (hF : qm (bdS M N op0 0) 15 ≤ F) {k : Nat} (hk : k < N) (hp : luP M N op0 F k < 4) : 0 < (luS M N op0 F k).2 ∧ 0 < (luS M N op0 F k).1 (luP M N op0 F k) ∧ (M k).testBit (luP M N op0 F k) = true := by
  obtain ⟨h1, h2, h3⟩ := luS_ok hM hop hF k (by omega)
  have hy := qf_yes (gd M N (luS M N op0 F k).1 k (luS M N op0 F k).2) 4 hp
  obtain ⟨g1, g2, g3⟩ := (gd_iff hk hp (hM k hk) h2).mp hy
  exact ⟨by omega, g2, g1⟩
end LUq
/-- the class's lineup rows -/
def lw (v : mC) (p : Nat → Int32) (op : Nat → Nat) (b : Nat → Nat) : mC := fun z i => if z = (36, 0, 0) ∧ i < 30 then p i else if z = (38, 0, 0) ∧ i < 4 then nI (op i) else if z = (39, 0, 0) ∧ i < 16 then nI (b i) else v z i
theorem lw_36 (v : mC) (p : Nat → Int32) (op b : Nat → Nat) {i : Nat} (h : i < 30) : lw v p op b (36, 0, 0) i = p i := by unfold lw; rw [if_pos ⟨rfl, h⟩]
theorem lw_38 (v : mC) (p : Nat → Int32) (op b : Nat → Nat) {i : Nat} (h : i < 4) : lw v p op b (38, 0, 0) i = nI (op i) := by
  unfold lw
  rw [if_neg (fun q => absurd q.1 (by decide)), if_pos ⟨rfl, h⟩]
theorem lw_39 (v : mC) (p : Nat → Int32) (op b : Nat → Nat) {i : Nat} (h : i < 16) : lw v p op b (39, 0, 0) i = nI (b i) := by
  unfold lw
  rw [if_neg (fun q => absurd q.1 (by decide)), if_neg (fun q => absurd q.1 (by decide)), if_pos ⟨rfl, h⟩]
theorem lw_o (v : mC) (p : Nat → Int32) (op b : Nat → Nat) {z : kC} (i : Nat) (h1 : z ≠ (36, 0, 0)) (h2 : z ≠ (38, 0, 0)) (h3 : z ≠ (39, 0, 0)) : lw v p op b z i = v z i := by
  unfold lw
  rw [if_neg (fun q => h1 q.1), if_neg (fun q => h2 q.1), if_neg (fun q => h3 q.1)]
section MakeC
variable {M : Nat → Nat} {N : Nat} {op0 : Nat → Nat} {F : Nat}
def lwK (M : Nat → Nat) (N : Nat) (op0 : Nat → Nat) (F : Nat) (v : mC) (k : Nat) : mC := lw v (fun i => if i < k then luI M N op0 F i else -1) (luS M N op0 F k).1 (bdS M N (luS M N op0 F k).1 k)
theorem s_makeL {v : mC} {o : Nat} (hn : v (2, o, 0) 0 = nI N) (hN : N ≤ 30) (hM : ∀ k, k < N → v (37, 0, 0) k = nI (M k) ∧ M k < 16) (hop : ∀ l, l < 4 → op0 l ≤ 6) (hF : qm (bdS M N op0 0) 15 ≤ F) (hF2 : F ≤ 100) :
    lp (fun _ _ _ => none) (L_X3_make_52 o) 8192 (nI F) (nI 0) (lwK M N op0 F v 0) = some (lwK M N op0 F v N) := by
  refine lp_go (fuel := 8192) (ev := fun k (X : Int32 → Int32 → mC → Option mC) => X (nI (luS M N op0 F k).2) (nI k) (lwK M N op0 F v k)) N (by omega) (fun k hk self => ?_) (fun self => ?_)
  · show L_X3_make_52 o self (nI (luS M N op0 F k).2) (nI k) (lwK M N op0 F v k) = self (nI (luS M N op0 F (k + 1)).2) (nI (k + 1)) (lwK M N op0 F v (k + 1))
    obtain ⟨h1, h2, h3⟩ := luS_ok (fun k hk => (hM k hk).2) hop hF k (by omega)
    have hW2 : lwK M N op0 F v k (2, o, 0) 0 = nI N := (lw_o v _ _ _ 0 (kne 2 o 0 36 (by omega)) (kne 2 o 0 38 (by omega)) (kne 2 o 0 39 (by omega))).trans hn
    have hW37 : ∀ i, lwK M N op0 F v k (37, 0, 0) i = v (37, 0, 0) i := fun i => lw_o v _ _ _ i (by decide) (by decide) (by decide)
    have hLU : LU (lwK M N op0 F v k) M N (luS M N op0 F k).1 k := ⟨fun i hi => by rw [hW37]; exact hM i hi, fun l hl => ⟨lw_38 v _ _ _ hl, h1 l hl⟩, fun t ht => lw_39 v _ _ _ ht⟩
    have hfst : f_X3_firstGoodLine (nI (M k)) (nI (luS M N op0 F k).2) (lwK M N op0 F v k) = some (luI M N op0 F k) := s_first hLU hN hk (by omega)
    have hMk := (hM k hk).1
    have hMl := (hM k hk).2
    have e37 : ∀ x, up (lwK M N op0 F v k) (36, 0, 0) k x (37, 0, 0) k = nI (M k) := fun x => by
      rw [up_ne _ _ _ (show ((37, 0, 0) : kC) ≠ (36, 0, 0) by decide), hW37]
      exact hMk
    have hst : f_X3_strikeOut (nI (M k)) (luI M N op0 F k) (up (lwK M N op0 F v k) (36, 0, 0) k (luI M N op0 F k)) = some (lwK M N op0 F v (k + 1)) := by
      have base : ∀ (op : Nat → Nat) (fil : Nat), luS M N op0 F (k + 1) = (op, fil) → ∀ (z : kC) (i : Nat), lwK M N op0 F v (k + 1) z i = lw v (fun i => if i < k + 1 then luI M N op0 F i else -1) op (bdS M N op (k + 1)) z i := fun op fil h z i => by unfold lwK; rw [h]
      by_cases hp : luP M N op0 F k < 4
      · obtain ⟨p1, p2, p3⟩ := luP_pos (fun k hk => (hM k hk).2) hop hF hk hp
        have e : luI M N op0 F k = nI (luP M N op0 F k) := if_pos hp
        have es := (luS_s (M := M) (N := N) (op0 := op0) (F := F) k).trans (if_pos hp)
        rw [e, s_strike (nI (luP M N op0 F k)) (fun t => (if M k &&& t = 0 then 0 else 1) + (if t.testBit (luP M N op0 F k) then 0 else 1)) (fun t ht u => s_cost hMl ht hp u), if_neg (qi_nM (by omega))]
        simp (disch := omega) only [qi_inb, qi_ix, ck_t]
        refine congrArg some (funext fun z => funext fun i => ?_)
        rw [base _ _ es, up_r]
        unfold rowT lw
        by_cases z38 : z = (38, 0, 0)
        · subst z38
          simp only [show ((38, 0, 0) : kC) ≠ (36, 0, 0) by decide, show ((38, 0, 0) : kC) ≠ (39, 0, 0) by decide, false_and, true_and, if_false, up_r]
          by_cases hi : i = luP M N op0 F k
          · subst hi
            rw [if_pos rfl, if_pos hp]
            show lwK M N op0 F v k (38, 0, 0) (luP M N op0 F k) - 1 = nI (opL (luS M N op0 F k).1 (luP M N op0 F k) (luP M N op0 F k))
            rw [show lwK M N op0 F v k (38, 0, 0) (luP M N op0 F k) = nI ((luS M N op0 F k).1 (luP M N op0 F k)) from lw_38 v _ _ _ hp, show (1 : Int32) = nI 1 from rfl, qi_sub p2]
            unfold opL
            rw [if_pos rfl]
          · rw [if_neg hi]
            by_cases i4 : i < 4
            · rw [if_pos i4]
              show lwK M N op0 F v k (38, 0, 0) i = _
              rw [show lwK M N op0 F v k (38, 0, 0) i = nI ((luS M N op0 F k).1 i) from lw_38 v _ _ _ i4]
              unfold opL
              rw [if_neg hi]
            · rw [if_neg i4]
              unfold lwK lw
              simp [i4]
        · simp only [z38, false_and, if_false]
          by_cases z39 : z = (39, 0, 0)
          · subst z39
            simp only [show ((39, 0, 0) : kC) ≠ (36, 0, 0) by decide, false_and, true_and, if_false, up_r]
            by_cases i16 : i < 16
            · rw [if_pos i16, if_pos i16]
              rw [show lwK M N op0 F v k (39, 0, 0) i = nI (bdS M N (luS M N op0 F k).1 k i) from lw_39 v _ _ _ i16]
              have b1 := bdS_L (M := M) (N := N) hk hp p2 i
              rw [qi_sub (by omega)]
              refine congrArg nI ?_
              show _ = bdS M N (opL (luS M N op0 F k).1 (luP M N op0 F k)) (k + 1) i
              omega
            · rw [if_neg i16, if_neg i16]
              unfold lwK lw
              simp [i16]
          · simp only [z39, false_and, if_false, up_r]
            by_cases z36 : z = (36, 0, 0)
            · subst z36
              simp only [true_and]
              by_cases hi : i = k
              · subst hi
                rw [if_pos rfl, if_pos (show i < 30 by omega), if_pos (show i < i + 1 by omega), e]
              · rw [if_neg hi]
                by_cases i30 : i < 30
                · rw [if_pos i30, show lwK M N op0 F v k (36, 0, 0) i = (if i < k then luI M N op0 F i else -1) from lw_36 v _ _ _ i30]
                  by_cases ik : i < k
                  · rw [if_pos ik, if_pos (by omega)]
                  · rw [if_neg ik, if_neg (by omega)]
                · rw [if_neg i30]
                  unfold lwK lw
                  simp [i30]
            · simp only [z36, false_and, if_false]
              unfold lwK lw
              simp only [z36, z38, z39, false_and, if_false]
      · have e : luI M N op0 F k = -1 := if_neg hp
        have es := (luS_s (M := M) (N := N) (op0 := op0) (F := F) k).trans (if_neg hp)
        rw [e, s_strike (-1) (fun t => if M k &&& t = 0 then 0 else 1) (fun t ht u => s_costN hMl ht u), if_pos rfl]
        refine congrArg some (funext fun z => funext fun i => ?_)
        rw [base (luS M N op0 F k).1 (luS M N op0 F k).2 es]
        unfold rowT lw
        by_cases z39 : z = (39, 0, 0)
        · subst z39
          simp only [show ((39, 0, 0) : kC) ≠ (36, 0, 0) by decide, show ((39, 0, 0) : kC) ≠ (38, 0, 0) by decide, false_and, true_and, if_false, up_r]
          by_cases i16 : i < 16
          · rw [if_pos i16, if_pos i16]
            rw [show lwK M N op0 F v k (39, 0, 0) i = nI (bdS M N (luS M N op0 F k).1 k i) from lw_39 v _ _ _ i16]
            have b1 := bdS_N (M := M) (N := N) (op := (luS M N op0 F k).1) hk i
            rw [qi_sub (by omega)]
            refine congrArg nI ?_
            omega
          · rw [if_neg i16, if_neg i16]
            unfold lwK lw
            simp [i16]
        · simp only [z39, false_and, if_false, up_r]
          by_cases z36 : z = (36, 0, 0)
          · subst z36
            simp only [true_and]
            by_cases hi : i = k
            · subst hi
              rw [if_pos rfl, if_pos (show i < 30 by omega), if_pos (show i < i + 1 by omega), e]
            · rw [if_neg hi]
              by_cases i30 : i < 30
              · rw [if_pos i30, show lwK M N op0 F v k (36, 0, 0) i = (if i < k then luI M N op0 F i else -1) from lw_36 v _ _ _ i30]
                by_cases ik : i < k
                · rw [if_pos ik, if_pos (by omega)]
                · rw [if_neg ik, if_neg (by omega)]
              · rw [if_neg i30]
                unfold lwK lw
                simp [i30]
          · simp only [z36, false_and, if_false]
            unfold lwK lw
            simp only [z36, z39, false_and, if_false]
    simp (disch := omega) only [L_X3_make_52, hW2, qi_nle, qi_inb, qi_ix, ck_t, hW37, hMk, hfst, bnd_s, lt_e, e37, hst]
    rw [if_neg (by omega), nI_1]
    by_cases hp : luP M N op0 F k < 4
    · obtain ⟨p1, p2, p3⟩ := luP_pos (fun k hk => (hM k hk).2) hop hF hk hp
      have e : luI M N op0 F k = nI (luP M N op0 F k) := if_pos hp
      rw [if_neg (by rw [e]; exact qi_nM (by omega)), luS_s, if_pos hp]
      rw [qi_dec p1]
    · rw [if_pos (show luI M N op0 F k = -1 from if_neg hp), luS_s, if_neg hp]
  · show L_X3_make_52 o self (nI (luS M N op0 F N).2) (nI N) (lwK M N op0 F v N) = _
    have hW2 : lwK M N op0 F v N (2, o, 0) 0 = nI N := (lw_o v _ _ _ 0 (kne 2 o 0 36 (by omega)) (kne 2 o 0 38 (by omega)) (kne 2 o 0 39 (by omega))).trans hn
    simp (disch := omega) only [L_X3_make_52, hW2, qi_nle]
    rw [if_pos (Nat.le_refl N)]
end MakeC
