/-! A FEAST IS HELD: on both sides -/
def fsum (L g : Nat → Int32) : Nat → Int32
  | 0 => 0
  | k + 1 => if L k = -1 then fsum L g k else fsum L g k + g k
theorem fsum_s (L g : Nat → Int32) (k : Nat) : fsum L g (k + 1) = if L k = -1 then fsum L g k else fsum L g k + g k := rfl
theorem fsum_ext (L g : Nat → Int32) {n : Nat} : ∀ {N : Nat}, n ≤ N → (∀ k, n ≤ k → k < N → L k = -1) → fsum L g N = fsum L g n
  | 0, h, _ => by
    have : n = 0 := by omega
    rw [this]
  | N + 1, h, h2 => by
    by_cases e : n = N + 1
    · rw [e]
    · rw [fsum_s, if_pos (h2 N (by omega) (by omega)), fsum_ext L g (N := N) (by omega) (fun k h3 h4 => h2 k h3 (by omega))]
theorem fsum_c {L g h : Nat → Int32} : ∀ {n : Nat}, (∀ k, k < n → g k = h k) → fsum L g n = fsum L h n
  | 0, _ => rfl
  | n + 1, e => by rw [fsum_s, fsum_s, fsum_c (fun k hk => e k (by omega)), e n (by omega)]
theorem rowT_skip {κ : Type} [DecidableEq κ] (v : κ → Nat → Int32) (z0 : κ) (g : Nat → Int32) (k : Nat) (h : g k = v z0 k) : rowT v z0 g k = rowT v z0 g (k + 1) := by
  funext z i
  unfold rowT
  by_cases e : z = z0 ∧ i < k
  · rw [if_pos e, if_pos ⟨e.1, by omega⟩]
  · rw [if_neg e]
    by_cases e2 : z = z0 ∧ i < k + 1
    · rw [if_pos e2]
      have h3 := e2.2
      have h4 : ¬ i < k := fun q => e ⟨e2.1, q⟩
      have : i = k := by omega
      rw [this, h, e2.1]
    · rw [if_neg e2]
theorem keq3 {k o j k' o' j' : Nat} (h : ((k, o, j) : kC) = (k', o', j')) : k = k' ∧ o = o' ∧ j = j' := by
  have h1 := congrArg Prod.fst h
  have h2 := congrArg (fun z : kC => z.2.1) h
  have h3 := congrArg (fun z : kC => z.2.2) h
  exact ⟨h1, h2, h3⟩
theorem kn {k k' : Nat} (h : k ≠ k') (o j o' j' : Nat) : ((k, o, j) : kC) ≠ (k', o', j') := fun e => h (keq3 e).1
section HoldC
variable {v : mC} {o n b : Nat} {L : Nat → Int32}
theorem s_settle {S : Nat} (hn1 : v (2, o, 0) 0 = nI n) (hn : n ≤ 30) (hb : b < 20) (hL : ∀ i, i < 30 → v (36, 0, 0) i = L i) (hS : f_X1_allPlaces o (nI b) v = some (nI S)) :
    f_X0_settleAccounts o (nI b) v = some (up (up (up (up v (1, o, 0) 7 (v (1, o, 0) 7 + v (20, o, 0) b * nI (30 - qc (fun i => decide (L i = -1)) 30))) (1, o, 0) 8 (v (1, o, 0) 8 + fsum L (v (9, o, 0)) n)) (1, o, 0) 9 (v (1, o, 0) 9 + v (20, o, 0) b * (nI S - nI (30 - qc (fun i => decide (L i = -1)) 30)))) (1, o, 0) 5 (v (1, o, 0) 5 + (v (20, o, 0) b * nI (30 - qc (fun i => decide (L i = -1)) 30) - fsum L (v (9, o, 0)) n - v (20, o, 0) b * (nI S - nI (30 - qc (fun i => decide (L i = -1)) 30))))) := by
  have hall : f_X3_countAll v = some (nI (30 - qc (fun i => decide (L i = -1)) 30)) := by
    rw [s_countAll, qc_cong (q := fun i => decide (L i = -1)) (fun k hk => by rw [hL k hk])]
  generalize 30 - qc (fun i => decide (L i = -1)) 30 = C at *
  unfold f_X0_settleAccounts
  refine lp_go (fuel := 8192) (ev := fun k (X : Int32 → Int32 → Option mC) => X (fsum L (v (9, o, 0)) k) (nI k)) n (by omega) (fun k hk self => ?_) (fun self => ?_)
  · show L_X0_settleAccounts_5 o (nI b) v self (fsum L (v (9, o, 0)) k) (nI k) = self (fsum L (v (9, o, 0)) (k + 1)) (nI (k + 1))
    simp (disch := omega) only [L_X0_settleAccounts_5, hn1, qi_nle, qi_inb, qi_ix, ck_t, hL, nI_1, fsum_s]
    rw [if_neg (by omega)]
    by_cases h : L k = -1
    · rw [if_pos h, if_pos h]
    · rw [if_neg h, if_neg h]
  · show L_X0_settleAccounts_5 o (nI b) v self (fsum L (v (9, o, 0)) n) (nI n) = _
    simp (disch := omega) only [L_X0_settleAccounts_5, hn1, qi_nle, qi_inb, qi_ix, ck_t, hall, hS, bnd_s, lt_e]
    rw [if_pos (Nat.le_refl n)]
    have r : ∀ (u : mC) (i j : Nat) (x : Int32), j ≠ i → up u (1, o, 0) i x (1, o, 0) j = u (1, o, 0) j := fun u i j x h => by rw [up_r, if_neg (fun q => h q.2)]
    simp only [r _ 7 8 _ (by decide), r _ 8 9 _ (by decide), r _ 7 9 _ (by decide), r _ 9 5 _ (by decide), r _ 8 5 _ (by decide), r _ 7 5 _ (by decide)]
theorem s_enter {c : Nat} (hn1 : v (2, o, 0) 0 = nI n) (hn : n ≤ 30) (hb : b < 20) (hL : ∀ i, i < 30 → v (36, 0, 0) i = L i) (hch : f_X3_chooseDescant o (13, o, 0) v = some (nxI c)) (hc : c = 99 ∨ c < n) :
    ∃ v', f_X0_enterLineup o (nI b) v = some v' ∧ (∀ z, z ≠ (21, o, 0) → z ≠ (13, o, 0) → z ≠ (29, o, b) → z ≠ (12, o, 0) → v' z = v z) ∧ (∀ i, v' (21, o, 0) i = if i = b then nxI c else v (21, o, 0) i) ∧ (∀ i, i < 30 → v' (13, o, 0) i = if i = c then v (13, o, 0) i + 1 else v (13, o, 0) i) ∧ (∀ i, i < 30 → v' (29, o, b) i = L i) ∧ (∀ i, i < n → v' (12, o, 0) i = if L i = -1 then v (12, o, 0) i else v (12, o, 0) i + 1) := by
  obtain ⟨u, hu⟩ : ∃ u, u = if c = 99 then up v (21, o, 0) b (nxI c) else up (up v (21, o, 0) b (nxI c)) (13, o, 0) c (up v (21, o, 0) b (nxI c) (13, o, 0) c + 1) := ⟨_, rfl⟩
  have k1 : ∀ x y z q : Nat, ((21, x, y) : kC) ≠ (13, z, q) := fun x y z q => kn (by decide) _ _ _ _
  have k2 : ∀ x y z q : Nat, ((13, x, y) : kC) ≠ (21, z, q) := fun x y z q => kn (by decide) _ _ _ _
  have uo : ∀ z, z ≠ (21, o, 0) → z ≠ (13, o, 0) → u z = v z := fun z h1 h2 => by
    rw [hu]
    by_cases e : c = 99
    · rw [if_pos e]
      exact funext fun i => by rw [up_r, if_neg (fun q => h1 q.1)]
    · rw [if_neg e]
      exact funext fun i => by rw [up_r, if_neg (fun q => h2 q.1), up_r, if_neg (fun q => h1 q.1)]
  have u21 : ∀ i, u (21, o, 0) i = if i = b then nxI c else v (21, o, 0) i := fun i => by
    rw [hu]
    by_cases e : c = 99
    · rw [if_pos e, up_r]
      by_cases q : i = b
      · rw [if_pos ⟨rfl, q⟩, if_pos q]
      · rw [if_neg (fun e => q e.2), if_neg q]
    · rw [if_neg e, up_r, if_neg (fun q => k1 _ _ _ _ q.1), up_r]
      by_cases q : i = b
      · rw [if_pos ⟨rfl, q⟩, if_pos q]
      · rw [if_neg (fun e => q e.2), if_neg q]
  have u13 : ∀ i, i < 30 → u (13, o, 0) i = if i = c then v (13, o, 0) i + 1 else v (13, o, 0) i := fun i hi => by
    rw [hu]
    by_cases e : c = 99
    · rw [if_pos e, up_r, if_neg (fun q => k2 _ _ _ _ q.1), if_neg (by omega)]
    · rw [if_neg e, up_r]
      by_cases q : i = c
      · rw [if_pos ⟨rfl, q⟩, if_pos q, up_r, if_neg (fun q => k2 _ _ _ _ q.1), q]
      · rw [if_neg (fun e => q e.2), if_neg q, up_r, if_neg (fun q => k2 _ _ _ _ q.1)]
  generalize hA : upA u (29, o, b) (va_cpy (u (36, 0, 0)) (u (29, o, b)) 0 0 30) = A
  have Ao : ∀ z, z ≠ (29, o, b) → A z = u z := fun z h => funext fun i => by rw [← hA, upA_r, if_neg h]
  have u36 : ∀ i, i < 30 → u (36, 0, 0) i = L i := fun i hi => by
    rw [uo _ (kn (by decide) _ _ _ _) (kn (by decide) _ _ _ _)]
    exact hL i hi
  have A29 : ∀ i, i < 30 → A (29, o, b) i = L i := fun i hi => by rw [← hA, upA_r, if_pos rfl, cpy_r, if_pos hi, u36 i hi]
  generalize hg : (fun s => if L s = -1 then A (12, o, 0) s else A (12, o, 0) s + 1) = g
  have hloop : lp (fun _ _ => none) (L_X0_enterLineup_67 o) 8192 (nI 0) (rowT A (12, o, 0) g 0) = some (rowT A (12, o, 0) g n) := by
    refine lp_go (fuel := 8192) (ev := fun k (X : Int32 → mC → Option mC) => X (nI k) (rowT A (12, o, 0) g k)) n (by omega) (fun k hk self => ?_) (fun self => ?_)
    · show L_X0_enterLineup_67 o self (nI k) (rowT A (12, o, 0) g k) = self (nI (k + 1)) (rowT A (12, o, 0) g (k + 1))
      have e2 : rowT A (12, o, 0) g k (2, o, 0) 0 = nI n := by
        rw [rowT_ne _ _ _ _ (kn (by decide) _ _ _ _), Ao _ (kn (by decide) _ _ _ _), uo _ (kn (by decide) _ _ _ _) (kn (by decide) _ _ _ _)]
        exact hn1
      have e36 : rowT A (12, o, 0) g k (36, 0, 0) k = L k := by
        rw [rowT_ne _ _ _ _ (kn (by decide) _ _ _ _), Ao _ (kn (by decide) _ _ _ _)]
        exact u36 k (by omega)
      have e12 : rowT A (12, o, 0) g k (12, o, 0) k = A (12, o, 0) k := rowT_out _ _ _ (Nat.le_refl k)
      simp (disch := omega) only [L_X0_enterLineup_67, e2, qi_nle, qi_inb, qi_ix, ck_t, e36, e12, lt_e, nI_1]
      rw [if_neg (by omega)]
      by_cases h : L k = -1
      · rw [if_pos h, rowT_skip A (12, o, 0) g k (by rw [← hg]; exact if_pos h)]
      · have hgk : g k = A (12, o, 0) k + 1 := by rw [← hg]; exact if_neg h
        rw [if_neg h, ← hgk, rowT_s]
    · show L_X0_enterLineup_67 o self (nI n) (rowT A (12, o, 0) g n) = _
      have e2 : rowT A (12, o, 0) g n (2, o, 0) 0 = nI n := by
        rw [rowT_ne _ _ _ _ (kn (by decide) _ _ _ _), Ao _ (kn (by decide) _ _ _ _), uo _ (kn (by decide) _ _ _ _) (kn (by decide) _ _ _ _)]
        exact hn1
      simp (disch := omega) only [L_X0_enterLineup_67, e2, qi_nle]
      rw [if_pos (Nat.le_refl n)]
  rw [rowT_0] at hloop
  refine ⟨rowT A (12, o, 0) g n, ?_, fun z h1 h2 h3 h4 => ?_, fun i => ?_, fun i hi => ?_, fun i hi => ?_, fun i hi => ?_⟩
  · have c30 : cpo (0 : Int32) (0 : Int32) (30 : Int32) 30 30 = true := by decide
    have i0 : ix (0 : Int32) = 0 := rfl
    have i30 : ix (30 : Int32) = 30 := rfl
    simp (disch := omega) only [f_X0_enterLineup, jn_e, hch, bnd_s, qi_inb, qi_ix, ck_t, lt_e, c30, i0, i30]
    rcases hc with e | e
    · rw [if_pos e] at hu
      rw [if_pos (show nxI c = -1 by rw [e]; rfl), ← hu, hA]
      exact hloop
    · have ne : c ≠ 99 := by omega
      rw [if_neg ne] at hu
      have ec : nxI c = nI c := if_neg ne
      rw [ec] at hu
      rw [ec, if_neg (qi_nM (by omega))]
      simp (disch := omega) only [qi_inb, qi_ix, ck_t, ← hu, hA]
      exact hloop
  · exact funext fun i => by rw [rowT_ne _ _ _ _ h4, Ao z h3, uo z h1 h2]
  · rw [rowT_ne _ _ _ _ (kn (by decide) _ _ _ _), Ao _ (kn (by decide) _ _ _ _), u21]
  · rw [rowT_ne _ _ _ _ (kn (by decide) _ _ _ _), Ao _ (kn (by decide) _ _ _ _), u13 i hi]
  · rw [rowT_ne _ _ _ _ (kn (by decide) _ _ _ _), A29 i hi]
  · rw [rowT_in _ _ _ hi, ← hg]
    show (if L i = -1 then A (12, o, 0) i else A (12, o, 0) i + 1) = _
    rw [Ao _ (kn (by decide) _ _ _ _), uo _ (kn (by decide) _ _ _ _) (kn (by decide) _ _ _ _)]
end HoldC
section HoldM
/-- the reference's loop over the lineup: k singers entered -/
def HJ (W : mM) (L : Nat → Int32) (b k : Nat) (u : mM) : Prop :=
  (∀ z, z ≠ 1 → u z = W z) ∧ (∀ i, i ≠ 6 → ¬ (598 + 45 * b ≤ i ∧ i < 598 + 45 * b + k) → (∀ s, s < k → i ≠ 13 + 13 * s + 11) → u 1 i = W 1 i) ∧
  (∀ s, s < k → u 1 (598 + 45 * b + s) = L s) ∧ (∀ s, s < k → u 1 (13 + 13 * s + 11) = if L s = -1 then W 1 (13 + 13 * s + 11) else W 1 (13 + 13 * s + 11) + 1) ∧
  u 1 6 = W 1 6 + fsum L (fun s => W 1 (13 + 13 * s + 9)) k
theorem inb_6 : inb 6 1483 = true := rfl
theorem inb_4 : inb 4 1483 = true := rfl
theorem inb_7 : inb 7 1483 = true := rfl
theorem ix_6 : ix (6 : Int32) = 6 := rfl
theorem ix_4 : ix (4 : Int32) = 4 := rfl
theorem ix_7 : ix (7 : Int32) = 7 := rfl
theorem hold_step {W u : mM} {L : Nat → Int32} {b k : Nat} (r2 : Int32 × mM) (r7 : mM) (r11 y32 : Int32) (self : Int32 → mM → Option mM) (hb : b < 20) (hk : k < 30) (hL : ∀ i, i < 30 → W 5 i = L i) (h : HJ W L b k u) : ∃ u', HJ W L b (k + 1) u' ∧ L_X7_holds_50 (nI b) r2 r7 r11 y32 self (nI k) u = self (nI (k + 1)) u' := by
  obtain ⟨h1, h2, h3, h4, h5⟩ := h
  have e : 583 + 45 * b + 15 + k = 598 + 45 * b + k := by omega
  have ea : ((583 : Int32) + 45 * nI b) + 15 + nI k = nI (598 + 45 * b + k) := by
    rw [show (583 : Int32) = nI 583 from rfl, show (45 : Int32) = nI 45 from rfl, show (15 : Int32) = nI 15 from rfl, qi_mul, qi_add, qi_add, qi_add, e]
  have u5 : u 5 k = L k := by rw [h1 5 (by decide)]; exact hL k hk
  have w5 : ∀ x, up u 1 (598 + 45 * b + k) x 5 k = L k := fun x => by rw [up_r, if_neg (fun q => absurd q.1 (by decide))]; exact u5
  have hu11 : u 1 (13 + 13 * k + 11) = W 1 (13 + 13 * k + 11) := h2 _ (by omega) (by omega) (fun s hs => by omega)
  have hu9 : u 1 (13 + 13 * k + 9) = W 1 (13 + 13 * k + 9) := h2 _ (by omega) (by omega) (fun s hs => by omega)
  by_cases hm : L k = -1
  · refine ⟨up u 1 (598 + 45 * b + k) (L k), ⟨fun z hz => ?_, fun i g1 g2 g3 => ?_, fun s hs => ?_, fun s hs => ?_, ?_⟩, ?_⟩
    · rw [← h1 z hz]
      exact funext fun i => by rw [up_r, if_neg (fun q => hz q.1)]
    · rw [up_r, if_neg (fun q => by omega)]
      exact h2 i g1 (by omega) (fun s hs => g3 s (by omega))
    · rw [up_r]
      by_cases q : s = k
      · rw [if_pos ⟨rfl, by omega⟩, q]
      · rw [if_neg (by omega)]
        exact h3 s (by omega)
    · rw [up_r, if_neg (by omega)]
      by_cases q : s = k
      · rw [q, if_pos hm, hu11]
      · exact h4 s (by omega)
    · rw [up_r, if_neg (by omega), fsum_s, if_pos hm]
      exact h5
    · simp (disch := omega) only [L_X7_holds_50, lt_e, ea, qi_inb, qi_ix, ck_t, u5, w5, nI_1]
      rw [if_neg (show ¬ (30 : Int32) ≤ nI k from nI_ge (b := 30) hk (by omega)), if_pos hm]
  · generalize hu1 : up u 1 (598 + 45 * b + k) (L k) = u1
    have a1 : ∀ i, i ≠ 598 + 45 * b + k → u1 1 i = u 1 i := fun i hi => by rw [← hu1, up_r, if_neg (fun q => hi q.2)]
    have ao : ∀ z, z ≠ 1 → u1 z = u z := fun z hz => by rw [← hu1]; exact funext fun i => by rw [up_r, if_neg (fun q => hz q.1)]
    have aL : u1 1 (598 + 45 * b + k) = L k := by rw [← hu1, up_r, if_pos ⟨rfl, rfl⟩]
    generalize hu2 : up u1 1 (13 + 13 * k + 11) (W 1 (13 + 13 * k + 11) + 1) = u2
    have c1 : ∀ i, i ≠ 13 + 13 * k + 11 → u2 1 i = u1 1 i := fun i hi => by rw [← hu2, up_r, if_neg (fun q => hi q.2)]
    have co : ∀ z, z ≠ 1 → u2 z = u1 z := fun z hz => by rw [← hu2]; exact funext fun i => by rw [up_r, if_neg (fun q => hz q.1)]
    have cL : u2 1 (13 + 13 * k + 11) = W 1 (13 + 13 * k + 11) + 1 := by rw [← hu2, up_r, if_pos ⟨rfl, rfl⟩]
    have i11 : f_X7_its (nI k) 11 u1 = some (W 1 (13 + 13 * k + 11)) := (m_its (j := 11) hk (by omega) u1).trans (by rw [a1 _ (by omega), hu11])
    have l11 : f_X7_lay (nI k) 11 (W 1 (13 + 13 * k + 11) + 1) u1 = some u2 := (m_lay (j := 11) hk (by omega) _ u1).trans (by rw [hu2])
    have i9 : f_X7_its (nI k) 9 u2 = some (W 1 (13 + 13 * k + 9)) := (m_its (j := 9) hk (by omega) u2).trans (by rw [c1 _ (by omega), a1 _ (by omega), hu9])
    have u26 : u2 1 6 = W 1 6 + fsum L (fun s => W 1 (13 + 13 * s + 9)) k := by rw [c1 _ (by omega), a1 _ (by omega), h5]
    have u15 : u1 5 k = L k := by rw [ao 5 (by decide)]; exact u5
    refine ⟨up u2 1 6 (u2 1 6 + W 1 (13 + 13 * k + 9)), ⟨fun z hz => ?_, fun i g1 g2 g3 => ?_, fun s hs => ?_, fun s hs => ?_, ?_⟩, ?_⟩
    · rw [← h1 z hz, ← ao z hz, ← co z hz]
      exact funext fun i => by rw [up_r, if_neg (fun q => hz q.1)]
    · rw [up_r, if_neg (fun q => g1 q.2), c1 i (g3 k (by omega)), a1 i (by omega)]
      exact h2 i g1 (by omega) (fun s hs => g3 s (by omega))
    · rw [up_r, if_neg (by omega), c1 _ (by omega)]
      by_cases q : s = k
      · rw [q, aL]
      · rw [a1 _ (by omega)]
        exact h3 s (by omega)
    · rw [up_r, if_neg (by omega)]
      by_cases q : s = k
      · rw [q, if_neg hm, cL]
      · rw [c1 _ (by omega), a1 _ (by omega)]
        exact h4 s (by omega)
    · rw [up_r, if_pos ⟨rfl, rfl⟩, fsum_s, if_neg hm, u26, Int32.add_assoc]
    · simp (disch := omega) only [L_X7_holds_50, lt_e, ea, qi_inb, qi_ix, ck_t, u5, hu1, u15, i11, bnd_s, l11, i9, inb_6, ix_6, nI_1]
      rw [if_neg (show ¬ (30 : Int32) ≤ nI k from nI_ge (b := 30) hk (by omega)), if_neg hm]
theorem hold_loop {W : mM} {L : Nat → Int32} {b : Nat} (r2 : Int32 × mM) (r7 : mM) (r11 y32 : Int32) (hb : b < 20) (hL : ∀ i, i < 30 → W 5 i = L i) : ∀ (d k fuel : Nat) (u : mM), k + d = 30 → d < fuel → HJ W L b k u → ∃ u' self, HJ W L b 30 u' ∧ lp (fun _ _ => none) (L_X7_holds_50 (nI b) r2 r7 r11 y32) fuel (nI k) u = L_X7_holds_50 (nI b) r2 r7 r11 y32 self (nI 30) u'
  | 0, k, fuel, u, h, hf, hj => by
    obtain ⟨m, rfl⟩ : ∃ m, fuel = m + 1 := ⟨fuel - 1, by omega⟩
    have : k = 30 := by omega
    subst this
    exact ⟨u, _, hj, rfl⟩
  | d + 1, k, fuel, u, h, hf, hj => by
    obtain ⟨m, rfl⟩ : ∃ m, fuel = m + 1 := ⟨fuel - 1, by omega⟩
    obtain ⟨u2, g1, g2⟩ := hold_step r2 r7 r11 y32 (lp (fun _ _ => none) (L_X7_holds_50 (nI b) r2 r7 r11 y32) m) hb (show k < 30 by omega) hL hj
    obtain ⟨u', self, g3, g4⟩ := hold_loop r2 r7 r11 y32 hb hL d (k + 1) m u2 (by omega) (by omega) g1
    exact ⟨u', self, g3, (show _ = _ from g2).trans g4⟩
theorem m_allQ {u : mM} {P : Nat → Nat} {b : Nat} (hb : b < 20) (h : ∀ l, l < 4 → u 1 (585 + 45 * b + 3 * l) = nI (P l)) : f_X7_allPlaces (nI b) u = some (nI (qs P 4)) := by
  have p0 : f_X7_places (nI b) 0 u = some (nI (P 0)) := (m_places (j := b) (l := 0) (by omega) (by omega) u).trans (congrArg some (h 0 (by omega)))
  have p1 : f_X7_places (nI b) 1 u = some (nI (P 1)) := (m_places (j := b) (l := 1) (by omega) (by omega) u).trans (congrArg some (h 1 (by omega)))
  have p2 : f_X7_places (nI b) 2 u = some (nI (P 2)) := (m_places (j := b) (l := 2) (by omega) (by omega) u).trans (congrArg some (h 2 (by omega)))
  have p3 : f_X7_places (nI b) 3 u = some (nI (P 3)) := (m_places (j := b) (l := 3) (by omega) (by omega) u).trans (congrArg some (h 3 (by omega)))
  simp only [f_X7_allPlaces, p0, p1, p2, p3, bnd_s, qi_add]
  show _ = some (nI (0 + P 0 + P 1 + P 2 + P 3))
  rw [Nat.zero_add]
abbrev MB (w w' : mM) : Prop := ∀ z : Nat, (z < 5 ∨ 8 < z) → z ≠ 1 → w' z = w z
variable {v : mC} {o : Nat} {w : mM} {D E n m f : Nat} {dd : Nat → Nat}
theorem m_holds (R : RlE v o (w 1) D E n m f dd) {b : Nat} (hb : b < f) (hd : D ≤ dd b) {L : Nat → Int32} (hL : fL v o n m b (nI (dd b)) = L) {C c : Nat} (hC : fC v o n m b (nI (dd b)) = C) (hc : dsc L (v (13, o, 0)) (v (6, o, 0)) n = c) :
    ∃ w', f_X7_holds (nI b) w = some w' ∧ MB w w' ∧
    (∀ i, i ≠ 4 → i ≠ 6 → i ≠ 7 → i ≠ 597 + 45 * b → ¬ (598 + 45 * b ≤ i ∧ i < 628 + 45 * b) → (∀ s, s < 30 → i ≠ 13 + 13 * s + 11 ∧ i ≠ 13 + 13 * s + 12) → w' 1 i = w 1 i) ∧
    w' 1 4 = w 1 4 + w 1 (584 + 45 * b) * nI C ∧ w' 1 6 = w 1 6 + fsum L (fun s => w 1 (13 + 13 * s + 9)) n ∧ w' 1 7 = w 1 7 + w 1 (584 + 45 * b) * (nI (qs (fP v o b) 4) - nI C) ∧
    w' 1 (597 + 45 * b) = nxI c ∧ (∀ k, k < 30 → w' 1 (598 + 45 * b + k) = L k) ∧ (∀ s, s < n → w' 1 (13 + 13 * s + 11) = if L s = -1 then w 1 (13 + 13 * s + 11) else w 1 (13 + 13 * s + 11) + 1) ∧ (∀ s, s < n → w' 1 (13 + 13 * s + 12) = if s = c then w 1 (13 + 13 * s + 12) + 1 else w 1 (13 + 13 * s + 12)) := by
  have hn := R.1.2.1
  have hf := R.1.2.2.2
  obtain ⟨w1, m1, m2, m3⟩ := m_linesUp R hb hd
  rw [hC] at m1
  rw [hL] at m3
  have R1 : RlE v o (w1 1) D E n m f dd := by rw [m2 1 (by decide) (by decide) (by decide)]; exact R
  generalize hw2 : rowT w1 8 (v (13, o, 0)) n = w2
  have ht := (m_turns R1).trans (congrArg some hw2)
  have w2o : ∀ z, z ≠ 8 → w2 z = w1 z := fun z hz => funext fun i => by rw [← hw2, rowT_ne _ _ _ _ hz]
  have w21 : w2 1 = w 1 := (w2o 1 (by decide)).trans (m2 1 (by decide) (by decide) (by decide))
  have R2 : RlE v o (w2 1) D E n m f dd := by rw [w21]; exact R
  have hde : f_X7_descants w2 = some (nxI c) := by
    rw [← hc]
    exact m_desc R2 (fun i hi => by rw [w2o 5 (by decide)]; exact m3 i (by omega)) (fun i hi => by rw [← hw2]; exact rowT_in _ _ _ hi)
  have hcl : c = 99 ∨ c < n := by rw [← hc]; exact dsc_lt _ _ _ n
  generalize hW : up w2 1 (597 + 45 * b) (nxI c) = W
  have Wo : ∀ z, z ≠ 1 → W z = w2 z := fun z hz => funext fun i => by rw [← hW, up_r, if_neg (fun q => hz q.1)]
  have W1 : ∀ i, i ≠ 597 + 45 * b → W 1 i = w 1 i := fun i hi => by rw [← hW, up_r, if_neg (fun q => hi q.2), w21]
  have Wd : W 1 (597 + 45 * b) = nxI c := by rw [← hW, up_r, if_pos ⟨rfl, rfl⟩]
  have hWL : ∀ i, i < 30 → W 5 i = L i := fun i hi => by rw [Wo 5 (by decide), w2o 5 (by decide)]; exact m3 i hi
  have e32 : ((583 : Int32) + 45 * nI b) + 1 = nI (584 + 45 * b) := by
    rw [show (583 : Int32) = nI 583 from rfl, show (45 : Int32) = nI 45 from rfl, show (1 : Int32) = nI 1 from rfl, qi_mul, qi_add, qi_add]
    exact congrArg nI (by omega)
  have e44 : ((583 : Int32) + 45 * nI b) + 14 = nI (597 + 45 * b) := by
    rw [show (583 : Int32) = nI 583 from rfl, show (45 : Int32) = nI 45 from rfl, show (14 : Int32) = nI 14 from rfl, qi_mul, qi_add, qi_add]
    exact congrArg nI (by omega)
  obtain ⟨u, self, ⟨u1, u2, u3, u4, u5⟩, hlp⟩ := hold_loop (W := W) (L := L) (b := b) (nI C, w1) w2 (nxI c) (nI (584 + 45 * b)) (by omega) hWL 30 0 8192 W (by omega) (by omega) ⟨fun z _ => rfl, fun i _ _ _ => rfl, fun s hs => absurd hs (Nat.not_lt_zero s), fun s hs => absurd hs (Nat.not_lt_zero s), by show _ = W 1 6 + 0; rw [Int32.add_zero]⟩
  have hLn : ∀ k, n ≤ k → k < 30 → L k = -1 := fun k h1 _ => by rw [← hL]; exact if_neg (by omega)
  have hfs : fsum L (fun s => W 1 (13 + 13 * s + 9)) 30 = fsum L (fun s => w 1 (13 + 13 * s + 9)) n := by
    rw [fsum_ext _ _ hn hLn]
    exact fsum_c fun k hk => W1 _ (by omega)
  -- the descant is entered
  obtain ⟨x, hx⟩ : ∃ x, x = if c = 99 then u else up u 1 (13 + 13 * c + 12) (u 1 (13 + 13 * c + 12) + 1) := ⟨_, rfl⟩
  have xo : ∀ z, z ≠ 1 → x z = u z := fun z hz => by
    rw [hx]
    by_cases e : c = 99
    · rw [if_pos e]
    · rw [if_neg e]
      exact funext fun i => by rw [up_r, if_neg (fun q => hz q.1)]
  have x1 : ∀ i, (∀ s, s < 30 → i ≠ 13 + 13 * s + 12) → x 1 i = u 1 i := fun i hi => by
    rw [hx]
    by_cases e : c = 99
    · rw [if_pos e]
    · rw [if_neg e, up_r, if_neg (fun q => hi c (by omega) q.2)]
  have x12 : ∀ s, s < n → x 1 (13 + 13 * s + 12) = if s = c then w 1 (13 + 13 * s + 12) + 1 else w 1 (13 + 13 * s + 12) := fun s hs => by
    have e0 : u 1 (13 + 13 * s + 12) = w 1 (13 + 13 * s + 12) := by rw [u2 _ (by omega) (by omega) (fun t ht => by omega), W1 _ (by omega)]
    rw [hx]
    by_cases e : c = 99
    · rw [if_pos e, if_neg (by omega), e0]
    · rw [if_neg e, up_r]
      by_cases q : s = c
      · rw [if_pos ⟨rfl, by omega⟩, if_pos q, ← q, e0]
      · rw [if_neg (by omega), if_neg q, e0]
  generalize hy : up x 1 4 (x 1 4 + w 1 (584 + 45 * b) * nI C) = y
  have y1 : ∀ i, i ≠ 4 → y 1 i = x 1 i := fun i hi => by rw [← hy, up_r, if_neg (fun q => hi q.2)]
  have yo : ∀ z, z ≠ 1 → y z = x z := fun z hz => by rw [← hy]; exact funext fun i => by rw [up_r, if_neg (fun q => hz q.1)]
  have hyP : f_X7_allPlaces (nI b) y = some (nI (qs (fP v o b) 4)) := m_allQ (by omega) fun l hl => by
    rw [y1 _ (by omega), x1 _ (fun s hs => by omega), u2 _ (by omega) (by omega) (fun s hs => by omega), W1 _ (by omega)]
    exact (fP_ok R hb hl).2.2
  have hfin : f_X7_holds (nI b) w = some (up y 1 7 (y 1 7 + w 1 (584 + 45 * b) * (nI (qs (fP v o b) 4) - nI C))) := by
    have h2r : w2 1 (584 + 45 * b) = w 1 (584 + 45 * b) := by rw [w21]
    simp (disch := omega) only [f_X7_holds, m1, bnd_s, ht, hde, lt_e, e32, e44, qi_inb, qi_ix, ck_t, hW]
    refine hlp.trans ?_
    simp (disch := omega) only [L_X7_holds_50, jn_e, qi_inb, qi_ix, ck_t, inb_4, ix_4, inb_7, ix_7, lt_e, h2r]
    rw [if_pos (show (30 : Int32) ≤ nI 30 by decide)]
    rcases hcl with e | e
    · rw [if_pos e] at hx
      rw [if_pos (show nxI c = -1 by rw [e]; rfl), ← hx]
      simp only [hy, hyP, bnd_s]
    · have ne : c ≠ 99 := by omega
      rw [if_neg ne] at hx
      have ec : nxI c = nI c := if_neg ne
      have ic : f_X7_its (nI c) 12 u = some (u 1 (13 + 13 * c + 12)) := m_its (j := 12) (by omega) (by omega) u
      have lc : f_X7_lay (nI c) 12 (u 1 (13 + 13 * c + 12) + 1) u = some x := (m_lay (j := 12) (by omega) (by omega) _ u).trans (by rw [hx])
      rw [ec, if_neg (qi_nM (by omega))]
      simp only [ic, bnd_s, lc, hy, hyP]
  refine ⟨_, hfin, fun z hz h1 => ?_, fun i g1 g2 g3 g4 g5 g6 => ?_, ?_, ?_, ?_, ?_, fun k hk => ?_, fun s hs => ?_, fun s hs => ?_⟩
  · rw [← m2 z (by omega) (by omega) (by omega), ← w2o z (by omega), ← Wo z h1, ← u1 z h1, ← xo z h1, ← yo z h1]
    exact funext fun i => by rw [up_r, if_neg (fun q => h1 q.1)]
  · rw [up_r, if_neg (fun q => g3 q.2), y1 i g1, x1 i (fun s hs => (g6 s hs).2), u2 i g2 (by omega) (fun s hs => (g6 s hs).1), W1 i g4]
  · rw [up_r, if_neg (by omega), ← hy, up_r, if_pos ⟨rfl, rfl⟩, x1 _ (fun s hs => by omega), u2 _ (by omega) (by omega) (fun s hs => by omega), W1 _ (by omega)]
  · rw [up_r, if_neg (by omega), y1 _ (by omega), x1 _ (fun s hs => by omega), u5, hfs, W1 _ (by omega)]
  · rw [up_r, if_pos ⟨rfl, rfl⟩, y1 _ (by omega), x1 _ (fun s hs => by omega), u2 _ (by omega) (by omega) (fun s hs => by omega), W1 _ (by omega)]
  · rw [up_r, if_neg (by omega), y1 _ (by omega), x1 _ (fun s hs => by omega), u2 _ (by omega) (by omega) (fun s hs => by omega), Wd]
  · rw [up_r, if_neg (by omega), y1 _ (by omega), x1 _ (fun s hs => by omega), u3 k hk]
  · rw [up_r, if_neg (by omega), y1 _ (by omega), x1 _ (fun t ht => by omega), u4 s (by omega), W1 _ (by omega)]
  · rw [up_r, if_neg (by omega), y1 _ (by omega), x12 s hs]
end HoldM
