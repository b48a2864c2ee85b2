/-! BOOKS ARE COPIED: the class's copies, the reference's rows -/
section Copy
variable {o o1 : Nat}
def cpk (o o1 N k : Nat) (v : mC) : mC := upA v (k, o, 0) (va_cpy (v (k, o1, 0)) (v (k, o, 0)) 0 0 N)
theorem cpk_r (o o1 N k : Nat) (v : mC) (z : kC) (i : Nat) : cpk o o1 N k v z i = if z = (k, o, 0) ∧ i < N then v (k, o1, 0) i else v z i := by
  unfold cpk
  rw [upA_r]
  by_cases h : z = (k, o, 0)
  · rw [if_pos h, cpy_r]
    by_cases h2 : i < N
    · rw [if_pos h2, if_pos ⟨h, h2⟩]
    · rw [if_neg h2, if_neg (fun q => h2 q.2), h]
  · rw [if_neg h, if_neg (fun q => h q.1)]
def cps (o o1 N : Nat) : List Nat → mC → mC
  | [], v => v
  | k :: ks, v => cps o o1 N ks (cpk o o1 N k v)
theorem cps_in (hne : o ≠ o1) (N : Nat) : ∀ (ks : List Nat) (v : mC) (k i : Nat), k ∈ ks → i < N → cps o o1 N ks v (k, o, 0) i = v (k, o1, 0) i
  | [], v, k, i, h, _ => absurd h (List.not_mem_nil)
  | k0 :: ks, v, k, i, h, hi => by
    show cps o o1 N ks (cpk o o1 N k0 v) (k, o, 0) i = _
    have e1 : cpk o o1 N k0 v (k, o1, 0) i = v (k, o1, 0) i := by rw [cpk_r, if_neg (fun q => hne (keq3 q.1).2.1.symm)]
    by_cases h2 : k ∈ ks
    · rw [cps_in hne N ks _ k i h2 hi, e1]
    · have hk : k = k0 := by
        rcases List.mem_cons.mp h with q | q
        · exact q
        · exact absurd q h2
      subst hk
      have e2 : ∀ (ks : List Nat) (u : mC), k ∉ ks → cps o o1 N ks u (k, o, 0) i = u (k, o, 0) i := by
        intro ks
        induction ks with
        | nil => intro u _; rfl
        | cons a as ih =>
          intro u hn
          show cps o o1 N as (cpk o o1 N a u) (k, o, 0) i = _
          rw [ih _ (fun q => hn (List.mem_cons_of_mem _ q)), cpk_r, if_neg (fun q => hn (by rw [(keq3 q.1).1]; exact List.mem_cons_self))]
      rw [e2 ks _ h2, cpk_r, if_pos ⟨rfl, hi⟩]
theorem cps_out (N : Nat) : ∀ (ks : List Nat) (v : mC) (z : kC) (i : Nat), (∀ k, k ∈ ks → z ≠ (k, o, 0)) → cps o o1 N ks v z i = v z i
  | [], v, z, i, _ => rfl
  | k0 :: ks, v, z, i, h => by
    show cps o o1 N ks (cpk o o1 N k0 v) z i = _
    rw [cps_out N ks _ z i (fun k hk => h k (List.mem_cons_of_mem _ hk)), cpk_r, if_neg (fun q => h k0 (List.mem_cons_self) q.1)]
theorem cpo_t {N M : Nat} (h : N ≤ M) (hM : M ≤ 1000) : cpo (0 : Int32) (0 : Int32) (nI N) M M = true := by
  unfold cpo
  rw [qi_I (by omega)]
  refine decide_eq_true ⟨by decide, by decide, by omega, ?_, ?_⟩
  · show (0 : Int) + _ ≤ _
    omega
  · show (0 : Int) + _ ≤ _
    omega
theorem cp_step {u : mC} {c N M k : Nat} (F : mC → Option mC) (h : u (c, o, 0) 0 = nI N) (hN : N ≤ M) (hM : M ≤ 1000) : ck (cpo (0 : Int32) (0 : Int32) (u (c, o, 0) 0) M M) (lt (upA u (k, o, 0) (va_cpy (u (k, o1, 0)) (u (k, o, 0)) (ix (0 : Int32)) (ix (0 : Int32)) (ix (u (c, o, 0) 0)))) F) = F (cpk o o1 N k u) := by
  rw [h, cpo_t hN hM, qi_ix (by omega)]
  rfl
theorem cpk_c {u : mC} {c N k : Nat} (hk : c ≠ k) {x : Int32} (h : u (c, o, 0) 0 = x) : cpk o o1 N k u (c, o, 0) 0 = x := by rw [cpk_r, if_neg (fun q => hk (keq3 q.1).1)]; exact h
theorem s_cp5 {v : mC} {n : Nat} (h : v (2, o1, 0) 0 = nI n) (hn : n ≤ 30) : f_X5_copyFrom o o1 v = some (cps o o1 n [3, 4, 5, 6, 7, 8, 9, 10, 11, 12, 13] (up v (2, o, 0) 0 (nI n))) := by
  have h2 : up v (2, o, 0) 0 (nI n) (2, o, 0) 0 = nI n := by rw [up_r, if_pos ⟨rfl, rfl⟩]
  unfold f_X5_copyFrom
  rw [h, lt_e]
  have h3 := cpk_c (o1 := o1) (N := n) (k := 3) (by decide) h2
  have h4 := cpk_c (o1 := o1) (N := n) (k := 4) (by decide) h3
  have h5 := cpk_c (o1 := o1) (N := n) (k := 5) (by decide) h4
  have h6 := cpk_c (o1 := o1) (N := n) (k := 6) (by decide) h5
  have h7 := cpk_c (o1 := o1) (N := n) (k := 7) (by decide) h6
  have h8 := cpk_c (o1 := o1) (N := n) (k := 8) (by decide) h7
  have h9 := cpk_c (o1 := o1) (N := n) (k := 9) (by decide) h8
  have h10 := cpk_c (o1 := o1) (N := n) (k := 10) (by decide) h9
  have h11 := cpk_c (o1 := o1) (N := n) (k := 11) (by decide) h10
  have h12 := cpk_c (o1 := o1) (N := n) (k := 12) (by decide) h11
  refine (cp_step _ h2 hn (by omega)).trans ?_
  refine (cp_step _ h3 hn (by omega)).trans ?_
  refine (cp_step _ h4 hn (by omega)).trans ?_
  refine (cp_step _ h5 hn (by omega)).trans ?_
  refine (cp_step _ h6 hn (by omega)).trans ?_
  refine (cp_step _ h7 hn (by omega)).trans ?_
  refine (cp_step _ h8 hn (by omega)).trans ?_
  refine (cp_step _ h9 hn (by omega)).trans ?_
  refine (cp_step _ h10 hn (by omega)).trans ?_
  refine (cp_step _ h11 hn (by omega)).trans ?_
  refine (cp_step _ h12 hn (by omega)).trans ?_
  rfl
theorem s_cp4 {v : mC} {m : Nat} (h : v (14, o1, 0) 0 = nI m) (hm : m ≤ 60) : f_X4_copyFrom o o1 v = some (cps o o1 m [15, 16, 17] (up v (14, o, 0) 0 (nI m))) := by
  have h2 : up v (14, o, 0) 0 (nI m) (14, o, 0) 0 = nI m := by rw [up_r, if_pos ⟨rfl, rfl⟩]
  unfold f_X4_copyFrom
  rw [h, lt_e]
  have h3 := cpk_c (o1 := o1) (N := m) (k := 15) (by decide) h2
  have h4 := cpk_c (o1 := o1) (N := m) (k := 16) (by decide) h3
  refine (cp_step _ h2 hm (by omega)).trans ?_
  refine (cp_step _ h3 hm (by omega)).trans ?_
  refine (cp_step _ h4 hm (by omega)).trans ?_
  rfl
/-- k feasts copied -/
def cfr (o o1 : Nat) (u : mC) (k : Nat) : mC := fun z i => if (26 ≤ z.1 ∧ z.1 ≤ 29) ∧ z.2.1 = o ∧ z.2.2 < k ∧ i < (if z.1 = 29 then 30 else 4) then u (z.1, o1, z.2.2) i else u z i
theorem cfr_o (hne : o ≠ o1) (u : mC) (k a j i : Nat) : cfr o o1 u k (a, o1, j) i = u (a, o1, j) i := by
  unfold cfr
  rw [if_neg (fun q => hne q.2.1.symm)]
theorem cfr_n (u : mC) (k a j i : Nat) (h : ¬ (26 ≤ a ∧ a ≤ 29)) : cfr o o1 u k (a, o, j) i = u (a, o, j) i := by
  unfold cfr
  rw [if_neg (fun q => h q.1)]
theorem s_cp1 {v : mC} {f : Nat} (hne : o ≠ o1) (h : v (18, o1, 0) 0 = nI f) (hf : f ≤ 20) : f_X1_copyFrom o o1 v = some (cfr o o1 (cps o o1 f [19, 20, 21] (up v (18, o, 0) 0 (nI f))) f) := by
  have h2 : up v (18, o, 0) 0 (nI f) (18, o, 0) 0 = nI f := by rw [up_r, if_pos ⟨rfl, rfl⟩]
  unfold f_X1_copyFrom
  rw [h, lt_e]
  have h3 := cpk_c (o1 := o1) (N := f) (k := 19) (by decide) h2
  have h4 := cpk_c (o1 := o1) (N := f) (k := 20) (by decide) h3
  have h5 := cpk_c (o1 := o1) (N := f) (k := 21) (by decide) h4
  refine (cp_step _ h2 hf (by omega)).trans ?_
  refine (cp_step _ h3 hf (by omega)).trans ?_
  refine (cp_step _ h4 hf (by omega)).trans ?_
  show lp (fun _ _ => none) (L_X1_copyFrom_61 o o1) 8192 0 (cps o o1 f [19, 20, 21] (up v (18, o, 0) 0 (nI f))) = _
  have h6 : cps o o1 f [19, 20, 21] (up v (18, o, 0) 0 (nI f)) (18, o, 0) 0 = nI f := h5
  generalize cps o o1 f [19, 20, 21] (up v (18, o, 0) 0 (nI f)) = u at h6
  have e0 : cfr o o1 u 0 = u := funext fun z => funext fun i => by unfold cfr; rw [if_neg (fun q => absurd q.2.2.1 (Nat.not_lt_zero _))]
  have key : lp (fun _ _ => none) (L_X1_copyFrom_61 o o1) 8192 (nI 0) (cfr o o1 u 0) = some (cfr o o1 u f) := by
    refine lp_go (fuel := 8192) (ev := fun k (X : Int32 → mC → Option mC) => X (nI k) (cfr o o1 u k)) f (by omega) (fun k hk self => ?_) (fun self => ?_)
    · show L_X1_copyFrom_61 o o1 self (nI k) (cfr o o1 u k) = self (nI (k + 1)) (cfr o o1 u (k + 1))
      have e18 : cfr o o1 u k (18, o, 0) 0 = nI f := (cfr_n u k 18 0 0 (by omega)).trans h6
      have i0 : ix (0 : Int32) = 0 := rfl
      have i4 : ix (4 : Int32) = 4 := rfl
      have i30 : ix (30 : Int32) = 30 := rfl
      have c4 : cpo (0 : Int32) (0 : Int32) (4 : Int32) 4 4 = true := by decide
      have c30 : cpo (0 : Int32) (0 : Int32) (30 : Int32) 30 30 = true := by decide
      simp (disch := omega) only [L_X1_copyFrom_61, e18, qi_nle, qi_inb, qi_ix, ck_t, lt_e, i0, i4, i30, c4, c30, nI_1]
      rw [if_neg (by omega)]
      refine congrArg (self (nI (k + 1))) (funext fun z => funext fun i => ?_)
      have W : ∀ a N, 26 ≤ a → a ≤ 29 → N = (if a = 29 then 30 else 4) → (if i < N then u (a, o1, k) i else cfr o o1 u k (a, o, k) i) = cfr o o1 u (k + 1) (a, o, k) i := fun a N ha1 ha2 hN => by
        unfold cfr
        by_cases q : i < N
        · rw [if_pos q, if_pos ⟨⟨ha1, ha2⟩, rfl, by show k < k + 1; omega, by show i < if a = 29 then 30 else 4; rw [← hN]; exact q⟩]
        · have q' : ¬ i < if a = 29 then 30 else 4 := by rw [← hN]; exact q
          rw [if_neg q, if_neg (fun e => q' e.2.2.2), if_neg (fun e => q' e.2.2.2)]
      have n1 : ∀ a a' j j', ((a, o1, j) : kC) ≠ (a', o, j') := fun a a' j j' e => hne (keq3 e).2.1.symm
      rw [upA_r]
      by_cases z29 : z = (29, o, k)
      · rw [if_pos z29, cpy_r, z29, ← W 29 30 (by omega) (by omega) rfl]
        rw [upA_r, if_neg (n1 _ _ _ _), upA_r, if_neg (n1 _ _ _ _), upA_r, if_neg (n1 _ _ _ _), cfr_o hne,
          upA_r, if_neg (kn (by decide) _ _ _ _), upA_r, if_neg (kn (by decide) _ _ _ _), upA_r, if_neg (kn (by decide) _ _ _ _)]
      · rw [if_neg z29, upA_r]
        by_cases z28 : z = (28, o, k)
        · rw [if_pos z28, cpy_r, z28, ← W 28 4 (by omega) (by omega) rfl]
          rw [upA_r, if_neg (n1 _ _ _ _), upA_r, if_neg (n1 _ _ _ _), cfr_o hne,
            upA_r, if_neg (kn (by decide) _ _ _ _), upA_r, if_neg (kn (by decide) _ _ _ _)]
        · rw [if_neg z28, upA_r]
          by_cases z27 : z = (27, o, k)
          · rw [if_pos z27, cpy_r, z27, ← W 27 4 (by omega) (by omega) rfl]
            rw [upA_r, if_neg (n1 _ _ _ _), cfr_o hne, upA_r, if_neg (kn (by decide) _ _ _ _)]
          · rw [if_neg z27, upA_r]
            by_cases z26 : z = (26, o, k)
            · rw [if_pos z26, cpy_r, z26, ← W 26 4 (by omega) (by omega) rfl, cfr_o hne]
            · rw [if_neg z26]
              unfold cfr
              by_cases q : (26 ≤ z.1 ∧ z.1 ≤ 29) ∧ z.2.1 = o ∧ z.2.2 < k ∧ i < (if z.1 = 29 then 30 else 4)
              · rw [if_pos q, if_pos ⟨q.1, q.2.1, by omega, q.2.2.2⟩]
              · rw [if_neg q, if_neg ?_]
                intro q2
                by_cases q3 : z.2.2 < k
                · exact q ⟨q2.1, q2.2.1, q3, q2.2.2.2⟩
                · have q4 : z.2.2 = k := by omega
                  have q5 : z = (z.1, o, k) := by rw [← q2.2.1, ← q4]
                  rcases (show z.1 = 26 ∨ z.1 = 27 ∨ z.1 = 28 ∨ z.1 = 29 by omega) with e | e | e | e
                  · exact z26 (by rw [q5, e])
                  · exact z27 (by rw [q5, e])
                  · exact z28 (by rw [q5, e])
                  · exact z29 (by rw [q5, e])
    · show L_X1_copyFrom_61 o o1 self (nI f) (cfr o o1 u f) = _
      have e18 : cfr o o1 u f (18, o, 0) 0 = nI f := (cfr_n u f 18 0 0 (by omega)).trans h6
      simp (disch := omega) only [L_X1_copyFrom_61, e18, qi_nle]
      rw [if_pos (Nat.le_refl f)]
  rw [e0] at key
  exact key
/-- a book is copied into another: only that one changes -/
theorem s_copy {v : mC} {n m f : Nat} (hne : o ≠ o1) (hn1 : v (2, o1, 0) 0 = nI n) (hm1 : v (14, o1, 0) 0 = nI m) (hf1 : v (18, o1, 0) 0 = nI f) (hn : n ≤ 30) (hm : m ≤ 60) (hf : f ≤ 20) :
    ∃ v', f_X0_copyFrom o o1 v = some v' ∧ Ag v o1 v' o n m f ∧ ∀ z : kC, (z.1 = 0 ∨ 30 < z.1 ∨ z.2.1 ≠ o) → v' z = v z := by
  have n1 : ∀ a a' j j', ((a, o1, j) : kC) ≠ (a', o, j') := fun a a' j j' e => hne (keq3 e).2.1.symm
  generalize hA : up v (1, o, 0) 0 (v (1, o1, 0) 0) = A
  have A1 : ∀ a j i, A (a, o1, j) i = v (a, o1, j) i := fun a j i => by rw [← hA, up_r, if_neg (fun q => n1 _ _ _ _ q.1)]
  have hB0 := s_cp5 (o := o) (o1 := o1) (v := A) ((A1 2 0 0).trans hn1) hn
  generalize hB : cps o o1 n [3, 4, 5, 6, 7, 8, 9, 10, 11, 12, 13] (up A (2, o, 0) 0 (nI n)) = B at hB0
  have B1 : ∀ a j i, B (a, o1, j) i = v (a, o1, j) i := fun a j i => by rw [← hB, cps_out _ _ _ _ _ (fun k _ => n1 _ _ _ _), up_r, if_neg (fun q => n1 _ _ _ _ q.1), A1]
  have Bin : ∀ k s, 3 ≤ k → k ≤ 13 → s < n → B (k, o, 0) s = v (k, o1, 0) s := fun k s h1 h2 h3 => by
    rw [← hB, cps_in hne n _ _ k s (by simp; omega) h3, up_r, if_neg (fun q => n1 _ _ _ _ q.1), A1]
  have B2 : B (2, o, 0) 0 = nI n := by rw [← hB, cps_out _ _ _ _ _ (fun k hk => by simp at hk; exact kn (by omega) _ _ _ _), up_r, if_pos ⟨rfl, rfl⟩]
  have Bo : ∀ z : kC, ¬ (2 ≤ z.1 ∧ z.1 ≤ 13 ∧ z.2.1 = o) → B z = A z := fun z hz => funext fun i => by
    rw [← hB, cps_out _ _ _ _ _ (fun k hk e => by rw [e] at hz; simp at hk; exact hz ⟨by show 2 ≤ k; omega, by show k ≤ 13; omega, rfl⟩), up_r, if_neg (fun q => by rw [q.1] at hz; exact hz ⟨by show 2 ≤ 2; omega, by show 2 ≤ 13; omega, rfl⟩)]
  have hC0 := s_cp4 (o := o) (o1 := o1) (v := B) ((B1 14 0 0).trans hm1) hm
  generalize hC : cps o o1 m [15, 16, 17] (up B (14, o, 0) 0 (nI m)) = C at hC0
  have C1 : ∀ a j i, C (a, o1, j) i = v (a, o1, j) i := fun a j i => by rw [← hC, cps_out _ _ _ _ _ (fun k _ => n1 _ _ _ _), up_r, if_neg (fun q => n1 _ _ _ _ q.1), B1]
  have Cin : ∀ k s, 15 ≤ k → k ≤ 17 → s < m → C (k, o, 0) s = v (k, o1, 0) s := fun k s h1 h2 h3 => by
    rw [← hC, cps_in hne m _ _ k s (by simp; omega) h3, up_r, if_neg (fun q => n1 _ _ _ _ q.1), B1]
  have C14 : C (14, o, 0) 0 = nI m := by rw [← hC, cps_out _ _ _ _ _ (fun k hk => by simp at hk; exact kn (by omega) _ _ _ _), up_r, if_pos ⟨rfl, rfl⟩]
  have Co : ∀ z : kC, ¬ (14 ≤ z.1 ∧ z.1 ≤ 17 ∧ z.2.1 = o) → C z = B z := fun z hz => funext fun i => by
    rw [← hC, cps_out _ _ _ _ _ (fun k hk e => by rw [e] at hz; simp at hk; exact hz ⟨by show 14 ≤ k; omega, by show k ≤ 17; omega, rfl⟩), up_r, if_neg (fun q => by rw [q.1] at hz; exact hz ⟨by show 14 ≤ 14; omega, by show 14 ≤ 17; omega, rfl⟩)]
  have hE0 := s_cp1 (o := o) (o1 := o1) (v := C) hne ((C1 18 0 0).trans hf1) hf
  generalize hG : cps o o1 f [19, 20, 21] (up C (18, o, 0) 0 (nI f)) = G at hE0
  have G1 : ∀ a j i, G (a, o1, j) i = v (a, o1, j) i := fun a j i => by rw [← hG, cps_out _ _ _ _ _ (fun k _ => n1 _ _ _ _), up_r, if_neg (fun q => n1 _ _ _ _ q.1), C1]
  have Gin : ∀ k s, 19 ≤ k → k ≤ 21 → s < f → G (k, o, 0) s = v (k, o1, 0) s := fun k s h1 h2 h3 => by
    rw [← hG, cps_in hne f _ _ k s (by simp; omega) h3, up_r, if_neg (fun q => n1 _ _ _ _ q.1), C1]
  have G18 : G (18, o, 0) 0 = nI f := by rw [← hG, cps_out _ _ _ _ _ (fun k hk => by simp at hk; exact kn (by omega) _ _ _ _), up_r, if_pos ⟨rfl, rfl⟩]
  have Go : ∀ z : kC, ¬ (18 ≤ z.1 ∧ z.1 ≤ 21 ∧ z.2.1 = o) → G z = C z := fun z hz => funext fun i => by
    rw [← hG, cps_out _ _ _ _ _ (fun k hk e => by rw [e] at hz; simp at hk; exact hz ⟨by show 18 ≤ k; omega, by show k ≤ 21; omega, rfl⟩), up_r, if_neg (fun q => by rw [q.1] at hz; exact hz ⟨by show 18 ≤ 18; omega, by show 18 ≤ 21; omega, rfl⟩)]
  generalize hE : cfr o o1 G f = E at hE0
  have E1 : ∀ a j i, E (a, o1, j) i = v (a, o1, j) i := fun a j i => by rw [← hE, cfr_o hne, G1]
  have Eo : ∀ z : kC, ¬ (26 ≤ z.1 ∧ z.1 ≤ 29 ∧ z.2.1 = o) → E z = G z := fun z hz => funext fun i => by
    rw [← hE]
    unfold cfr
    rw [if_neg (fun q => hz ⟨q.1.1, q.1.2, q.2.1⟩)]
  have Ein : ∀ a j i, 26 ≤ a → a ≤ 29 → j < f → i < (if a = 29 then 30 else 4) → E (a, o, j) i = v (a, o1, j) i := fun a j i h1 h2 h3 h4 => by
    rw [← hE]
    unfold cfr
    rw [if_pos ⟨⟨h1, h2⟩, rfl, h3, h4⟩]
    exact G1 a j i
  have i0 : ix (0 : Int32) = 0 := rfl
  have i5 : ix (5 : Int32) = 5 := rfl
  have c5 : cpo (0 : Int32) (0 : Int32) (5 : Int32) 5 5 = true := by decide
  generalize hH : upA E (30, o, 0) (va_cpy (E (30, o1, 0)) (E (30, o, 0)) 0 0 5) = H
  have H1 : ∀ i, H (1, o1, 0) i = v (1, o1, 0) i := fun i => by rw [← hH, upA_r, if_neg (n1 _ _ _ _), E1]
  have Ho : ∀ z : kC, z ≠ (30, o, 0) → H z = E z := fun z hz => funext fun i => by rw [← hH, upA_r, if_neg hz]
  have H30 : ∀ c, c < 5 → H (30, o, 0) c = v (30, o1, 0) c := fun c hc => by rw [← hH, upA_r, if_pos rfl, cpy_r, if_pos hc, E1]
  have H10 : H (1, o, 0) 0 = v (1, o1, 0) 0 := by
    rw [Ho _ (kn (by decide) _ _ _ _), Eo _ (fun q => absurd (show 26 ≤ 1 from q.1) (by decide)), Go _ (fun q => absurd (show 18 ≤ 1 from q.1) (by decide)), Co _ (fun q => absurd (show 14 ≤ 1 from q.1) (by decide)), Bo _ (fun q => absurd (show 2 ≤ 1 from q.1) (by decide)), ← hA, up_r, if_pos ⟨rfl, rfl⟩]
  have r1 : ∀ (u : mC) (i : Nat) (x : Int32) (t : Nat), up u (1, o, 0) i x (1, o1, 0) t = u (1, o1, 0) t := fun u i x t => by rw [up_r, if_neg (fun q => n1 _ _ _ _ q.1)]
  obtain ⟨V, hV⟩ : ∃ V, V = up (up (up (up (up H (1, o, 0) 5 (v (1, o1, 0) 5)) (1, o, 0) 6 (v (1, o1, 0) 6)) (1, o, 0) 7 (v (1, o1, 0) 7)) (1, o, 0) 8 (v (1, o1, 0) 8)) (1, o, 0) 9 (v (1, o1, 0) 9) := ⟨_, rfl⟩
  have Vo : ∀ z : kC, z ≠ (1, o, 0) → V z = H z := fun z hz => funext fun i => by
    rw [hV, up_r, if_neg (fun q => hz q.1), up_r, if_neg (fun q => hz q.1), up_r, if_neg (fun q => hz q.1), up_r, if_neg (fun q => hz q.1), up_r, if_neg (fun q => hz q.1)]
  refine ⟨V, ?_, ⟨fun i hi hi2 => ?_, ?_, ?_, ?_, fun k h1 h2 s hs => ?_, fun k h1 h2 s hs => ?_, fun k h1 h2 s hs => ?_, fun k h1 h2 j hj l hl => ?_, fun j hj i hi => ?_, fun c hc => ?_⟩, fun z hz => ?_⟩
  · unfold f_X0_copyFrom
    rw [lt_e, hA, hB0, bnd_s, hC0, bnd_s, hE0, bnd_s, i0, i5, c5, ck_t, lt_e, hH]
    simp only [lt_e, r1, H1]
    rw [hV]
  · rw [hV]
    rcases (show i = 0 ∨ i = 5 ∨ i = 6 ∨ i = 7 ∨ i = 8 ∨ i = 9 by omega) with e | e | e | e | e | e <;> subst e <;> simp [up_r, H10]
  · rw [Vo _ (kn (by decide) _ _ _ _), Ho _ (kn (by decide) _ _ _ _), Eo _ (fun q => absurd (show 26 ≤ 2 from q.1) (by decide)), Go _ (fun q => absurd (show 18 ≤ 2 from q.1) (by decide)), Co _ (fun q => absurd (show 14 ≤ 2 from q.1) (by decide)), B2, hn1]
  · rw [Vo _ (kn (by decide) _ _ _ _), Ho _ (kn (by decide) _ _ _ _), Eo _ (fun q => absurd (show 26 ≤ 14 from q.1) (by decide)), Go _ (fun q => absurd (show 18 ≤ 14 from q.1) (by decide)), C14, hm1]
  · rw [Vo _ (kn (by decide) _ _ _ _), Ho _ (kn (by decide) _ _ _ _), Eo _ (fun q => absurd (show 26 ≤ 18 from q.1) (by decide)), G18, hf1]
  · rw [Vo _ (kn (by omega) _ _ _ _), Ho _ (kn (by omega) _ _ _ _), Eo _ (by rintro ⟨h, -⟩; exact absurd h (by show ¬ 26 ≤ k; omega)), Go _ (by rintro ⟨h, -⟩; exact absurd h (by show ¬ 18 ≤ k; omega)), Co _ (by rintro ⟨h, -⟩; exact absurd h (by show ¬ 14 ≤ k; omega)), Bin k s h1 h2 hs]
  · rw [Vo _ (kn (by omega) _ _ _ _), Ho _ (kn (by omega) _ _ _ _), Eo _ (by rintro ⟨h, -⟩; exact absurd h (by show ¬ 26 ≤ k; omega)), Go _ (by rintro ⟨h, -⟩; exact absurd h (by show ¬ 18 ≤ k; omega)), Cin k s h1 h2 hs]
  · rw [Vo _ (kn (by omega) _ _ _ _), Ho _ (kn (by omega) _ _ _ _), Eo _ (by rintro ⟨h, -⟩; exact absurd h (by show ¬ 26 ≤ k; omega)), Gin k s h1 h2 hs]
  · rw [Vo _ (kn (by omega) _ _ _ _), Ho _ (kn (by omega) _ _ _ _), Ein k j l h1 (by omega) hj (by rw [if_neg (by omega)]; exact hl)]
  · rw [Vo _ (kn (by omega) _ _ _ _), Ho _ (kn (by omega) _ _ _ _), Ein 29 j i (by omega) (by omega) hj (by rw [if_pos rfl]; exact hi)]
  · rw [Vo _ (kn (by omega) _ _ _ _), H30 c hc]
  · have hk : ∀ k j, k ≠ 0 → k ≤ 30 → z ≠ (k, o, j) := fun k j h1 h2 => CB_ne hz h1 h2
    have hr : ∀ a b, 1 ≤ a → b ≤ 30 → ¬ (a ≤ z.1 ∧ z.1 ≤ b ∧ z.2.1 = o) := fun a b ha hb q => by
      rcases hz with h | h | h
      · omega
      · omega
      · exact h q.2.2
    rw [Vo _ (hk 1 0 (by omega) (by omega)), Ho _ (hk 30 0 (by omega) (by omega)), Eo _ (hr 26 29 (by omega) (by omega)), Go _ (hr 18 21 (by omega) (by omega)), Co _ (hr 14 17 (by omega) (by omega)), Bo _ (hr 2 13 (by omega) (by omega)), ← hA]
    exact funext fun i => by rw [up_r, if_neg (fun q => hk 1 0 (by omega) (by omega) q.1)]
end Copy
/-- a row of the reference is laid into another -/
theorem m_lays {n0 n1 k0 k2 x1 x3 : Nat} (hne : k0 ≠ k2) (h0 : x1 + 1483 ≤ n0) (h1 : x3 + 1483 ≤ n1) (hn0 : n0 ≤ 100000) (hn1 : n1 ≤ 100000) (w : mM) :
    f_X7_lays n0 n1 k0 k2 (nI x1) (nI x3) w = some (fun z i => if z = k2 ∧ x3 ≤ i ∧ i < x3 + 1483 then w k0 (x1 + (i - x3)) else w z i) := by
  unfold f_X7_lays
  obtain ⟨g, hg⟩ : ∃ g : Nat → mM, g = fun k z i => if z = k2 ∧ x3 ≤ i ∧ i < x3 + k then w k0 (x1 + (i - x3)) else w z i := ⟨_, rfl⟩
  have e0 : g 0 = w := by
    rw [hg]
    exact funext fun z => funext fun i => if_neg (by omega)
  have key : lp (fun _ _ => none) (L_X7_lays_3 n0 n1 k0 k2 (nI x1) (nI x3)) 8192 (nI 0) (g 0) = some (g 1483) := by
    refine lp_go (fuel := 8192) (ev := fun k (X : Int32 → mM → Option mM) => X (nI k) (g k)) 1483 (by omega) (fun k hk self => ?_) (fun self => ?_)
    · show L_X7_lays_3 n0 n1 k0 k2 (nI x1) (nI x3) self (nI k) (g k) = self (nI (k + 1)) (g (k + 1))
      simp (disch := omega) only [L_X7_lays_3, qi_add, qi_inb, qi_ix, ck_t, lt_e, nI_1]
      rw [if_neg (show ¬ (1483 : Int32) ≤ nI k from nI_ge (b := 1483) hk (by omega))]
      refine congrArg (self (nI (k + 1))) (funext fun z => funext fun i => ?_)
      rw [up_r, hg]
      show (if z = k2 ∧ i = x3 + k then (if k0 = k2 ∧ x3 ≤ x1 + k ∧ x1 + k < x3 + k then w k0 (x1 + (x1 + k - x3)) else w k0 (x1 + k)) else if z = k2 ∧ x3 ≤ i ∧ i < x3 + k then w k0 (x1 + (i - x3)) else w z i) = if z = k2 ∧ x3 ≤ i ∧ i < x3 + (k + 1) then w k0 (x1 + (i - x3)) else w z i
      rw [if_neg (show ¬ (k0 = k2 ∧ x3 ≤ x1 + k ∧ x1 + k < x3 + k) from fun q => hne q.1)]
      by_cases q : z = k2 ∧ i = x3 + k
      · rw [if_pos q, if_pos ⟨q.1, by omega, by omega⟩, show x1 + (i - x3) = x1 + k by omega]
      · rw [if_neg q]
        by_cases q2 : z = k2 ∧ x3 ≤ i ∧ i < x3 + k
        · rw [if_pos q2, if_pos ⟨q2.1, q2.2.1, by omega⟩]
        · rw [if_neg q2, if_neg (fun q3 => by
            by_cases q4 : i = x3 + k
            · exact q ⟨q3.1, q4⟩
            · exact q2 ⟨q3.1, q3.2.1, by omega⟩)]
    · show L_X7_lays_3 n0 n1 k0 k2 (nI x1) (nI x3) self (nI 1483) (g 1483) = _
      simp only [L_X7_lays_3]
      rw [if_pos (by decide)]
  rw [e0, hg] at key
  exact key
/-- the oldest state is forgotten by the reference -/
def shf (w : mM) : mM := fun z i => if z = 2 ∧ i < 4449 then w 2 (i + 1483) else w z i
theorem m_saves {w : mM} {k k1 : Nat} (hk : k ≤ 4) (h : w 0 2 = nI k) (hk1 : k1 = 1 ∨ k1 = 4) : ∃ w', f_X7_saves k1 w = some w' ∧ (∀ z, z ≠ 0 → z ≠ 2 → w' z = w z) ∧ (∀ i, i ≠ 2 → w' 0 i = w 0 i) ∧
    (if k = 4 then w' 0 2 = nI 4 ∧ (∀ i, i < 4449 → w' 2 i = w 2 (i + 1483)) ∧ (∀ i, i < 1483 → w' 2 (4449 + i) = w k1 i) else w' 0 2 = nI (k + 1) ∧ (∀ i, i < 1483 * k → w' 2 i = w 2 i) ∧ ∀ i, i < 1483 → w' 2 (1483 * k + i) = w k1 i) := by
  have fin : ∀ (u : mM) (j : Nat), j < 4 → u 0 2 = nI j → ∃ w', ((f_X7_lays 1483 5932 k1 2 (0 : Int32) ((1483 : Int32) * (u 0 2)) u).bind fun r_63 => (lt (up r_63 0 2 ((r_63 0 2) + (1 : Int32))) fun w73_3 => (some w73_3))) = some w' ∧ (∀ z, z ≠ 0 → z ≠ 2 → w' z = u z) ∧ (∀ i, i ≠ 2 → w' 0 i = u 0 i) ∧ w' 0 2 = nI (j + 1) ∧ (∀ i, i < 1483 * j → w' 2 i = u 2 i) ∧ ∀ i, i < 1483 → w' 2 (1483 * j + i) = u k1 i := fun u j hj hu => by
    have hl := m_lays (n0 := 1483) (n1 := 5932) (k0 := k1) (k2 := 2) (x1 := 0) (x3 := 1483 * j) (by omega) (by omega) (by omega) (by omega) (by omega) u
    have em : (1483 : Int32) * nI j = nI (1483 * j) := qi_mul 1483 j
    rw [hu, em, show (0 : Int32) = nI 0 from rfl, hl, bnd_s, lt_e]
    refine ⟨_, rfl, fun z h0 h2 => funext fun i => ?_, fun i hi => ?_, ?_, fun i hi => ?_, fun i hi => ?_⟩
    · rw [up_r, if_neg (fun q => h0 q.1)]
      exact if_neg (fun q => h2 q.1)
    · rw [up_r, if_neg (fun q => hi q.2)]
      exact if_neg (fun q => absurd q.1 (by decide))
    · rw [up_r, if_pos ⟨rfl, rfl⟩]
      show (if 0 = 2 ∧ _ then _ else u 0 2) + 1 = _
      rw [if_neg (fun q => absurd q.1 (by decide)), hu, nI_1]
    · rw [up_r, if_neg (fun q => absurd q.1 (by decide))]
      exact if_neg (by omega)
    · rw [up_r, if_neg (fun q => absurd q.1 (by decide))]
      show (if 2 = 2 ∧ _ ∧ _ then u k1 (0 + (1483 * j + i - 1483 * j)) else _) = _
      rw [if_pos ⟨rfl, by omega, by omega⟩, show 0 + (1483 * j + i - 1483 * j) = i by omega]
  unfold f_X7_saves
  rw [jn_e, h]
  by_cases e : k = 4
  · subst e
    rw [if_pos (show nI 4 = 4 from rfl)]
    obtain ⟨g, hg⟩ : ∃ g : Nat → mM, g = fun k z i => if z = 2 ∧ i < k then w 2 (i + 1483) else w z i := ⟨_, rfl⟩
    have e0 : g 0 = w := by
      rw [hg]
      exact funext fun z => funext fun i => if_neg (by omega)
    have hgo : ∀ k z i, z ≠ 2 → g k z i = w z i := fun k z i hz => by rw [hg]; exact if_neg (fun q => hz q.1)
    have hgi : ∀ k i, i < k → g k 2 i = w 2 (i + 1483) := fun k i hi => by rw [hg]; exact if_pos ⟨rfl, hi⟩
    have hgn : ∀ k i, ¬ i < k → g k 2 i = w 2 i := fun k i hi => by rw [hg]; exact if_neg (fun q => hi q.2)
    generalize hj : (fun (v_49 : mM) => ((f_X7_lays 1483 5932 k1 2 (0 : Int32) ((1483 : Int32) * (v_49 0 2)) v_49).bind fun r_63 => (lt (up r_63 0 2 ((r_63 0 2) + (1 : Int32))) fun w73_3 => (some w73_3)))) = j49
    have key : lp (fun _ _ => none) (L_X7_saves_10 j49) 8192 (nI 0) (g 0) = j49 (up (g 4449) 0 2 (nI 3)) := by
      refine lp_go (fuel := 8192) (ev := fun k (X : Int32 → mM → Option mM) => X (nI k) (g k)) 4449 (by omega) (fun k hk self => ?_) (fun self => ?_)
      · show L_X7_saves_10 j49 self (nI k) (g k) = self (nI (k + 1)) (g (k + 1))
        have ea : nI k + 1483 = nI (k + 1483) := qi_add k 1483
        simp (disch := omega) only [L_X7_saves_10, ea, qi_inb, qi_ix, ck_t, lt_e, nI_1, hgn]
        rw [if_neg (show ¬ (4449 : Int32) ≤ nI k from nI_ge (b := 4449) hk (by omega))]
        refine congrArg (self (nI (k + 1))) (funext fun z => funext fun i => ?_)
        rw [up_r]
        by_cases q : z = 2 ∧ i = k
        · rw [if_pos q, q.1, q.2, hgi (k + 1) k (by omega)]
        · rw [if_neg q]
          by_cases q2 : z = 2
          · subst q2
            have q3 : i ≠ k := fun e => q ⟨rfl, e⟩
            by_cases q4 : i < k
            · rw [hgi k i q4, hgi (k + 1) i (by omega)]
            · rw [hgn k i q4, hgn (k + 1) i (by omega)]
          · rw [hgo k z i q2, hgo (k + 1) z i q2]
      · show L_X7_saves_10 j49 self (nI 4449) (g 4449) = _
        simp only [L_X7_saves_10, lt_e]
        rw [if_pos (by decide), hgo 4449 0 2 (by decide), h]
        rfl
    rw [e0] at key
    obtain ⟨w', f1, f2, f3, f4, f5, f6⟩ := fin (up (g 4449) 0 2 (nI 3)) 3 (by omega) (by rw [up_r, if_pos ⟨rfl, rfl⟩])
    refine ⟨w', key.trans (by rw [← hj]; exact f1), fun z h0 h2 => ?_, fun i hi => ?_, (Eq.mpr (if_pos rfl) ⟨f4, fun i hi => ?_, fun i hi => ?_⟩)⟩
    · rw [f2 z h0 h2]
      exact funext fun i => by rw [up_r, if_neg (fun q => h0 q.1), hgo _ _ _ h2]
    · rw [f3 i hi, up_r, if_neg (fun q => hi q.2), hgo _ _ _ (by decide)]
    · rw [f5 i (by omega), up_r, if_neg (fun q => absurd q.1 (by decide)), hgi _ _ hi]
    · have := f6 i hi
      rw [show 1483 * 3 + i = 4449 + i by omega] at this
      rw [this, up_r, if_neg (fun q => by omega), hgo _ _ _ (by omega)]
  · rw [if_neg (show ¬ nI k = 4 from fun q => e ((qi_neq (b := 4) (by omega) (by omega)).mp q))]
    obtain ⟨w', f1, f2, f3, f4, f5, f6⟩ := fin w k (by omega) h
    exact ⟨w', f1, f2, f3, Eq.mpr (if_neg e) ⟨f4, f5, f6⟩⟩
