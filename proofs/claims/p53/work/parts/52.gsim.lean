/-! WHERE A CELL IS PACKED, AND WHAT A PACKED MEMORY SAYS OF A MEMORY -/
noncomputable def slB (k : Nat) : Nat := nth0 99 [99, 10, 9, 21, 7, 8, 22, 6, 23, 20, 0, 1, 18, 19, 2, 3, 4, 5, 11, 12, 16, 17, 99, 99, 99, 99, 13, 14, 15, 24, 25] k
noncomputable def slS (k : Nat) : Nat := nth0 99 [5, 99, 99, 99, 99, 99, 99, 99, 99, 99, 99, 99, 99, 99, 99, 99, 99, 99, 99, 99, 99, 99, 99, 99, 99, 99, 99, 99, 99, 99, 99, 6, 7, 8, 9, 99, 0, 1, 2, 3, 4] k
def At (z : kC) (i b s p : Nat) : Prop :=
  (((z.1 = 0 ∨ (31 ≤ z.1 ∧ z.1 ≤ 40 ∧ z.1 ≠ 35)) ∧ z.2.1 = 0 ∧ z.2.2 = 0) ∧ b = 0 ∧ s = slS z.1 ∧ p = i) ∨
  (((1 ≤ z.1 ∧ z.1 ≤ 21) ∨ z.1 = 30) ∧ z.2.2 = 0 ∧ b = z.2.1 + 1 ∧ s = slB z.1 ∧ p = i) ∨
  ((26 ≤ z.1 ∧ z.1 ≤ 28) ∧ b = z.2.1 + 1 ∧ s = slB z.1 ∧ i < 4 ∧ p = 4 * z.2.2 + i) ∨
  (z.1 = 29 ∧ b = z.2.1 + 1 ∧ s = slB z.1 ∧ i < 30 ∧ p = 30 * z.2.2 + i)
theorem slB_inj : ∀ k, k < 31 → ∀ k2, k2 < 31 → slB k = slB k2 → slB k ≠ 99 → k = k2 := by decide +kernel
theorem slS_inj : ∀ k, k < 41 → ∀ k2, k2 < 41 → slS k = slS k2 → slS k ≠ 99 → k = k2 := by decide +kernel
theorem slB_ok : ∀ k, k < 31 → (((1 ≤ k ∧ k ≤ 21) ∨ k = 30) ∨ (26 ≤ k ∧ k ≤ 29)) → slB k ≠ 99 := by decide +kernel
theorem slS_ok : ∀ k, k < 41 → (k = 0 ∨ (31 ≤ k ∧ k ≤ 40 ∧ k ≠ 35)) → slS k ≠ 99 := by decide +kernel
theorem kz {a b : kC} (h1 : a.1 = b.1) (h2 : a.2.1 = b.2.1) (h3 : a.2.2 = b.2.2) : a = b := Prod.ext h1 (Prod.ext h2 h3)
theorem at_inj {z z' : kC} {i i' b s p : Nat} (h : At z i b s p) (h' : At z' i' b s p) : z = z' ∧ i = i' := by
  rcases h with ⟨⟨a1, a2, a3⟩, a4, a5, a6⟩ | ⟨a1, a2, a3, a4, a5⟩ | ⟨a1, a2, a3, a4, a5⟩ | ⟨a1, a2, a3, a4, a5⟩ <;>
  rcases h' with ⟨⟨b1, b2, b3⟩, b4, b5, b6⟩ | ⟨b1, b2, b3, b4, b5⟩ | ⟨b1, b2, b3, b4, b5⟩ | ⟨b1, b2, b3, b4, b5⟩ <;> try omega
  · have e := slS_inj z.1 (by omega) z'.1 (by omega) (by omega) (slS_ok _ (by omega) a1)
    exact ⟨kz e (by omega) (by omega), by omega⟩
  · have e := slB_inj z.1 (by omega) z'.1 (by omega) (by omega) (slB_ok _ (by omega) (Or.inl a1))
    exact ⟨kz e (by omega) (by omega), by omega⟩
  · have e := slB_inj z.1 (by omega) z'.1 (by omega) (by omega) (slB_ok _ (by omega) (Or.inl a1))
    omega
  · have e := slB_inj z.1 (by omega) z'.1 (by omega) (by omega) (slB_ok _ (by omega) (Or.inl a1))
    omega
  · have e := slB_inj z.1 (by omega) z'.1 (by omega) (by omega) (slB_ok _ (by omega) (Or.inr (by omega)))
    omega
  · have e := slB_inj z.1 (by omega) z'.1 (by omega) (by omega) (slB_ok _ (by omega) (Or.inr (by omega)))
    exact ⟨kz e (by omega) (by omega), by omega⟩
  · have e := slB_inj z.1 (by omega) z'.1 (by omega) (by omega) (slB_ok _ (by omega) (Or.inr (by omega)))
    omega
  · have e := slB_inj z.1 (by omega) z'.1 (by omega) (by omega) (slB_ok _ (by omega) (Or.inr (by omega)))
    omega
  · have e := slB_inj z.1 (by omega) z'.1 (by omega) (by omega) (slB_ok _ (by omega) (Or.inr (by omega)))
    omega
  · have e := slB_inj z.1 (by omega) z'.1 (by omega) (by omega) (slB_ok _ (by omega) (Or.inr (by omega)))
    exact ⟨kz e (by omega) (by omega), by omega⟩
theorem at_fun {z : kC} {i b s p b' s' p' : Nat} (h : At z i b s p) (h' : At z i b' s' p') : b = b' ∧ s = s' ∧ p = p' := by
  rcases h with ⟨⟨a1, a2, a3⟩, a4, a5, a6⟩ | ⟨a1, a2, a3, a4, a5⟩ | ⟨a1, a2, a3, a4, a5⟩ | ⟨a1, a2, a3, a4, a5⟩ <;>
  rcases h' with ⟨⟨b1, b2, b3⟩, b4, b5, b6⟩ | ⟨b1, b2, b3, b4, b5⟩ | ⟨b1, b2, b3, b4, b5⟩ | ⟨b1, b2, b3, b4, b5⟩ <;> first | omega | exact ⟨by omega, by omega, by omega⟩
noncomputable def cel (G : MG) (b s p : Nat) : Nat := dig (nth0 0 (nth0 [] G b) s) p
/-- a packed memory tells the truth about a memory -/
def RM (v : mC) (G : MG) : Prop := ∀ z i b s p d, At z i b s p → cel G b s p = d + 1 → v z i = nI d
def AtK (z : kC) (L b s p : Nat) : Prop := ∀ i, i < L → At z i b s (p + i)
abbrev RI (x : Int32) (y : Nat) : Prop := x = nI y
abbrev RP (r : Int32 × mC) (q : Nat × MG) : Prop := r.1 = nI q.1 ∧ RM r.2 q.2
abbrev RT (r : Int32 × Nat × mC) (q : Nat × Nat × MG) : Prop := r.1 = nI q.1 ∧ r.2.1 = q.2.1 ∧ RM r.2.2 q.2.2
def Sim {α β : Type} (R : α → β → Prop) (F : Option α) (g : Option β) : Prop := ∀ b, g = some b → ∃ a, F = some a ∧ R a b
theorem cel_set (G : MG) (b s a b' s' p : Nat) : cel (G.set b ((nth0 [] G b).set s a)) b' s' p = if b = b' ∧ s = s' ∧ b' < G.length ∧ s' < (nth0 [] G b).length then dig a p else cel G b' s' p := by
  unfold cel
  rw [set_d]
  by_cases h : b = b' ∧ b' < G.length
  · rw [if_pos h, set_d]
    by_cases h2 : s = s' ∧ s' < (nth0 [] G b).length
    · rw [if_pos h2, if_pos ⟨h.1, h2.1, h.2, h2.2⟩]
    · rw [if_neg h2, if_neg (fun q => h2 ⟨q.2.1, q.2.2.2⟩), h.1]
  · rw [if_neg h, if_neg (fun q => h ⟨q.1, q.2.2.1⟩)]
theorem dig_z (p : Nat) : dig 0 p = 0 := by
  apply Nat.eq_of_testBit_eq
  intro i
  rw [dig_tb]
  simp
theorem cel_out {G : MG} {b s p d : Nat} (h : cel G b s p = d + 1) : b < G.length ∧ s < (nth0 [] G b).length := by
  unfold cel at h
  refine ⟨Decidable.byContradiction fun q => ?_, Decidable.byContradiction fun q => ?_⟩
  · rw [nth0_out [] G b q, nth0_out 0 [] s (by simp), dig_z] at h
    omega
  · rw [nth0_out 0 _ s q, dig_z] at h
    omega
section SM
variable {α β α' β' : Type} {R : α → β → Prop} {F : Option α} {g : Option β} {v : mC} {G : MG} {z z2 : kC} {x y : Int32} {a n i b s p b2 s2 p2 L : Nat}
theorem rm_set (hv : RM v G) {f : mC} {A : Nat} (hn : ∀ z' i', (∀ q, At z' i' b s q → dig A q = cel G b s q → f z' i' = v z' i') ∧ (¬ (∃ q, At z' i' b s q) → f z' i' = v z' i') ∧ ∀ q d, At z' i' b s q → dig A q ≠ cel G b s q → dig A q = d + 1 → f z' i' = nI d) : RM f (G.set b ((nth0 [] G b).set s A)) := by
  intro z' i' b' s' p' d hA hc
  rw [cel_set] at hc
  obtain ⟨n1, n2, n3⟩ := hn z' i'
  by_cases h : b = b' ∧ s = s' ∧ b' < G.length ∧ s' < (nth0 [] G b).length
  · rw [if_pos h] at hc
    obtain ⟨rfl, rfl, -, -⟩ := h
    by_cases e : dig A p' = cel G b s p'
    · rw [n1 p' hA e]
      exact hv z' i' b s p' d hA (e.symm.trans hc)
    · exact n3 p' d hA e hc
  · rw [if_neg h] at hc
    have hl := cel_out hc
    have e : ¬ (b' = b ∧ s' = s) := fun q => h ⟨q.1.symm, q.2.symm, hl.1, by rw [← q.1]; exact hl.2⟩
    rw [n2 (fun ⟨q, hq⟩ => e ⟨(at_fun hA hq).1, (at_fun hA hq).2.1⟩)]
    exact hv z' i' b' s' p' d hA hc
theorem rm_up (hv : RM v G) (hA : At z i b s p) (hx : x = nI a) : RM (up v z i x) (G.set b ((nth0 [] G b).set s (put (nth0 0 (nth0 [] G b) s) p a))) := by
  refine rm_set hv (fun z' i' => ⟨fun q hq e => ?_, fun hq => ?_, fun q d hq e hd => ?_⟩)
  · rw [up_r]
    by_cases h : z' = z ∧ i' = i
    · rw [if_pos h]
      obtain ⟨rfl, rfl⟩ := h
      have hp := (at_fun hA hq).2.2
      subst hp
      have e2 : cel G b s p = a % 4294967296 + 1 := by rw [← e, dig_put, if_pos rfl]
      rw [hv z' i' b s p _ hA e2, nI_mod, hx]
    · rw [if_neg h]
  · rw [up_r, if_neg (fun h => hq ⟨p, by rw [h.1, h.2]; exact hA⟩)]
  · rw [dig_put] at e hd
    by_cases h : q = p
    · subst h
      obtain ⟨rfl, rfl⟩ := at_inj hq hA
      rw [if_pos rfl] at hd
      rw [up_r, if_pos ⟨rfl, rfl⟩, hx, ← nI_mod a]
      exact congrArg nI (by omega)
    · rw [if_neg h] at e
      exact absurd rfl e
/-- a row of cells is laid anew: by h where it is changed -/
theorem rm_row (hv : RM v G) (hK : AtK z L b s p) {f : mC} {A : Nat} (hn : n ≤ L) (hf : ∀ z' i', ¬ (z' = z ∧ i' < n) → f z' i' = v z' i') (hd : ∀ q, ¬ (p ≤ q ∧ q < p + n) → dig A q = cel G b s q) (hin : ∀ i d, i < n → dig A (p + i) = d + 1 → f z i = nI d) : RM f (G.set b ((nth0 [] G b).set s A)) := by
  intro z' i' b' s' p' d hA hc
  rw [cel_set] at hc
  by_cases h : z' = z ∧ i' < n
  · obtain ⟨rfl, hi⟩ := h
    obtain ⟨rfl, rfl, rfl⟩ := at_fun (hK i' (by omega)) hA
    by_cases hl : b = b ∧ s = s ∧ b < G.length ∧ s < (nth0 [] G b).length
    · rw [if_pos hl] at hc
      exact hin i' d hi hc
    · rw [if_neg hl] at hc
      have := cel_out hc
      exact absurd ⟨rfl, rfl, this.1, this.2⟩ hl
  · rw [hf z' i' h]
    by_cases hl : b = b' ∧ s = s' ∧ b' < G.length ∧ s' < (nth0 [] G b).length
    · rw [if_pos hl] at hc
      obtain ⟨rfl, rfl, -, -⟩ := hl
      by_cases hq : p ≤ p' ∧ p' < p + n
      · have e := at_inj hA (by have := hK (p' - p) (by omega); rwa [show p + (p' - p) = p' by omega] at this)
        exact absurd ⟨e.1, by omega⟩ h
      · rw [hd p' hq] at hc
        exact hv z' i' b s p' d hA hc
    · rw [if_neg hl] at hc
      exact hv z' i' b' s' p' d hA hc
theorem rm_cp (hv : RM v G) (hK : AtK z L b s p) (hK2 : AtK z2 L b2 s2 p2) (hn : n ≤ L) : RM (upA v z (va_cpy (v z2) (v z) 0 0 n)) (G.set b ((nth0 [] G b).set s (blk (nth0 0 (nth0 [] G b) s) p (nth0 0 (nth0 [] G b2) s2) p2 n))) := by
  refine rm_row hv hK hn (fun z' i' h => ?_) (fun q h => ?_) (fun i d hi hd => ?_)
  · rw [upA_r]
    by_cases e : z' = z
    · rw [if_pos e, cpy_r, if_neg (fun q => h ⟨e, q⟩), e]
    · rw [if_neg e]
  · rw [dig_blk, if_neg h]
    rfl
  · rw [dig_blk, if_pos ⟨by omega, by omega⟩] at hd
    rw [upA_r, if_pos rfl, cpy_r, if_pos hi]
    exact hv z2 i b2 s2 (p2 + i) d (hK2 i (by omega)) (by rw [← hd]; unfold cel; exact congrArg _ (by omega))
theorem rm_fill (hv : RM v G) (hK : AtK z L b s p) (hx : x = nI a) : RM (rowT v z (fun _ => x) L) (G.set b ((nth0 [] G b).set s (gfil a p (nth0 0 (nth0 [] G b) s) L))) := by
  refine rm_row (n := L) hv hK (Nat.le_refl _) (fun z' i' h => ?_) (fun q h => ?_) (fun i d hi hd => ?_)
  · unfold rowT
    rw [if_neg h]
  · rw [dig_fil, if_neg h]
    rfl
  · rw [dig_fil, if_pos ⟨by omega, by omega⟩] at hd
    unfold rowT
    rw [if_pos ⟨rfl, hi⟩, hx, ← nI_mod a]
    exact congrArg nI (by omega)
/-! the places -/
theorem atk0 {k L s : Nat} (h : (k = 0 ∨ (31 ≤ k ∧ k ≤ 40 ∧ k ≠ 35))) (hs : slS k = s) : AtK (k, 0, 0) L 0 s 0 := fun i _ => Or.inl ⟨⟨h, rfl, rfl⟩, rfl, hs.symm, Nat.zero_add i⟩
theorem atkb {k o L s : Nat} (h : ((1 ≤ k ∧ k ≤ 21) ∨ k = 30)) (hs : slB k = s) (_ : o < 7) : AtK (k, o, 0) L (Nat.succ o) s 0 := fun i _ => Or.inr (Or.inl ⟨h, rfl, rfl, hs.symm, Nat.zero_add i⟩)
theorem atkr4 {k o s : Nat} (h : 26 ≤ k ∧ k ≤ 28) (hs : slB k = s) (hx : x = nI a) (ha : a < 20) : AtK (k, o, ix x) 4 (Nat.succ o) s (Nat.mul 4 a) := fun i hi => Or.inr (Or.inr (Or.inl ⟨h, rfl, hs.symm, hi, by show 4 * a + i = 4 * ix x + i; rw [ix_of hx (by omega)]⟩))
theorem atkr30 {k o s : Nat} (h : k = 29) (hs : slB k = s) (hx : x = nI a) (ha : a < 20) : AtK (k, o, ix x) 30 (Nat.succ o) s (Nat.mul 30 a) := fun i hi => Or.inr (Or.inr (Or.inr ⟨h, rfl, hs.symm, hi, by show 30 * a + i = 30 * ix x + i; rw [ix_of hx (by omega)]⟩))
theorem at_n (hK : AtK z L b s p) (h : i < L) : At z i b s (Nat.add p i) := hK i h
theorem at_n0 (hK : AtK z L b s 0) (h : i < L) : At z i b s i := by
  have := hK i h
  rwa [Nat.zero_add] at this
theorem at_x (hK : AtK z L b s p) (hx : x = nI a) (ha : a < L) (hL : L < 2147483648) : At z (ix x) b s (Nat.add p a) := by
  rw [ix_of hx (by omega)]
  exact hK a ha
theorem at_x0 (hK : AtK z L b s 0) (hx : x = nI a) (ha : a < L) (hL : L < 2147483648) : At z (ix x) b s a := by
  rw [ix_of hx (by omega)]
  exact at_n0 hK ha
/-! the rows -/
theorem sim_none : Sim R F none := fun _ h => nomatch h
theorem sim_some {r : α} {q : β} (h : R r q) : Sim R (some r) (some q) := fun b e => ⟨r, rfl, by cases e; exact h⟩
theorem sim_I (h : x = nI a) : Sim RI (some x) (gsq a fun q => some q) := sim_some h
theorem sim_Iv (h : x = nI a) : Sim RI (some x) (some a) := sim_some h
theorem sim_P (h : x = nI a) (hm : RM v G) : Sim RP (some (x, v)) (gsq a fun q => some (q, G)) := sim_some ⟨h, hm⟩
theorem sim_T {k : Nat} (h : x = nI a) (hm : RM v G) : Sim RT (some (x, k, v)) (gsq a fun q => some (q, k, G)) := sim_some ⟨h, rfl, hm⟩
theorem sim_sq {f : Nat → Option β} (h : x = nI a) (k : ∀ y, x = nI y → Sim R F (f y)) : Sim R F (gsq a f) := k a h
theorem gck_s {α : Type} {b : Bool} {e : Option α} {r : α} (h : gck b e = some r) : b = true ∧ e = some r := by
  cases b
  · cases h
  · exact ⟨rfl, h⟩
theorem sim_chk (k : a < n → Sim R F g) : Sim R F (gck (Nat.blt a n) g) := fun b h => k (Nat.blt_eq.mp (gck_s h).1) b (gck_s h).2
theorem sim_rd {f : Nat → Option β} (hv : RM v G) (hA : At z i b s p) (k : ∀ y, v z i = nI y → Sim R F (f y)) : Sim R F (grd G b s p f) := by
  intro r hr
  unfold grd at hr
  cases hd : dig (nth0 0 (nth0 [] G b) s) p with
  | zero => rw [hd] at hr; cases hr
  | succ d => rw [hd] at hr; exact k d (hv z i b s p d hA hd) r hr
theorem sim_if {P : Prop} [Decidable P] {c : Bool} {A B : Option α} {A' B' : Option β} (hc : c = true ↔ P) (k1 : Sim R A A') (k2 : Sim R B B') : Sim R (if P then A else B) (gif c A' B') := by
  by_cases h : P
  · rw [if_pos h, hc.mpr h]
    exact k1
  · rw [if_neg h, Bool.eq_false_iff.mpr (fun q => h (hc.mp q))]
    exact k2
theorem sim_inb0 (hx : x = nI a) (ha : a < n) (hn : n < 2147483648) (k : Sim R F g) : Sim R (ck (inb x n) F) g := by
  rw [hx, qi_inb ha hn]
  exact k
theorem sim_inb (hx : x = nI a) (hn : n < 2147483648) (k : a < n → Sim R F g) : Sim R (ck (inb x n) F) (gck (Nat.blt a n) g) := sim_chk fun h => sim_inb0 hx h hn (k h)
theorem sim_zb0 (k : Sim R F g) : Sim R (ck (zb (0 : Int32)) F) g := k
theorem sim_zb1 (k : Sim R F g) : Sim R (ck (zb (1 : Int32)) F) g := k
theorem sim_zb (hx : x = nI a) (k : Sim R F g) : Sim R (ck (zb x) F) (gck (Nat.ble a 1) g) := by
  intro r hr
  obtain ⟨h1, h2⟩ := gck_s hr
  have h3 : a ≤ 1 := Nat.le_of_ble_eq_true h1
  have h4 : zb x = true := by
    rcases (show a = 0 ∨ a = 1 by omega) with e | e <;> (rw [hx, e]; rfl)
  rw [h4]
  exact k r h2
theorem sim_ix7 (hx : x = nI a) (k : a < 7 → Sim R F g) : Sim R (ck (decide (ix x < 7)) F) (gck (Nat.blt a 7) g) := sim_chk fun h => by
  rw [ix_of hx (by omega), decide_eq_true h]
  exact k h
theorem sim_cpo (hx : x = nI a) (hn : n < 2147483648) (k : a ≤ n → Sim R F g) : Sim R (ck (cpo 0 0 x n n) F) (gck (Nat.ble a n) g) := by
  intro r hr
  obtain ⟨h1, h2⟩ := gck_s hr
  have h3 : a ≤ n := Nat.le_of_ble_eq_true h1
  have h4 : cpo 0 0 x n n = true := by
    unfold cpo
    rw [hx, qi_I (by omega), show (0 : Int32).toInt = 0 from rfl]
    exact decide_eq_true ⟨by omega, by omega, by omega, by omega, by omega⟩
  rw [h4]
  exact k h3 r h2
theorem wr_e {β : Type} (G : MG) (b s a : Nat) (k : MG → Option β) : (lsk (nth0 [] G b) s a fun r => lsk G b r k) = k (G.set b ((nth0 [] G b).set s a)) := by rw [lsk_e, lsk_e]
theorem sim_wr {f : mC → Option α} {f' : MG → Option β} (hv : RM v G) (hA : At z i b s p) (hx : x = nI a) (k : ∀ v' G', RM v' G' → Sim R (f v') (f' G')) : Sim R (lt (up v z i x) f) (gwr G b s p a f') := by
  unfold gwr
  rw [gsq_e, wr_e]
  exact k _ _ (rm_up hv hA hx)
theorem sim_cp {f : mC → Option α} {f' : MG → Option β} (hv : RM v G) (hK : AtK z L b s p) (hK2 : AtK z2 L b2 s2 p2) (hx : x = nI a) (ha : a ≤ L) (hL : L < 2147483648) (k : ∀ v' G', RM v' G' → Sim R (f v') (f' G')) : Sim R (lt (upA v z (va_cpy (v z2) (v z) (ix (0 : Int32)) (ix (0 : Int32)) (ix x))) f) (gcp G b s p b2 s2 p2 a f') := by
  unfold gcp
  rw [gsq_e, wr_e, ix_of hx (by omega)]
  exact k _ _ (rm_cp hv hK hK2 ha)
theorem sim_fill {f : mC → Option α} {f' : MG → Option β} (hv : RM v G) (hK : AtK z L b s p) (hx : x = nI a) (hL : L ≤ 5000) (k : ∀ v' G', RM v' G' → Sim R (f v') (f' G')) : Sim R ((f_J7_fill_53178 L z x v).bind f) (gfill L G b s p a f') := by
  unfold gfill
  rw [gsq_e, wr_e, s_fill hL, bnd_s]
  exact k _ _ (rm_fill hv hK hx)
theorem sim_lt {f : Int32 → Option α} {f' : Nat → Option β} (hx : x = nI a) (k : ∀ x' a', RI x' a' → Sim R (f x') (f' a')) : Sim R (lt x f) (gsq a f') := k x a hx
theorem sim_bd {R' : α' → β' → Prop} {F' : Option α'} {g' : Option β'} {f : α' → Option α} {f' : β' → Option β} (h : Sim R' F' g') (k : ∀ r q, R' r q → Sim R (f r) (f' q)) : Sim R (F'.bind f) (gbd g' f') := by
  intro r hr
  cases hg : g' with
  | none => rw [hg] at hr; cases hr
  | some q =>
    rw [hg] at hr
    obtain ⟨u, hu, hR⟩ := h q hg
    rw [hu]
    exact k u q hR r hr
theorem sim_jn {X X' : Type} (P : X → X' → Prop) {t : X} {t' : X'} {B : X → Option α} {B' : X' → Option β} (h : P t t') (k : ∀ j j', P j j' → Sim R (B j) (B' j')) : Sim R (jn t B) (gjn t' B') := k t t' h
theorem lp_sim {X X' : Type} (P : X → X' → Prop) {t : X} {t' : X'} {B : X → X} {B' : X' → X'} (h0 : P t t') (hs : ∀ q q', P q q' → P (B q) (B' q')) : ∀ n, P (lp t B n) (glp t' B' n)
  | 0 => h0
  | n + 1 => hs _ _ (lp_sim P h0 hs n)
theorem sim_tb {F' : Option (Int32 × Nat × mC)} {g' : Option (Nat × Nat × MG)} {f : Int32 → mC → Option (Int32 × Nat × mC)} {f' : Nat → MG → Option (Nat × Nat × MG)} (h : Sim RT F' g') (k : ∀ r q, RI r q → ∀ w W, RM w W → Sim RT (f r w) (f' q W)) : Sim RT (tb F' f) (gtb g' f') := by
  unfold tb gtb
  refine sim_bd h (fun r q hq => ?_)
  obtain ⟨h1, h2, h3⟩ := hq
  by_cases h0 : r.2.1 = 0
  · rw [if_pos h0, show q.2.1 = 0 from h2.symm.trans h0]
    exact k _ _ h1 _ _ h3
  · rw [if_neg h0]
    obtain ⟨d, hd⟩ := Nat.exists_eq_succ_of_ne_zero (fun e => h0 (h2.trans e))
    rw [hd]
    exact sim_some ⟨rfl, h2.trans hd, h3⟩
theorem sim_nn {F' : Option (Int32 × Nat × mC)} {g' : Option (Nat × Nat × MG)} (h : Sim RT F' g') : Sim RP (nn F') (gnn g') := by
  unfold nn gnn
  refine sim_bd h (fun r q hq => ?_)
  obtain ⟨h1, h2, h3⟩ := hq
  by_cases h0 : r.2.1 = 0
  · rw [if_pos h0, show q.2.1 = 0 from h2.symm.trans h0]
    exact sim_some ⟨h1, h3⟩
  · rw [if_neg h0]
    obtain ⟨d, hd⟩ := Nat.exists_eq_succ_of_ne_zero (fun e => h0 (h2.trans e))
    rw [hd]
    exact sim_none
def SimL (R : α → β → Prop) : List (Option α) → List (Option β) → Prop
  | [], [] => True
  | a :: l, b :: m => Sim R a b ∧ SimL R l m
  | _, _ => False
theorem siml_at {D : Option α} {D' : Option β} (hd : Sim R D D') : ∀ {l : List (Option α)} {m : List (Option β)}, SimL R l m → ∀ i, Sim R (l.getD i D) (m.getD i D')
  | [], [], _, i => by simpa using hd
  | a :: l, b :: m, h, 0 => h.1
  | a :: l, b :: m, h, i + 1 => by simpa using siml_at hd h.2 i
  | [], b :: m, h, i => h.elim
  | a :: l, [], h, i => h.elim
theorem sim_swt {es : List (Option α)} {es' : List (Option β)} {D : Option α} {D' : Option β} (hx : x = nI a) (h : SimL R es es') (hd : Sim R D D') : Sim R (swt x 0 es D) (gswt a es' D') := by
  have ht : x.toInt = ((a : Int) + 2147483648) % 4294967296 - 2147483648 := by rw [hx]; exact nI_ti a
  unfold swt gswt
  have hm : Nat.mod a 4294967296 = a % 4294967296 := rfl
  rw [hm]
  by_cases h0 : x.toInt < 0
  · rw [if_pos h0, show Nat.ble (Nat.succ (a % 4294967296)) 2147483648 = false from Bool.eq_false_iff.mpr (fun q => by have := Nat.le_of_ble_eq_true q; omega)]
    exact hd
  · rw [if_neg h0, show Nat.ble (Nat.succ (a % 4294967296)) 2147483648 = true from Nat.ble_eq.mpr (by omega)]
    show Sim R (es.getD (x.toInt - 0).toNat D) (nth0 D' es' (a % 4294967296))
    rw [nth0_e, show (x.toInt - 0).toNat = a % 4294967296 by omega]
    exact siml_at hd h _
end SM
