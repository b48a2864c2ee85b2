/-! MASKS OF FOUR LINES, SUMS, LEASTS -/
theorem ba_and : ∀ x, x < 16 → ∀ y, y < 16 → ((nI x &&& nI y = 0) ↔ (x &&& y = 0)) := by decide +kernel
theorem ba_bit : ∀ x, x < 16 → ∀ l, l < 4 → ((nI x &&& ((1 : Int32) <<< (nI l &&& 31)) = 0) ↔ x.testBit l = false) := by decide +kernel
theorem ba_shr : ∀ x, x < 16 → ∀ l, l < 4 → (((nI x >>> (nI l &&& 31)) &&& 1 = 1) ↔ x.testBit l = true) := by decide +kernel
theorem ba_or : ∀ l, l < 4 → ∀ a, a < 2 ^ l → nI a ||| ((1 : Int32) <<< (nI l &&& 31)) = nI (a + 2 ^ l) := by decide +kernel
theorem ba_or0 : ∀ a, a < 16 → nI a ||| (0 : Int32) = nI a := by decide +kernel
theorem ba_inv : ∀ t, t < 16 → ∀ l, l < 4 → (15 - t).testBit l = !t.testBit l := by decide +kernel
theorem ba_has : ∀ x, x < 16 → ∀ t, t < 16 → ∀ l, l < 4 → x.testBit l = true → t.testBit l = true → ¬ (x &&& t = 0) := by decide +kernel
/-- a mask out of four truths -/
def mkP (p : Nat → Bool) : Nat → Nat
  | 0 => 0
  | k + 1 => mkP p k + (if p k then 2 ^ k else 0)
theorem mkP_lt (p : Nat → Bool) : ∀ k, mkP p k < 2 ^ k
  | 0 => Nat.zero_lt_one
  | k + 1 => by
    have := mkP_lt p k
    have e : 2 ^ (k + 1) = 2 ^ k + 2 ^ k := by rw [Nat.pow_succ]; omega
    unfold mkP
    split <;> omega
theorem mkP_4 (p : Nat → Bool) : mkP p 4 < 16 := mkP_lt p 4
theorem mkP_c {p q : Nat → Bool} : ∀ {k : Nat}, (∀ l, l < k → p l = q l) → mkP p k = mkP q k
  | 0, _ => rfl
  | k + 1, h => by unfold mkP; rw [mkP_c (fun l hl => h l (by omega)), h k (by omega)]
/-- sums -/
def qs (f : Nat → Nat) : Nat → Nat
  | 0 => 0
  | n + 1 => qs f n + f n
theorem qs_s (f : Nat → Nat) (n : Nat) : qs f (n + 1) = qs f n + f n := rfl
theorem qs_cong {f g : Nat → Nat} : ∀ {n : Nat}, (∀ k, k < n → f k = g k) → qs f n = qs g n
  | 0, _ => rfl
  | n + 1, h => by rw [qs_s, qs_s, qs_cong (fun k hk => h k (by omega)), h n (by omega)]
theorem qs_add (f g : Nat → Nat) : ∀ n, qs (fun k => f k + g k) n = qs f n + qs g n
  | 0 => rfl
  | n + 1 => by rw [qs_s, qs_s, qs_s, qs_add f g n]; omega
theorem qs_bound {f : Nat → Nat} {c : Nat} : ∀ {n : Nat}, (∀ k, k < n → f k ≤ c) → qs f n ≤ n * c
  | 0, _ => by simp [qs]
  | n + 1, h => by
    have h1 := qs_bound (f := f) (c := c) (n := n) (fun k hk => h k (by omega))
    have h2 := h n (by omega)
    rw [qs_s, Nat.succ_mul]
    omega
theorem qs_part {f : Nat → Nat} : ∀ {n i : Nat}, i < n → f i ≤ qs f n
  | 0, i, h => absurd h (Nat.not_lt_zero i)
  | n + 1, i, h => by
    rw [qs_s]
    by_cases e : i = n
    · subst e; omega
    · have := qs_part (f := f) (n := n) (i := i) (by omega); omega
/-- one more at the place i -/
theorem qs_one {f g : Nat → Nat} {i : Nat} (c : Nat) : ∀ {n : Nat}, i < n → (∀ k, k < n → k ≠ i → g k = f k) → g i = f i + c → qs g n = qs f n + c
  | 0, h, _, _ => absurd h (Nat.not_lt_zero i)
  | n + 1, h, h1, h2 => by
    rw [qs_s, qs_s]
    by_cases e : i = n
    · subst e
      rw [qs_cong (fun k hk => h1 k (by omega) (by omega)), h2]; omega
    · rw [qs_one c (n := n) (by omega) (fun k hk hne => h1 k (by omega) hne) h2, h1 n (by omega) (fun q => e q.symm)]; omega
/-- leasts: over 0 .. n -/
def qm (g : Nat → Nat) : Nat → Nat
  | 0 => g 0
  | n + 1 => if g (n + 1) < qm g n then g (n + 1) else qm g n
theorem qm_le (g : Nat → Nat) : ∀ n k, k ≤ n → qm g n ≤ g k
  | 0, k, h => by have : k = 0 := by omega
                  subst this; exact Nat.le_refl _
  | n + 1, k, h => by
    unfold qm
    by_cases e : k = n + 1
    · subst e; split <;> omega
    · have := qm_le g n k (by omega); split <;> omega
theorem qm_at (g : Nat → Nat) : ∀ n, ∃ k, k ≤ n ∧ qm g n = g k
  | 0 => ⟨0, Nat.le_refl _, rfl⟩
  | n + 1 => by
    unfold qm
    split
    · exact ⟨n + 1, Nat.le_refl _, rfl⟩
    · obtain ⟨k, h1, h2⟩ := qm_at g n
      exact ⟨k, by omega, h2⟩
theorem qm_c {f g : Nat → Nat} : ∀ {n : Nat}, (∀ k, k ≤ n → f k = g k) → qm f n = qm g n
  | 0, h => h 0 (Nat.le_refl _)
  | n + 1, h => by unfold qm; rw [qm_c (fun k hk => h k (by omega)), h (n + 1) (Nat.le_refl _)]
/-- the counts of masks, and those of a set of lines -/
def cM (M : Nat → Nat) (m : Nat) (N : Nat) : Nat := qc (fun k => decide (M k = m)) N
def cT (M : Nat → Nat) (t : Nat) (N : Nat) : Nat := qc (fun k => decide (¬ (M k &&& t = 0))) N
theorem cM_cT (M : Nat → Nat) (t : Nat) : ∀ N, (∀ k, k < N → M k < 16) → qs (fun m => if m &&& t = 0 then 0 else cM M m N) 16 = cT M t N
  | 0, _ => by
    rw [qs_cong (g := fun _ => 0) (fun k _ => by simp [cM, qc])]
    rfl
  | N + 1, h => by
    have ih := cM_cT M t N (fun k hk => h k (by omega))
    have hN := h N (by omega)
    have e : cT M t (N + 1) = cT M t N + (if M N &&& t = 0 then 0 else 1) := by
      unfold cT
      rw [qc_s]
      by_cases p : M N &&& t = 0 <;> simp [p]
    rw [e, ← ih]
    refine qs_one (i := M N) _ hN (fun k _ hne => ?_) ?_
    · have : cM M k (N + 1) = cM M k N := by
        unfold cM
        rw [qc_s]
        simp [Ne.symm hne]
      rw [this]
    · have : cM M (M N) (N + 1) = cM M (M N) N + 1 := by
        unfold cM
        rw [qc_s]
        simp
      rw [this]
      split <;> omega
theorem qc_mono (p : Nat → Bool) {i n : Nat} (h : i ≤ n) : qc p i ≤ qc p n := by
  induction n with
  | zero => have : i = 0 := by omega
            subst this; exact Nat.le_refl _
  | succ n ih =>
    by_cases e : i = n + 1
    · subst e; exact Nat.le_refl _
    · rw [qc_s]
      have := ih (by omega)
      omega
/-- those from cur on -/
theorem cMT_from (M : Nat → Nat) (t : Nat) {cur N : Nat} (hc : cur ≤ N) (h : ∀ k, k < N → M k < 16) : qs (fun m => if m &&& t = 0 then 0 else cM M m N - cM M m cur) 16 = cT M t N - cT M t cur := by
  have h1 := cM_cT M t N h
  have h2 := cM_cT M t cur (fun k hk => h k (by omega))
  have h3 := qs_add (fun m => if m &&& t = 0 then 0 else cM M m N - cM M m cur) (fun m => if m &&& t = 0 then 0 else cM M m cur) 16
  rw [qs_cong (g := fun m => if m &&& t = 0 then 0 else cM M m N) (fun m _ => by
    have := qc_mono (fun k => decide (M k = m)) hc
    show (if _ then _ else _) + (if _ then _ else _) = _
    split
    · rfl
    · exact Nat.sub_add_cancel this), h1, h2] at h3
  omega
theorem cT_le (M : Nat → Nat) (t N : Nat) : cT M t N ≤ N := qc_le _ _
theorem cM_le (M : Nat → Nat) (t N : Nat) : cM M t N ≤ N := qc_le _ _
theorem cT_s (M : Nat → Nat) (t N : Nat) : cT M t (N + 1) = cT M t N + (if M N &&& t = 0 then 0 else 1) := by
  unfold cT
  rw [qc_s]
  by_cases p : M N &&& t = 0 <;> simp [p]
theorem cM_s (M : Nat → Nat) (m N : Nat) : cM M m (N + 1) = cM M m N + (if M N = m then 1 else 0) := by
  unfold cM
  rw [qc_s]
  by_cases p : M N = m <;> simp [p]
/-- the places outside a set -/
def outS (op : Nat → Nat) (t : Nat) : Nat := qs (fun l => if t.testBit l then 0 else op l) 4
theorem outS_le {op : Nat → Nat} (h : ∀ l, l < 4 → op l ≤ 6) (t : Nat) : outS op t ≤ 24 := by
  have := qs_bound (f := fun l => if t.testBit l then 0 else op l) (c := 6) (n := 4) (fun k hk => by
    show (if _ then _ else _) ≤ 6
    have := h k hk
    split <;> omega)
  exact this
/-- the bound of a set, when the singers from cur on and the places op are left -/
def bdS (M : Nat → Nat) (N : Nat) (op : Nat → Nat) (cur t : Nat) : Nat := (cT M t N - cT M t cur) + outS op t
/-- one place of line l less -/
def opL (op : Nat → Nat) (l : Nat) : Nat → Nat := fun k => if k = l then op k - 1 else op k
theorem outS_L {op : Nat → Nat} {l : Nat} (hl : l < 4) (ho : 0 < op l) (t : Nat) : outS op t = outS (opL op l) t + (if t.testBit l then 0 else 1) := by
  unfold outS
  refine qs_one (i := l) _ hl (fun k _ hne => by simp [opL, hne]) ?_
  show (if _ then _ else _) = (if _ then _ else _) + _
  by_cases p : t.testBit l
  · simp [p]
  · simp [p, opL]; omega
theorem bdS_L {M : Nat → Nat} {N : Nat} {op : Nat → Nat} {cur l : Nat} (hc : cur < N) (hl : l < 4) (ho : 0 < op l) (t : Nat) : bdS M N op cur t = bdS M N (opL op l) (cur + 1) t + ((if M cur &&& t = 0 then 0 else 1) + (if t.testBit l then 0 else 1)) := by
  unfold bdS
  rw [outS_L hl ho t, cT_s]
  have := qc_mono (fun k => decide (¬ (M k &&& t = 0))) (show cur + 1 ≤ N by omega)
  have h2 : cT M t (cur + 1) ≤ cT M t N := this
  rw [cT_s] at h2
  omega
theorem bdS_N {M : Nat → Nat} {N : Nat} {op : Nat → Nat} {cur : Nat} (hc : cur < N) (t : Nat) : bdS M N op cur t = bdS M N op (cur + 1) t + (if M cur &&& t = 0 then 0 else 1) := by
  unfold bdS
  rw [cT_s]
  have := qc_mono (fun k => decide (¬ (M k &&& t = 0))) (show cur + 1 ≤ N by omega)
  have h2 : cT M t (cur + 1) ≤ cT M t N := this
  rw [cT_s] at h2
  omega
theorem bdS_le {M : Nat → Nat} {N : Nat} {op : Nat → Nat} (hN : N ≤ 30) (h : ∀ l, l < 4 → op l ≤ 6) (cur t : Nat) : bdS M N op cur t ≤ 54 := by
  have h1 := outS_le h t
  have h2 := cT_le M t N
  unfold bdS
  omega
/-- THE POINT of the lineup: a line that the class's bounds allow is one that the reference's count allows, and the other way round -/
theorem good_iff {M : Nat → Nat} {N : Nat} {op : Nat → Nat} {cur l fil : Nat} (hc : cur < N) (hl : l < 4) (hM : M cur < 16) (ho : 0 < op l) (hb : (M cur).testBit l = true) (hf : qm (bdS M N op cur) 15 ≤ fil) : (∀ t, t < 16 → fil ≤ bdS M N (opL op l) (cur + 1) t + 1) ↔ qm (bdS M N (opL op l) (cur + 1)) 15 + 1 = fil := by
  obtain ⟨k, hk, e⟩ := qm_at (bdS M N op cur) 15
  have h1 := bdS_L (M := M) (N := N) (op := op) hc hl ho k
  have hcost : 1 ≤ (if M cur &&& k = 0 then 0 else 1) + (if k.testBit l then 0 else 1) := by
    by_cases p : k.testBit l
    · have := ba_has _ hM k (by omega) l hl hb p
      simp [this]
    · simp [p]
  have h2 := qm_le (bdS M N (opL op l) (cur + 1)) 15 k hk
  obtain ⟨k2, hk2, e2⟩ := qm_at (bdS M N (opL op l) (cur + 1)) 15
  constructor
  · intro h
    have := h k2 (by omega)
    omega
  · intro h t ht
    have := qm_le (bdS M N (opL op l) (cur + 1)) 15 t (by omega)
    omega
