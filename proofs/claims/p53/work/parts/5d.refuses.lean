/-! THE LAW'S ROW OF REFUSALS: each throws as it should, nothing has changed but where the letter's reading stands -/
def CL (v u : mC) : Prop := (∀ z : kC, z.1 < 36 → z ≠ (32, 0, 0) → u z = v z) ∧ u (32, 0, 0) 1 = v (32, 0, 0) 1
theorem CL_rf (v : mC) : CL v v := ⟨fun _ _ _ => rfl, rfl⟩
theorem CL_tr {u v w : mC} (h1 : CL u v) (h2 : CL v w) : CL u w := ⟨fun z a b => (h2.1 z a b).trans (h1.1 z a b), h2.2.trans h1.2⟩
theorem CL_vle (v : mC) : CL v (vle v) := ⟨fun z _ h => funext fun i => by
  unfold vle
  rw [up_r, if_neg (fun q => h q.1), up_r, if_neg (fun q => h q.1)], by
  unfold vle
  rw [up_r, if_neg (by decide), up_r, if_neg (by decide)]⟩
theorem CL_CF {v u : mC} (h : CF v u) : CL v u := ⟨fun z a _ => h z a, by rw [h (32, 0, 0) (by show 32 < 36; omega)]⟩
def TR (v : mC) (e : Option (Int32 × mC)) : Prop := ∃ u, e = some (1, u) ∧ CL v u
/-- out of a range -/
theorem ts (x y : Int32) : (x - y).toInt = (x.toInt - y.toInt).bmod 4294967296 := Int32.toInt_sub x y
theorem ta (x y : Int32) : (x + y).toInt = (x.toInt + y.toInt).bmod 4294967296 := Int32.toInt_add x y
section Rf
variable {v : mC} {w : mM} {D n m f : Nat} {dd : Nat → Nat} {x1 : Int32}
theorem tr_b {F : Option (Int32 × mC)} {x : Int32} {g : Int32 × mC → Option (Int32 × mC)} (h : F = some (x, v)) (k : TR v (g (x, v))) : TR v (F.bind g) := by rw [h]; exact k
theorem tr_i {F : Option Int32} {x : Int32} {g : Int32 → Option (Int32 × mC)} (h : F = some x) (k : TR v (g x)) : TR v (F.bind g) := by rw [h]; exact k
theorem tr_c {u : mC} {F : Option (Int32 × mC)} {x : Int32} {g : Int32 × mC → Option (Int32 × mC)} (h : F = some (x, u)) (hc : CL v u) (k : TR u (g (x, u))) : TR v (F.bind g) := by
  rw [h]
  obtain ⟨t, e, c⟩ := k
  exact ⟨t, e, CL_tr hc c⟩
theorem tr_p {P : Prop} [Decidable P] {A B : Option (Int32 × mC)} (h : P) (k : TR v A) : TR v (if P then A else B) := by rw [if_pos h]; exact k
theorem tr_n {P : Prop} [Decidable P] {A B : Option (Int32 × mC)} (h : ¬ P) (k : TR v B) : TR v (if P then A else B) := by rw [if_neg h]; exact k
theorem tr_if {P : Prop} [Decidable P] {A B : Option (Int32 × mC)} (k1 : P → TR v A) (k2 : ¬ P → TR v B) : TR v (if P then A else B) := by
  by_cases h : P
  · rw [if_pos h]; exact k1 h
  · rw [if_neg h]; exact k2 h
theorem tr_s : TR v (ck (zb 1) (some ((1 : Int32), v))) := ⟨v, rfl, CL_rf v⟩
theorem tr_far {u : mC} {a b : Int32} {g : Int32 → Option (Int32 × mC)} (hx : x1 = 0 ∨ x1 = 1 ∨ x1 = 2 ∨ x1 = 3) (ha : -2147483648 < a.toInt) (hb : b.toInt < 2147483647) (k : ∀ y : Int32, ¬ (a ≤ y ∧ y ≤ b) → TR v (g y)) : TR v ((f_L_far x1 a b u).bind g) := by
  have l1 : (1 : Int32).toInt = 1 := rfl
  have l2 : (-2147483648 : Int32).toInt = -2147483648 := rfl
  have l3 : (2147483647 : Int32).toInt = 2147483647 := rfl
  have ra := Int32.le_toInt a
  have rb := Int32.toInt_lt b
  have ra2 := Int32.toInt_lt a
  have rb2 := Int32.le_toInt b
  unfold f_L_far
  rcases hx with e | e | e | e <;> subst e
  · rw [if_pos rfl]
    refine k (a - 1) (fun q => ?_)
    have h1 := q.1
    rw [qi_le, ts, l1, Int.bmod_def] at h1
    split at h1 <;> omega
  · rw [if_neg (by decide), if_pos rfl]
    refine k (b + 1) (fun q => ?_)
    have h1 := q.2
    rw [qi_le, ta, l1, Int.bmod_def] at h1
    split at h1 <;> omega
  · rw [if_neg (by decide), if_neg (by decide), if_pos rfl]
    refine k _ (fun q => ?_)
    have h1 := q.1
    rw [qi_le, l2] at h1
    omega
  · rw [if_neg (by decide), if_neg (by decide), if_neg (by decide)]
    refine k _ (fun q => ?_)
    have h1 := q.2
    rw [qi_le, l3] at h1
    omega
theorem no_isI {y : Int32} {n : Nat} (hn : n ≤ 30) (h : ¬ (0 ≤ y ∧ y ≤ nI n - 1)) : ¬ isI y n := fun q => by
  obtain ⟨k, hk, rfl⟩ := isI_of q
  refine h ⟨nI_le (a := 0) (Nat.zero_le _) (by omega), ?_⟩
  rw [show nI n - 1 = nI (n - 1) from qi_sub (b := 1) (by omega)]
  exact nI_le (by omega) (by omega)
theorem n1_lt {n : Nat} (hn : n ≤ 30) : (nI n - 1).toInt < 2147483647 := by
  rw [ts, qi_I (by omega), show (1 : Int32).toInt = 1 from rfl, Int.bmod_def]
  split <;> omega
theorem d1_gt {D : Nat} (hD : D ≤ 9999) : -2147483648 < (nI D + 1).toInt := by
  rw [show nI D + 1 = nI (D + 1) from qi_add D 1, qi_I (by omega)]
  omega
theorem he_p {P : Prop} [Decidable P] {A B : Option (Int32 × Nat × mC)} {r : Option (Int32 × mC)} (h : P) (k : hc A = r) : hc (if P then A else B) = r := by rw [if_pos h]; exact k
theorem he_n {P : Prop} [Decidable P] {A B : Option (Int32 × Nat × mC)} {r : Option (Int32 × mC)} (h : ¬ P) (k : hc B = r) : hc (if P then A else B) = r := by rw [if_neg h]; exact k
theorem he_l {X : Type} {x : X} {g : X → Option (Int32 × Nat × mC)} {r : Option (Int32 × mC)} (k : hc (g x) = r) : hc (lt x g) = r := k
theorem eq_p {α : Type} {P : Prop} [Decidable P] {A B r : α} (h : P) (k : A = r) : (if P then A else B) = r := by rw [if_pos h]; exact k
theorem eq_n {α : Type} {P : Prop} [Decidable P] {A B r : α} (h : ¬ P) (k : B = r) : (if P then A else B) = r := by rw [if_neg h]; exact k
theorem ht_1 {u : mC} {F : Option (Int32 × Nat × mC)} {g : Int32 → mC → Option (Int32 × Nat × mC)} (h : F = some (0, 1, u)) : hc (tb F g) = some (-2011, u) := by rw [h]; rfl
theorem ht_2 {u : mC} {F : Option (Int32 × Nat × mC)} {g : Int32 → mC → Option (Int32 × Nat × mC)} (h : F = some (0, 2, u)) : hc (tb F g) = some (-2012, u) := by rw [h]; rfl
theorem ht_3 {u : mC} {F : Option (Int32 × Nat × mC)} {g : Int32 → mC → Option (Int32 × Nat × mC)} (h : F = some (0, 3, u)) : hc (tb F g) = some (-2013, u) := by rw [h]; rfl
theorem h1_ {u : mC} {F : Option (Int32 × Nat × mC)} (h : F = some (0, 1, u)) : hc F = some (-2011, u) := by rw [h]; rfl
theorem h2_ {u : mC} {F : Option (Int32 × Nat × mC)} (h : F = some (0, 2, u)) : hc F = some (-2012, u) := by rw [h]; rfl
theorem h22_ {u : mC} {F : Option (Int32 × Nat × mC)} (h : F = some (0, 2, u)) : hc2 F = some (-2012, u) := by rw [h]; rfl
theorem cl_1_1 {y1 : Int32} {y2 : Int32} {y3 : Int32} (R : Rl v 0 (w 1) D n m f dd) (hp : ¬ isI y1 n) : f_L_call 1 y1 y2 y3 v = some (-2011, v) := by
  unfold f_L_call
  refine eq_p (by decide) ?_
  unfold f_L_act
  refine he_n (by decide) ?_
  refine he_p (by decide) ?_
  exact ht_1 (th_leave R hp)
theorem cl_3_1 {y1 : Int32} {y2 : Int32} {y3 : Int32} (R : Rl v 0 (w 1) D n m f dd) (hp : ¬ (isI y1 n ∧ (0 ≤ y2 ∧ y2 ≤ 4))) : f_L_call 3 y1 y2 y3 v = some (-2011, v) := by
  unfold f_L_call
  refine eq_p (by decide) ?_
  unfold f_L_act
  refine he_n (by decide) ?_
  refine he_n (by decide) ?_
  refine he_n (by decide) ?_
  refine he_p (by decide) ?_
  exact ht_1 (th_lend1 R hp)
theorem cl_3_2 {y1 : Int32} {y2 : Int32} {y3 : Int32} (R : Rl v 0 (w 1) D n m f dd) (h1 : isI y1 n) (h2 : 0 ≤ y2 ∧ y2 ≤ 4) (hp : ¬ (1 ≤ y3 ∧ y3 ≤ 90)) : f_L_call 3 y1 y2 y3 v = some (-2012, v) := by
  unfold f_L_call
  refine eq_p (by decide) ?_
  unfold f_L_act
  refine he_n (by decide) ?_
  refine he_n (by decide) ?_
  refine he_n (by decide) ?_
  refine he_p (by decide) ?_
  exact ht_2 (th_lend2 R h1 h2 hp)
theorem cl_4_1 {y1 : Int32} {y2 : Int32} {y3 : Int32} (R : Rl v 0 (w 1) D n m f dd) (hp : ¬ isI y1 n) : f_L_call 4 y1 y2 y3 v = some (-2011, v) := by
  unfold f_L_call
  refine eq_p (by decide) ?_
  unfold f_L_act
  refine he_n (by decide) ?_
  refine he_n (by decide) ?_
  refine he_n (by decide) ?_
  refine he_n (by decide) ?_
  refine he_p (by decide) ?_
  exact ht_1 (th_excuse1 R hp)
theorem cl_4_2 {y1 : Int32} {y2 : Int32} {y3 : Int32} (R : Rl v 0 (w 1) D n m f dd) (h1 : isI y1 n) (hp : ¬ ((nI D + 1 ≤ y2 ∧ y2 ≤ 9999) ∧ (y2 ≤ y3 ∧ y3 ≤ y2 + 60))) : f_L_call 4 y1 y2 y3 v = some (-2012, v) := by
  unfold f_L_call
  refine eq_p (by decide) ?_
  unfold f_L_act
  refine he_n (by decide) ?_
  refine he_n (by decide) ?_
  refine he_n (by decide) ?_
  refine he_n (by decide) ?_
  refine he_p (by decide) ?_
  exact ht_2 (th_excuse2 R h1 hp)
theorem cl_5_2 {y1 : Int32} {y2 : Int32} {y3 : Int32} (R : Rl v 0 (w 1) D n m f dd) (hp : ¬ ((nI D + 1 ≤ y1 ∧ y1 ≤ 9999) ∧ (1 ≤ y2 ∧ y2 ≤ 3))) : f_L_call 5 y1 y2 y3 v = some (-2012, v) := by
  unfold f_L_call
  refine eq_p (by decide) ?_
  unfold f_L_act
  refine he_n (by decide) ?_
  refine he_n (by decide) ?_
  refine he_n (by decide) ?_
  refine he_n (by decide) ?_
  refine he_n (by decide) ?_
  refine he_p (by decide) ?_
  exact ht_2 (th_announce R hp)
theorem cl_6_1 {y1 : Int32} {y2 : Int32} {y3 : Int32} (R : Rl v 0 (w 1) D n m f dd) (hp : ¬ (isI y1 f ∧ (0 ≤ y2 ∧ y2 ≤ 3))) : f_L_call 6 y1 y2 y3 v = some (-2011, v) := by
  unfold f_L_call
  refine eq_p (by decide) ?_
  unfold f_L_act
  refine he_n (by decide) ?_
  refine he_n (by decide) ?_
  refine he_n (by decide) ?_
  refine he_n (by decide) ?_
  refine he_n (by decide) ?_
  refine he_n (by decide) ?_
  refine he_p (by decide) ?_
  refine he_l ?_
  exact ht_1 (th_setLine1 R hp)
theorem cl_7_2 {y1 : Int32} {y2 : Int32} {y3 : Int32} (hp : ¬ (1 ≤ y1 ∧ y1 ≤ 99)) : f_L_call 7 y1 y2 y3 v = some (-2012, v) := by
  unfold f_L_call
  refine eq_p (by decide) ?_
  unfold f_L_act
  refine he_n (by decide) ?_
  refine he_n (by decide) ?_
  refine he_n (by decide) ?_
  refine he_n (by decide) ?_
  refine he_n (by decide) ?_
  refine he_n (by decide) ?_
  refine he_n (by decide) ?_
  exact ht_2 (th_passDays hp)
theorem cl_31_3 {y1 : Int32} {y2 : Int32} {y3 : Int32} (h : v (32, 0, 0) 1 = 0) : f_L_call 31 y1 y2 y3 v = some (-2013, vle v) := by
  unfold f_L_call
  refine eq_n (by decide) ?_
  refine eq_n (by decide) ?_
  refine eq_n (by decide) ?_
  unfold f_L_rest
  refine he_n (by decide) ?_
  refine he_p (by decide) ?_
  exact ht_3 (th_impossible h)
theorem cl_32_3 {y1 : Int32} {y2 : Int32} {y3 : Int32} (h : v (32, 0, 0) 1 = 0) : f_L_call 32 y1 y2 y3 v = some (-2013, vle v) := by
  unfold f_L_call
  refine eq_n (by decide) ?_
  refine eq_n (by decide) ?_
  refine eq_n (by decide) ?_
  unfold f_L_rest
  refine he_n (by decide) ?_
  refine he_n (by decide) ?_
  refine he_p (by decide) ?_
  exact ht_3 (th_carryOut h)
theorem cl_18_1 {y1 : Int32} {y2 : Int32} {y3 : Int32} (R : Rl v 0 (w 1) D n m f dd) (hp : ¬ (0 ≤ y1 ∧ y1 ≤ 4)) : f_L_call 18 y1 y2 y3 v = some (-2011, v) := by
  unfold f_L_call
  refine eq_n (by decide) ?_
  refine eq_p (by decide) ?_
  unfold f_L_singer
  refine he_n (by decide) ?_
  refine he_n (by decide) ?_
  refine he_n (by decide) ?_
  refine he_n (by decide) ?_
  refine he_n (by decide) ?_
  refine he_n (by decide) ?_
  refine he_n (by decide) ?_
  refine he_n (by decide) ?_
  refine he_n (by decide) ?_
  refine he_n (by decide) ?_
  exact ht_1 ((oa_favoursOf R y1).2 hp)
theorem cl_8_1 {y1 : Int32} {y2 : Int32} {y3 : Int32} (R : Rl v 0 (w 1) D n m f dd) (hp : ¬ isI y1 n) : f_L_call 8 y1 y2 y3 v = some (-2011, v) := by
  unfold f_L_call
  refine eq_n (by decide) ?_
  refine eq_p (by decide) ?_
  unfold f_L_singer
  refine he_p (by decide) ?_
  exact ht_1 ((oa_isInChoir R y1).2 hp)
theorem cl_9_1 {y1 : Int32} {y2 : Int32} {y3 : Int32} (R : Rl v 0 (w 1) D n m f dd) (hp : ¬ isI y1 n) : f_L_call 9 y1 y2 y3 v = some (-2011, v) := by
  unfold f_L_call
  refine eq_n (by decide) ?_
  refine eq_p (by decide) ?_
  unfold f_L_singer
  refine he_n (by decide) ?_
  refine he_p (by decide) ?_
  exact ht_1 (th_ageOf R hp)
theorem cl_10_1 {y1 : Int32} {y2 : Int32} {y3 : Int32} (R : Rl v 0 (w 1) D n m f dd) (hp : ¬ isI y1 n) : f_L_call 10 y1 y2 y3 v = some (-2011, v) := by
  unfold f_L_call
  refine eq_n (by decide) ?_
  refine eq_p (by decide) ?_
  unfold f_L_singer
  refine he_n (by decide) ?_
  refine he_n (by decide) ?_
  refine he_p (by decide) ?_
  exact ht_1 ((oa_lowestNoteOf R y1).2 hp)
theorem cl_11_1 {y1 : Int32} {y2 : Int32} {y3 : Int32} (R : Rl v 0 (w 1) D n m f dd) (hp : ¬ isI y1 n) : f_L_call 11 y1 y2 y3 v = some (-2011, v) := by
  unfold f_L_call
  refine eq_n (by decide) ?_
  refine eq_p (by decide) ?_
  unfold f_L_singer
  refine he_n (by decide) ?_
  refine he_n (by decide) ?_
  refine he_n (by decide) ?_
  refine he_p (by decide) ?_
  exact ht_1 (th_highestNoteOf R hp)
theorem cl_12_1 {y1 : Int32} {y2 : Int32} {y3 : Int32} (R : Rl v 0 (w 1) D n m f dd) (hp : ¬ isI y1 n) : f_L_call 12 y1 y2 y3 v = some (-2011, v) := by
  unfold f_L_call
  refine eq_n (by decide) ?_
  refine eq_p (by decide) ?_
  unfold f_L_singer
  refine he_n (by decide) ?_
  refine he_n (by decide) ?_
  refine he_n (by decide) ?_
  refine he_n (by decide) ?_
  refine he_p (by decide) ?_
  exact ht_1 ((oa_breakDayOf R y1).2 hp)
theorem cl_13_1 {y1 : Int32} {y2 : Int32} {y3 : Int32} (R : Rl v 0 (w 1) D n m f dd) (hp : ¬ isI y1 n) : f_L_call 13 y1 y2 y3 v = some (-2011, v) := by
  unfold f_L_call
  refine eq_n (by decide) ?_
  refine eq_p (by decide) ?_
  unfold f_L_singer
  refine he_n (by decide) ?_
  refine he_n (by decide) ?_
  refine he_n (by decide) ?_
  refine he_n (by decide) ?_
  refine he_n (by decide) ?_
  refine he_p (by decide) ?_
  exact ht_1 ((oa_choirOf R y1).2 hp)
theorem cl_14_1 {y1 : Int32} {y2 : Int32} {y3 : Int32} (R : Rl v 0 (w 1) D n m f dd) (hp : ¬ isI y1 n) : f_L_call 14 y1 y2 y3 v = some (-2011, v) := by
  unfold f_L_call
  refine eq_n (by decide) ?_
  refine eq_p (by decide) ?_
  unfold f_L_singer
  refine he_n (by decide) ?_
  refine he_n (by decide) ?_
  refine he_n (by decide) ?_
  refine he_n (by decide) ?_
  refine he_n (by decide) ?_
  refine he_n (by decide) ?_
  refine he_p (by decide) ?_
  exact ht_1 ((oa_awayUntil R y1).2 hp)
theorem cl_16_1 {y1 : Int32} {y2 : Int32} {y3 : Int32} (R : Rl v 0 (w 1) D n m f dd) (hp : ¬ isI y1 n) : f_L_call 16 y1 y2 y3 v = some (-2011, v) := by
  unfold f_L_call
  refine eq_n (by decide) ?_
  refine eq_p (by decide) ?_
  unfold f_L_singer
  refine he_n (by decide) ?_
  refine he_n (by decide) ?_
  refine he_n (by decide) ?_
  refine he_n (by decide) ?_
  refine he_n (by decide) ?_
  refine he_n (by decide) ?_
  refine he_n (by decide) ?_
  refine he_n (by decide) ?_
  refine he_p (by decide) ?_
  exact ht_1 ((oa_feastsOf R y1).2 hp)
theorem cl_17_1 {y1 : Int32} {y2 : Int32} {y3 : Int32} (R : Rl v 0 (w 1) D n m f dd) (hp : ¬ isI y1 n) : f_L_call 17 y1 y2 y3 v = some (-2011, v) := by
  unfold f_L_call
  refine eq_n (by decide) ?_
  refine eq_p (by decide) ?_
  unfold f_L_singer
  refine he_n (by decide) ?_
  refine he_n (by decide) ?_
  refine he_n (by decide) ?_
  refine he_n (by decide) ?_
  refine he_n (by decide) ?_
  refine he_n (by decide) ?_
  refine he_n (by decide) ?_
  refine he_n (by decide) ?_
  refine he_n (by decide) ?_
  refine he_p (by decide) ?_
  exact ht_1 ((oa_descantsOf R y1).2 hp)
theorem cl_15_1 {y1 : Int32} {y2 : Int32} {y3 : Int32} (R : Rl v 0 (w 1) D n m f dd) (hp : ¬ isI y1 n) : f_L_call 15 y1 y2 y3 v = some (-2011, v) := by
  unfold f_L_call
  refine eq_n (by decide) ?_
  refine eq_p (by decide) ?_
  unfold f_L_singer
  refine he_n (by decide) ?_
  refine he_n (by decide) ?_
  refine he_n (by decide) ?_
  refine he_n (by decide) ?_
  refine he_n (by decide) ?_
  refine he_n (by decide) ?_
  refine he_n (by decide) ?_
  refine he_p (by decide) ?_
  exact ht_1 (th_isExcused1 R hp)
theorem cl_15_2 {y1 : Int32} {y2 : Int32} {y3 : Int32} (R : Rl v 0 (w 1) D n m f dd) (h1 : isI y1 n) (hp : ¬ (0 ≤ y2 ∧ y2 ≤ 9999)) : f_L_call 15 y1 y2 y3 v = some (-2012, v) := by
  unfold f_L_call
  refine eq_n (by decide) ?_
  refine eq_p (by decide) ?_
  unfold f_L_singer
  refine he_n (by decide) ?_
  refine he_n (by decide) ?_
  refine he_n (by decide) ?_
  refine he_n (by decide) ?_
  refine he_n (by decide) ?_
  refine he_n (by decide) ?_
  refine he_n (by decide) ?_
  refine he_p (by decide) ?_
  exact ht_2 (th_isExcused2 R h1 hp)
theorem cl_19_1 {y1 : Int32} {y2 : Int32} {y3 : Int32} (R : Rl v 0 (w 1) D n m f dd) (hp : ¬ isI y1 f) : f_L_call 19 y1 y2 y3 v = some (-2011, v) := by
  unfold f_L_call
  refine eq_n (by decide) ?_
  refine eq_n (by decide) ?_
  refine eq_p (by decide) ?_
  unfold f_L_feast
  refine he_p (by decide) ?_
  exact ht_1 ((oa_dayOf R y1).2 hp)
theorem cl_20_1 {y1 : Int32} {y2 : Int32} {y3 : Int32} (R : Rl v 0 (w 1) D n m f dd) (hp : ¬ isI y1 f) : f_L_call 20 y1 y2 y3 v = some (-2011, v) := by
  unfold f_L_call
  refine eq_n (by decide) ?_
  refine eq_n (by decide) ?_
  refine eq_p (by decide) ?_
  unfold f_L_feast
  refine he_n (by decide) ?_
  refine he_p (by decide) ?_
  exact ht_1 (th_isHeld R hp)
theorem cl_21_1 {y1 : Int32} {y2 : Int32} {y3 : Int32} (R : Rl v 0 (w 1) D n m f dd) (hp : ¬ isI y1 f) : f_L_call 21 y1 y2 y3 v = some (-2011, v) := by
  unfold f_L_call
  refine eq_n (by decide) ?_
  refine eq_n (by decide) ?_
  refine eq_p (by decide) ?_
  unfold f_L_feast
  refine he_n (by decide) ?_
  refine he_n (by decide) ?_
  refine he_p (by decide) ?_
  exact ht_1 ((oa_shortfall R y1).2 hp)
theorem cl_22_1 {y1 : Int32} {y2 : Int32} {y3 : Int32} (R : Rl v 0 (w 1) D n m f dd) (hp : ¬ isI y1 f) : f_L_call 22 y1 y2 y3 v = some (-2011, v) := by
  unfold f_L_call
  refine eq_n (by decide) ?_
  refine eq_n (by decide) ?_
  refine eq_p (by decide) ?_
  unfold f_L_feast
  refine he_n (by decide) ?_
  refine he_n (by decide) ?_
  refine he_n (by decide) ?_
  refine he_p (by decide) ?_
  exact ht_1 (th_shortfallBySets R hp)
theorem cl_23_1 {y1 : Int32} {y2 : Int32} {y3 : Int32} (R : Rl v 0 (w 1) D n m f dd) (hp : ¬ isI y1 f) : f_L_call 23 y1 y2 y3 v = some (-2011, v) := by
  unfold f_L_call
  refine eq_n (by decide) ?_
  refine eq_n (by decide) ?_
  refine eq_p (by decide) ?_
  unfold f_L_feast
  refine he_n (by decide) ?_
  refine he_n (by decide) ?_
  refine he_n (by decide) ?_
  refine he_n (by decide) ?_
  refine he_p (by decide) ?_
  exact ht_1 (th_neededLine R hp)
theorem cl_24_1 {y1 : Int32} {y2 : Int32} {y3 : Int32} (R : Rl v 0 (w 1) D n m f dd) (hp : ¬ isI y1 f) : f_L_call 24 y1 y2 y3 v = some (-2011, v) := by
  unfold f_L_call
  refine eq_n (by decide) ?_
  refine eq_n (by decide) ?_
  refine eq_p (by decide) ?_
  unfold f_L_feast
  refine he_n (by decide) ?_
  refine he_n (by decide) ?_
  refine he_n (by decide) ?_
  refine he_n (by decide) ?_
  refine he_n (by decide) ?_
  refine he_p (by decide) ?_
  exact ht_1 ((oa_descantIn R y1).2 hp)
theorem cl_25_1 {y1 : Int32} {y2 : Int32} {y3 : Int32} (R : Rl v 0 (w 1) D n m f dd) (hp : ¬ (isI y1 f ∧ isI y2 n)) : f_L_call 25 y1 y2 y3 v = some (-2011, v) := by
  unfold f_L_call
  refine eq_n (by decide) ?_
  refine eq_n (by decide) ?_
  refine eq_p (by decide) ?_
  unfold f_L_feast
  refine he_n (by decide) ?_
  refine he_n (by decide) ?_
  refine he_n (by decide) ?_
  refine he_n (by decide) ?_
  refine he_n (by decide) ?_
  refine he_n (by decide) ?_
  refine he_p (by decide) ?_
  exact ht_1 (th_lineOf R hp)
theorem cl_28_1 {y1 : Int32} {y2 : Int32} {y3 : Int32} (R : Rl v 0 (w 1) D n m f dd) (hp : ¬ (isI y1 f ∧ isI y2 n)) : f_L_call 28 y1 y2 y3 v = some (-2011, v) := by
  unfold f_L_call
  refine eq_n (by decide) ?_
  refine eq_n (by decide) ?_
  refine eq_p (by decide) ?_
  unfold f_L_feast
  refine he_n (by decide) ?_
  refine he_n (by decide) ?_
  refine he_n (by decide) ?_
  refine he_n (by decide) ?_
  refine he_n (by decide) ?_
  refine he_n (by decide) ?_
  refine he_n (by decide) ?_
  refine he_n (by decide) ?_
  refine he_n (by decide) ?_
  refine he_p (by decide) ?_
  exact ht_1 (th_pewOf R hp)
theorem cl_26_1 {y1 : Int32} {y2 : Int32} {y3 : Int32} (R : Rl v 0 (w 1) D n m f dd) (hp : ¬ (isI y1 f ∧ (0 ≤ y2 ∧ y2 ≤ 3))) : f_L_call 26 y1 y2 y3 v = some (-2011, v) := by
  unfold f_L_call
  refine eq_n (by decide) ?_
  refine eq_n (by decide) ?_
  refine eq_p (by decide) ?_
  unfold f_L_feast
  refine he_n (by decide) ?_
  refine he_n (by decide) ?_
  refine he_n (by decide) ?_
  refine he_n (by decide) ?_
  refine he_n (by decide) ?_
  refine he_n (by decide) ?_
  refine he_n (by decide) ?_
  refine he_p (by decide) ?_
  exact ht_1 ((oa_placesIn R y1 y2).2 hp)
theorem cl_27_1 {y1 : Int32} {y2 : Int32} {y3 : Int32} (R : Rl v 0 (w 1) D n m f dd) (hp : ¬ (isI y1 f ∧ (0 ≤ y2 ∧ y2 ≤ 3))) : f_L_call 27 y1 y2 y3 v = some (-2011, v) := by
  unfold f_L_call
  refine eq_n (by decide) ?_
  refine eq_n (by decide) ?_
  refine eq_p (by decide) ?_
  unfold f_L_feast
  refine he_n (by decide) ?_
  refine he_n (by decide) ?_
  refine he_n (by decide) ?_
  refine he_n (by decide) ?_
  refine he_n (by decide) ?_
  refine he_n (by decide) ?_
  refine he_n (by decide) ?_
  refine he_n (by decide) ?_
  refine he_p (by decide) ?_
  exact ht_1 ((oa_singersIn R y1 y2).2 hp)
theorem cl_29_1 {y1 : Int32} {y2 : Int32} {y3 : Int32} (R : Rl v 0 (w 1) D n m f dd) (hp : ¬ (isI y1 f ∧ isI y2 n ∧ (0 ≤ y3 ∧ y3 ≤ 3))) : f_L_call 29 y1 y2 y3 v = some (-2011, v) := by
  unfold f_L_call
  refine eq_n (by decide) ?_
  refine eq_n (by decide) ?_
  refine eq_p (by decide) ?_
  unfold f_L_feast
  refine he_n (by decide) ?_
  refine he_n (by decide) ?_
  refine he_n (by decide) ?_
  refine he_n (by decide) ?_
  refine he_n (by decide) ?_
  refine he_n (by decide) ?_
  refine he_n (by decide) ?_
  refine he_n (by decide) ?_
  refine he_n (by decide) ?_
  refine he_n (by decide) ?_
  exact ht_1 (th_whyNot R hp)
theorem Rl_CL {a : Nat → Int32} {v u : mC} (R : Rl v 0 a D n m f dd) (h : CL v u) : Rl u 0 a D n m f dd := Rl_x (Ag_eq fun k j i h1 h2 => by rw [h.1 (k, 0, j) (by show k < 36; omega) (fun q => by have := congrArg Prod.fst q; dsimp only at this; omega)]) (fun _ _ => rfl) R
set_option maxRecDepth 100000 in
set_option maxHeartbeats 40000000 in
theorem ref_one (hx : x1 = 0 ∨ x1 = 1 ∨ x1 = 2 ∨ x1 = 3) (R : Rl v 0 (w 1) D n m f dd) (hl : v (32, 0, 0) 1 = 0) : TR v (f_L_refusesOne x1 v) := by
  have hD := R.1.1
  have hn := R.1.2.1
  have hf : f ≤ 30 := Nat.le_trans R.1.2.2.2 (by omega)
  unfold f_L_refusesOne
  refine tr_i (singers_e R) ?_
  refine tr_far hx (by decide) (n1_lt hn) (fun r_8 hh => ?_)
  have h_8 := no_isI hn hh
  refine tr_i (feasts_e R) ?_
  refine tr_far hx (by decide) (n1_lt hf) (fun r_20 hh => ?_)
  have h_20 := no_isI hf hh
  refine tr_far hx (by decide) (by decide) (fun r_27 h_27 => ?_)
  refine tr_far hx (by decide) (by decide) (fun r_38 h_38 => ?_)
  refine tr_b (h22_ (th_register R (fun q => h_38 q.1.1))) ?_
  refine tr_p rfl ?_
  refine tr_far hx (by decide) (by decide) (fun r_66 h_66 => ?_)
  refine tr_b (h22_ (th_register R (fun q => h_66 q.1.2.1))) ?_
  refine tr_p rfl ?_
  refine tr_far hx (by decide) (by decide) (fun r_91 h_91 => ?_)
  refine tr_b (h22_ (th_register R (fun q => h_91 q.2.1))) ?_
  refine tr_p rfl ?_
  refine tr_far hx (by decide) (by decide) (fun r_120 h_120 => ?_)
  refine tr_b (h22_ (th_register R (fun q => h_120 q.2.2))) ?_
  refine tr_p rfl ?_
  rw [jn_e]
  refine tr_if (fun _ => ?_) (fun _ => ?_)
  · have hJ : ¬ ((11 : Int32) = 0 ∨ (12 ≤ (11 : Int32) ∧ (11 : Int32) ≤ 17)) := by decide
    refine tr_b (h22_ (th_register R (fun q => hJ q.1.2.2))) ?_
    refine tr_p rfl ?_
    refine tr_b (h1_ (th_borrow1 h_27)) ?_
    refine tr_p rfl ?_
    refine tr_far hx (by decide) (by decide) (fun r_190 h_190 => ?_)
    refine tr_b (h2_ (th_borrow2 (by decide) (fun q => h_190 q.1))) ?_
    refine tr_p rfl ?_
    refine tr_far hx (by decide) (by decide) (fun r_217 h_217 => ?_)
    refine tr_b (h2_ (th_borrow2 (by decide) (fun q => h_217 q.2.2.1))) ?_
    refine tr_p rfl ?_
    refine tr_far hx (by decide) (by decide) (fun r_243 h_243 => ?_)
    refine tr_b (h2_ (th_borrow2 (by decide) (fun q => h_243 q.2.2.2.2))) ?_
    refine tr_p rfl ?_
    refine tr_far hx (by decide) (by decide) (fun r_268 h_268 => ?_)
    refine tr_b (h2_ (th_borrow2 (by decide) (fun q => h_268 q.2.1))) ?_
    refine tr_p rfl ?_
    refine tr_b (cl_1_1 R h_8) ?_
    refine tr_p rfl ?_
    refine tr_b (cl_3_1 R (fun q => h_8 q.1)) ?_
    refine tr_p rfl ?_
    refine tr_b (cl_4_1 R h_8) ?_
    refine tr_p rfl ?_
    refine tr_i (x := nI D) (congrArg some R.2.1.1) ?_
    refine tr_far hx (d1_gt hD) (by decide) (fun r_336 h_336 => ?_)
    refine tr_b (cl_5_2 R (fun q => h_336 q.1)) ?_
    refine tr_p rfl ?_
    refine tr_far hx (by decide) (by decide) (fun r_358 h_358 => ?_)
    refine tr_b (cl_5_2 R (fun q => h_358 q.2)) ?_
    refine tr_p rfl ?_
    refine tr_b (cl_6_1 R (fun q => h_20 q.1)) ?_
    refine tr_p rfl ?_
    refine tr_far hx (by decide) (by decide) (fun r_394 h_394 => ?_)
    refine tr_b (cl_7_2 h_394) ?_
    refine tr_p rfl ?_
    refine tr_c (cl_31_3 hl) (CL_vle _) ?_
    replace hl := (CL_vle _).2.trans hl
    replace R := Rl_CL R (CL_vle _)
    refine tr_p rfl ?_
    refine tr_c (cl_32_3 hl) (CL_vle _) ?_
    replace hl := (CL_vle _).2.trans hl
    replace R := Rl_CL R (CL_vle _)
    refine tr_p rfl ?_
    refine tr_b (cl_18_1 R h_27) ?_
    refine tr_p rfl ?_
    refine tr_b (cl_8_1 R h_8) ?_
    refine tr_p rfl ?_
    refine tr_b (cl_9_1 R h_8) ?_
    refine tr_p rfl ?_
    refine tr_b (cl_10_1 R h_8) ?_
    refine tr_p rfl ?_
    refine tr_b (cl_11_1 R h_8) ?_
    refine tr_p rfl ?_
    refine tr_b (cl_12_1 R h_8) ?_
    refine tr_p rfl ?_
    refine tr_b (cl_13_1 R h_8) ?_
    refine tr_p rfl ?_
    refine tr_b (cl_14_1 R h_8) ?_
    refine tr_p rfl ?_
    refine tr_b (cl_15_1 R h_8) ?_
    refine tr_p rfl ?_
    refine tr_b (cl_16_1 R h_8) ?_
    refine tr_p rfl ?_
    refine tr_b (cl_17_1 R h_8) ?_
    refine tr_p rfl ?_
    refine tr_b (cl_19_1 R h_20) ?_
    refine tr_p rfl ?_
    refine tr_b (cl_20_1 R h_20) ?_
    refine tr_p rfl ?_
    refine tr_b (cl_21_1 R h_20) ?_
    refine tr_p rfl ?_
    refine tr_b (cl_22_1 R h_20) ?_
    refine tr_p rfl ?_
    refine tr_b (cl_23_1 R h_20) ?_
    refine tr_p rfl ?_
    refine tr_b (cl_24_1 R h_20) ?_
    refine tr_p rfl ?_
    refine tr_b (cl_25_1 R (fun q => h_20 q.1)) ?_
    refine tr_p rfl ?_
    refine tr_b (cl_26_1 R (fun q => h_20 q.1)) ?_
    refine tr_p rfl ?_
    refine tr_b (cl_27_1 R (fun q => h_20 q.1)) ?_
    refine tr_p rfl ?_
    refine tr_b (cl_28_1 R (fun q => h_20 q.1)) ?_
    refine tr_p rfl ?_
    refine tr_b (cl_29_1 R (fun q => h_20 q.1)) ?_
    refine tr_p rfl ?_
    refine tr_i (singers_e R) ?_
    refine tr_if (fun _ => tr_s) (fun n0 => ?_)
    refine tr_i (feasts_e R) ?_
    refine tr_if (fun _ => tr_s) (fun f0 => ?_)
    have p0 : isI (0 : Int32) n := isI_n (k := 0) (Nat.pos_of_ne_zero (fun q => n0 (by rw [q]; rfl))) (by omega)
    have q0 : isI (0 : Int32) f := isI_n (k := 0) (Nat.pos_of_ne_zero (fun q => f0 (by rw [q]; rfl))) (by omega)
    refine tr_b (cl_3_1 R (fun q => h_27 q.2)) ?_
    refine tr_p rfl ?_
    refine tr_far hx (by decide) (by decide) (fun r_563 h_563 => ?_)
    refine tr_b (cl_3_2 R p0 (by decide) h_563) ?_
    refine tr_p rfl ?_
    refine tr_i (x := nI D) (congrArg some R.2.1.1) ?_
    refine tr_far hx (d1_gt hD) (by decide) (fun r_588 h_588 => ?_)
    refine tr_b (cl_4_2 R p0 (fun q => h_588 q.1)) ?_
    refine tr_p rfl ?_
    refine tr_far hx (by decide) (by decide) (fun r_616 h_616 => ?_)
    refine tr_b (cl_4_2 R p0 (fun q => h_616 q.2)) ?_
    refine tr_p rfl ?_
    refine tr_far hx (by decide) (by decide) (fun r_635 h_635 => ?_)
    refine tr_b (cl_6_1 R (fun q => h_635 q.2)) ?_
    refine tr_p rfl ?_
    refine tr_far hx (by decide) (by decide) (fun r_654 h_654 => ?_)
    refine tr_b (h2_ (th_setLine2 R q0 (by decide) (fun q => h_654 q.1))) ?_
    refine tr_p rfl ?_
    refine tr_far hx (by decide) (by decide) (fun r_675 h_675 => ?_)
    refine tr_b (h2_ (th_setLine2 R q0 (by decide) (fun q => h_675 q.2.1))) ?_
    refine tr_p rfl ?_
    refine tr_far hx (by decide) (by decide) (fun r_698 h_698 => ?_)
    refine tr_b (h2_ (th_setLine2 R q0 (by decide) (fun q => h_698 q.2.2))) ?_
    refine tr_p rfl ?_
    refine tr_far hx (by decide) (by decide) (fun r_719 h_719 => ?_)
    refine tr_b (cl_15_2 R p0 h_719) ?_
    refine tr_p rfl ?_
    refine tr_b (cl_25_1 R (fun q => h_8 q.2)) ?_
    refine tr_p rfl ?_
    refine tr_b (cl_28_1 R (fun q => h_8 q.2)) ?_
    refine tr_p rfl ?_
    refine tr_b (cl_29_1 R (fun q => h_8 q.2.1)) ?_
    refine tr_p rfl ?_
    refine tr_far hx (by decide) (by decide) (fun r_787 h_787 => ?_)
    refine tr_b (cl_29_1 R (fun q => h_787 q.2.2)) ?_
    refine tr_p rfl ?_
    refine tr_far hx (by decide) (by decide) (fun r_806 h_806 => ?_)
    refine tr_b (cl_26_1 R (fun q => h_806 q.2)) ?_
    refine tr_p rfl ?_
    refine tr_far hx (by decide) (by decide) (fun r_826 h_826 => ?_)
    refine tr_b (cl_27_1 R (fun q => h_826 q.2)) ?_
    refine tr_p rfl ?_
    exact tr_s
  · refine tr_far hx (by decide) (by decide) (fun r_155 h_155 => ?_)
    have hJ : ¬ (r_155 = 0 ∨ (12 ≤ r_155 ∧ r_155 ≤ 17)) := fun q => q.elim (fun e => h_155 (by rw [e]; decide)) (fun e => h_155 ⟨Int32.le_trans (by decide) e.1, e.2⟩)
    refine tr_b (h22_ (th_register R (fun q => hJ q.1.2.2))) ?_
    refine tr_p rfl ?_
    refine tr_b (h1_ (th_borrow1 h_27)) ?_
    refine tr_p rfl ?_
    refine tr_far hx (by decide) (by decide) (fun r_190 h_190 => ?_)
    refine tr_b (h2_ (th_borrow2 (by decide) (fun q => h_190 q.1))) ?_
    refine tr_p rfl ?_
    refine tr_far hx (by decide) (by decide) (fun r_217 h_217 => ?_)
    refine tr_b (h2_ (th_borrow2 (by decide) (fun q => h_217 q.2.2.1))) ?_
    refine tr_p rfl ?_
    refine tr_far hx (by decide) (by decide) (fun r_243 h_243 => ?_)
    refine tr_b (h2_ (th_borrow2 (by decide) (fun q => h_243 q.2.2.2.2))) ?_
    refine tr_p rfl ?_
    refine tr_far hx (by decide) (by decide) (fun r_268 h_268 => ?_)
    refine tr_b (h2_ (th_borrow2 (by decide) (fun q => h_268 q.2.1))) ?_
    refine tr_p rfl ?_
    refine tr_b (cl_1_1 R h_8) ?_
    refine tr_p rfl ?_
    refine tr_b (cl_3_1 R (fun q => h_8 q.1)) ?_
    refine tr_p rfl ?_
    refine tr_b (cl_4_1 R h_8) ?_
    refine tr_p rfl ?_
    refine tr_i (x := nI D) (congrArg some R.2.1.1) ?_
    refine tr_far hx (d1_gt hD) (by decide) (fun r_336 h_336 => ?_)
    refine tr_b (cl_5_2 R (fun q => h_336 q.1)) ?_
    refine tr_p rfl ?_
    refine tr_far hx (by decide) (by decide) (fun r_358 h_358 => ?_)
    refine tr_b (cl_5_2 R (fun q => h_358 q.2)) ?_
    refine tr_p rfl ?_
    refine tr_b (cl_6_1 R (fun q => h_20 q.1)) ?_
    refine tr_p rfl ?_
    refine tr_far hx (by decide) (by decide) (fun r_394 h_394 => ?_)
    refine tr_b (cl_7_2 h_394) ?_
    refine tr_p rfl ?_
    refine tr_c (cl_31_3 hl) (CL_vle _) ?_
    replace hl := (CL_vle _).2.trans hl
    replace R := Rl_CL R (CL_vle _)
    refine tr_p rfl ?_
    refine tr_c (cl_32_3 hl) (CL_vle _) ?_
    replace hl := (CL_vle _).2.trans hl
    replace R := Rl_CL R (CL_vle _)
    refine tr_p rfl ?_
    refine tr_b (cl_18_1 R h_27) ?_
    refine tr_p rfl ?_
    refine tr_b (cl_8_1 R h_8) ?_
    refine tr_p rfl ?_
    refine tr_b (cl_9_1 R h_8) ?_
    refine tr_p rfl ?_
    refine tr_b (cl_10_1 R h_8) ?_
    refine tr_p rfl ?_
    refine tr_b (cl_11_1 R h_8) ?_
    refine tr_p rfl ?_
    refine tr_b (cl_12_1 R h_8) ?_
    refine tr_p rfl ?_
    refine tr_b (cl_13_1 R h_8) ?_
    refine tr_p rfl ?_
    refine tr_b (cl_14_1 R h_8) ?_
    refine tr_p rfl ?_
    refine tr_b (cl_15_1 R h_8) ?_
    refine tr_p rfl ?_
    refine tr_b (cl_16_1 R h_8) ?_
    refine tr_p rfl ?_
    refine tr_b (cl_17_1 R h_8) ?_
    refine tr_p rfl ?_
    refine tr_b (cl_19_1 R h_20) ?_
    refine tr_p rfl ?_
    refine tr_b (cl_20_1 R h_20) ?_
    refine tr_p rfl ?_
    refine tr_b (cl_21_1 R h_20) ?_
    refine tr_p rfl ?_
    refine tr_b (cl_22_1 R h_20) ?_
    refine tr_p rfl ?_
    refine tr_b (cl_23_1 R h_20) ?_
    refine tr_p rfl ?_
    refine tr_b (cl_24_1 R h_20) ?_
    refine tr_p rfl ?_
    refine tr_b (cl_25_1 R (fun q => h_20 q.1)) ?_
    refine tr_p rfl ?_
    refine tr_b (cl_26_1 R (fun q => h_20 q.1)) ?_
    refine tr_p rfl ?_
    refine tr_b (cl_27_1 R (fun q => h_20 q.1)) ?_
    refine tr_p rfl ?_
    refine tr_b (cl_28_1 R (fun q => h_20 q.1)) ?_
    refine tr_p rfl ?_
    refine tr_b (cl_29_1 R (fun q => h_20 q.1)) ?_
    refine tr_p rfl ?_
    refine tr_i (singers_e R) ?_
    refine tr_if (fun _ => tr_s) (fun n0 => ?_)
    refine tr_i (feasts_e R) ?_
    refine tr_if (fun _ => tr_s) (fun f0 => ?_)
    have p0 : isI (0 : Int32) n := isI_n (k := 0) (Nat.pos_of_ne_zero (fun q => n0 (by rw [q]; rfl))) (by omega)
    have q0 : isI (0 : Int32) f := isI_n (k := 0) (Nat.pos_of_ne_zero (fun q => f0 (by rw [q]; rfl))) (by omega)
    refine tr_b (cl_3_1 R (fun q => h_27 q.2)) ?_
    refine tr_p rfl ?_
    refine tr_far hx (by decide) (by decide) (fun r_563 h_563 => ?_)
    refine tr_b (cl_3_2 R p0 (by decide) h_563) ?_
    refine tr_p rfl ?_
    refine tr_i (x := nI D) (congrArg some R.2.1.1) ?_
    refine tr_far hx (d1_gt hD) (by decide) (fun r_588 h_588 => ?_)
    refine tr_b (cl_4_2 R p0 (fun q => h_588 q.1)) ?_
    refine tr_p rfl ?_
    refine tr_far hx (by decide) (by decide) (fun r_616 h_616 => ?_)
    refine tr_b (cl_4_2 R p0 (fun q => h_616 q.2)) ?_
    refine tr_p rfl ?_
    refine tr_far hx (by decide) (by decide) (fun r_635 h_635 => ?_)
    refine tr_b (cl_6_1 R (fun q => h_635 q.2)) ?_
    refine tr_p rfl ?_
    refine tr_far hx (by decide) (by decide) (fun r_654 h_654 => ?_)
    refine tr_b (h2_ (th_setLine2 R q0 (by decide) (fun q => h_654 q.1))) ?_
    refine tr_p rfl ?_
    refine tr_far hx (by decide) (by decide) (fun r_675 h_675 => ?_)
    refine tr_b (h2_ (th_setLine2 R q0 (by decide) (fun q => h_675 q.2.1))) ?_
    refine tr_p rfl ?_
    refine tr_far hx (by decide) (by decide) (fun r_698 h_698 => ?_)
    refine tr_b (h2_ (th_setLine2 R q0 (by decide) (fun q => h_698 q.2.2))) ?_
    refine tr_p rfl ?_
    refine tr_far hx (by decide) (by decide) (fun r_719 h_719 => ?_)
    refine tr_b (cl_15_2 R p0 h_719) ?_
    refine tr_p rfl ?_
    refine tr_b (cl_25_1 R (fun q => h_8 q.2)) ?_
    refine tr_p rfl ?_
    refine tr_b (cl_28_1 R (fun q => h_8 q.2)) ?_
    refine tr_p rfl ?_
    refine tr_b (cl_29_1 R (fun q => h_8 q.2.1)) ?_
    refine tr_p rfl ?_
    refine tr_far hx (by decide) (by decide) (fun r_787 h_787 => ?_)
    refine tr_b (cl_29_1 R (fun q => h_787 q.2.2)) ?_
    refine tr_p rfl ?_
    refine tr_far hx (by decide) (by decide) (fun r_806 h_806 => ?_)
    refine tr_b (cl_26_1 R (fun q => h_806 q.2)) ?_
    refine tr_p rfl ?_
    refine tr_far hx (by decide) (by decide) (fun r_826 h_826 => ?_)
    refine tr_b (cl_27_1 R (fun q => h_826 q.2)) ?_
    refine tr_p rfl ?_
    exact tr_s
theorem refused_ok (R : Rl v 0 (w 1) D n m f dd) (hl : v (32, 0, 0) 1 = 0) : ∃ u, f_L_refused v = some (1, u) ∧ CL v u := by
  unfold f_L_refused
  obtain ⟨x, u1, u2, e1, -, c1, -⟩ := seen2 R R
  have C1 := CL_CF c1
  have R1 := Rl_CL R C1
  have l1 := C1.2.trans hl
  obtain ⟨v1, a1, b1⟩ := ref_one (x1 := 0) (Or.inl rfl) R1 l1
  have R2 := Rl_CL R1 b1
  have l2 := b1.2.trans l1
  obtain ⟨v2, a2, b2⟩ := ref_one (x1 := 1) (Or.inr (Or.inl rfl)) R2 l2
  have R3 := Rl_CL R2 b2
  have l3 := b2.2.trans l2
  obtain ⟨v3, a3, b3⟩ := ref_one (x1 := 2) (Or.inr (Or.inr (Or.inl rfl))) R3 l3
  have R4 := Rl_CL R3 b3
  have l4 := b3.2.trans l3
  obtain ⟨v4, a4, b4⟩ := ref_one (x1 := 3) (Or.inr (Or.inr (Or.inr rfl))) R4 l4
  have R5 := Rl_CL R4 b4
  obtain ⟨y, t1, t2, g1, g2, d1, d2⟩ := seen2 R R5
  rw [e1] at g1
  cases g1
  have C5 := CL_CF d2
  have CC := CL_tr C1 (CL_tr b1 (CL_tr b2 (CL_tr b3 b4)))
  have CA := CL_tr CC C5
  refine ⟨t2, ?_, CA⟩
  rw [e1, bnd_s]
  dsimp only
  rw [show f_X6_recordedStates u1 = some (u1 (0, 0, 0) 5) from rfl, bnd_s, a1, bnd_s]
  dsimp only
  rw [if_neg (by decide), a2, bnd_s]
  dsimp only
  rw [if_neg (by decide), a3, bnd_s]
  dsimp only
  rw [if_neg (by decide), a4, bnd_s]
  dsimp only
  rw [if_neg (by decide), g2, bnd_s]
  dsimp only
  rw [if_pos (lcm_z.mpr rfl), show f_X6_recordedStates t2 = some (t2 (0, 0, 0) 5) from rfl, bnd_s]
  have e5 : t2 (0, 0, 0) 5 = u1 (0, 0, 0) 5 := by rw [CA.1 (0, 0, 0) (by show 0 < 36; omega) (by decide), C1.1 (0, 0, 0) (by show 0 < 36; omega) (by decide)]
  rw [if_pos e5]
  rfl
end Rf
