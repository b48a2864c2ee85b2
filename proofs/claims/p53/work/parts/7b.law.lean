/-! THE LAW: part, drawn, its turn -/
theorem sl_ldcw {ρ κ : Type} {Γ : jG ρ} {Λ : jL κ} {cs : Nat × Nat} {pc : Nat} {ls : List (Nat × Value)} {st : List Value} {v : κ → Nat → Int32} {ex : Option ρ} {cc : ByteArray} {own : String} {Ts : List Cond} {rm : Room} (hG : jOk Γ Λ cc own Ts rm) {n : Nat} {x : Int32} (pc2 : Nat) (hp : pc + 3 = pc2) (d : decode cc pc = .ok (.ldc_w n, 3)) (hw : Jvm.Cond.constant own n x ∈ Ts) (k : Sm Γ Λ cs pc2 ls (.int x :: st) v ex) : Sm Γ Λ cs pc ls st v ex := by
  subst hp; intro r hr a H locs ha hR hS; exact lv_ldcw hG.1 hG.2.1 hG.2.2.2.1 (hG.2.2.2.2.1 _ hw) d (k r hr a H locs ha hR hS)
abbrev rmL_part : Room := { frames := 0, cells := 0, slots := 0, locals := 0 }
abbrev rmL_drawn : Room := { frames := 0, cells := 0, slots := 0, locals := 0 }
def partF (x n : Int32) : Int32 := (x &&& 2147483647) - (x &&& 2147483647) / n * n
theorem c_L_part {κ : Type} {Λ : jL κ} (hΛ : jLok Λ) {x n : Int32} (hn : ¬ n = 0) {l : Launch} {v : κ → Nat → Int32} : Ct l yL_part wsL_part rmL_part Λ [.int x, .int n] v (some (.int (partF x n))) v := by
  refine ct_of (cc := cL_part) (maxL := 2) (ret := some .int) (ex := some ()) (r := ()) (fun _ => (some (Value.int (partF x n)), v)) hΛ rfl (by decide) rfl (Nat.le_of_ble_eq_true rfl) (fun Γ hG hT hN hl => ?_)
  refine sm_iload_n hG 1 rfl dL_part_0 rfl 0 rfl ?_
  refine sm_ldc (x := 2147483647) hG 3 rfl dL_part_1 (by decide +kernel) ?_
  refine sm_iand hG 4 rfl dL_part_3 ?_
  refine sm_iload_n hG 5 rfl dL_part_4 rfl 1 rfl ?_
  refine sm_irem hG 6 rfl dL_part_5 hn ?_
  exact sm_iret hG hT (by decide) dL_part_6 rfl
theorem rem_n {t L : Nat} (ht : t < 2147483648) (h0 : 0 < L) (hL : L < 2147483648) : nI t - nI t / nI L * nI L = nI (t % L) := by
  rw [ia_div rfl ht h0 hL, qi_mul, qi_sub (show gdiv t L * L ≤ t from Nat.div_mul_le_self t L)]
  have h : t - gdiv t L * L = t % L := by
    have := Nat.div_add_mod t L
    show t - t / L * L = t % L
    rw [Nat.mul_comm] at this
    omega
  rw [h]
theorem c_L_drawn {P : pS} (hP : Ap P) {l : Launch} {m : mS} {t : Nat} (ht : t < 26) (hL : P.2.2.2.2.2.2.1 ≤ 260) : ∃ x, Ct l yL_drawn wsL_drawn rmL_drawn (lS P) [.ref P.2.2.2.2.2.1, .int (nI t)] m (some (.int x)) m := by
  by_cases h0 : P.2.2.2.2.2.2.1 = 0
  · refine ⟨7919 * nI t + 3, ?_⟩
    refine ct_of (cc := cL_drawn) (maxL := 2) (ret := some .int) (ex := some ()) (r := ()) (fun _ => (some (Value.int (7919 * nI t + 3)), m)) (lS_ok hP) rfl (by decide) rfl (Nat.le_of_ble_eq_true rfl) (fun Γ hG hT hN hl => ?_)
    refine sm_aload_n hG 1 rfl dL_drawn_0 rfl 0 rfl ?_
    refine sl_slen hG 2 rfl dL_drawn_1 ?_
    refine sl_ne hG 15 5 rfl dL_drawn_2 (by decide) (fun h => absurd (by rw [h0]; rfl) h) (fun _ => ?_)
    refine sm_sipush (x := 7919) hG 8 rfl dL_drawn_5 rfl ?_
    refine sm_iload_n hG 9 rfl dL_drawn_8 rfl 1 rfl ?_
    refine sm_imul hG 10 rfl dL_drawn_9 ?_
    refine sm_iconst (x := 3) hG 11 rfl dL_drawn_10 rfl ?_
    refine sm_iadd hG 12 rfl dL_drawn_11 ?_
    refine sm_goto hG 39 dL_drawn_12 (by decide) ?_
    exact sm_iret hG hT (by decide) dL_drawn_39 rfl
  · have hne : ¬ nI P.2.2.2.2.2.2.1 = 0 := fun q => h0 ((qi_n0 _ (by omega)).mp q)
    refine ⟨((P.2.2.2.2.2.2.2 (ix (nI t - nI t / nI P.2.2.2.2.2.2.1 * nI P.2.2.2.2.2.2.1)) >>> ((nI t - nI t / 7 * 7) &&& 31)) ^^^ (nI t / nI P.2.2.2.2.2.2.1 * 31)) ^^^ (nI t * 2654435), ?_⟩
    refine ct_of (cc := cL_drawn) (maxL := 2) (ret := some .int) (ex := some ()) (r := ()) (fun _ => (some (Value.int (((P.2.2.2.2.2.2.2 (ix (nI t - nI t / nI P.2.2.2.2.2.2.1 * nI P.2.2.2.2.2.2.1)) >>> ((nI t - nI t / 7 * 7) &&& 31)) ^^^ (nI t / nI P.2.2.2.2.2.2.1 * 31)) ^^^ (nI t * 2654435))), m)) (lS_ok hP) rfl (by decide) rfl (Nat.le_of_ble_eq_true rfl) (fun Γ hG hT hN hl => ?_)
    refine sm_aload_n hG 1 rfl dL_drawn_0 rfl 0 rfl ?_
    refine sl_slen hG 2 rfl dL_drawn_1 ?_
    refine sl_ne hG 15 5 rfl dL_drawn_2 (by decide) (fun _ => ?_) (fun h => absurd h hne)
    refine sm_aload_n hG 16 rfl dL_drawn_15 rfl 0 rfl ?_
    refine sm_iload_n hG 17 rfl dL_drawn_16 rfl 1 rfl ?_
    refine sm_aload_n hG 18 rfl dL_drawn_17 rfl 0 rfl ?_
    refine sl_slen hG 19 rfl dL_drawn_18 ?_
    refine sm_irem hG 20 rfl dL_drawn_19 hne ?_
    refine sl_sld hG 21 rfl (by
      rw [rem_n (by omega) (by omega) (by omega)]
      exact inb_in (qi_inb (Nat.mod_lt _ (by omega)) (by omega))) dL_drawn_20 ?_
    refine sm_iload_n hG 22 rfl dL_drawn_21 rfl 1 rfl ?_
    refine sm_bipush (x := 7) hG 24 rfl dL_drawn_22 rfl ?_
    refine sm_irem hG 25 rfl dL_drawn_24 (by decide) ?_
    refine sm_ishr hG 26 rfl dL_drawn_25 ?_
    refine sm_iload_n hG 27 rfl dL_drawn_26 rfl 1 rfl ?_
    refine sm_aload_n hG 28 rfl dL_drawn_27 rfl 0 rfl ?_
    refine sl_slen hG 29 rfl dL_drawn_28 ?_
    refine sm_idiv hG 30 rfl dL_drawn_29 hne ?_
    refine sm_bipush (x := 31) hG 32 rfl dL_drawn_30 rfl ?_
    refine sm_imul hG 33 rfl dL_drawn_32 ?_
    refine sl_ixor hG 34 rfl dL_drawn_33 ?_
    refine sm_iload_n hG 35 rfl dL_drawn_34 rfl 1 rfl ?_
    refine sm_ldc (x := 2654435) hG 37 rfl dL_drawn_35 (by decide +kernel) ?_
    refine sm_imul hG 38 rfl dL_drawn_37 ?_
    refine sl_ixor hG 39 rfl dL_drawn_38 ?_
    exact sm_iret hG hT (by decide) dL_drawn_39 rfl
/-! WHAT THE LAW KNOWS -/
theorem Rl_u {v1 v2 : mC} {a : Nat → Int32} {D n m f D' n' m' f' : Nat} {dd dd' : Nat → Nat} (R1 : Rl v1 0 a D n m f dd) (R2 : Rl v2 0 a D' n' m' f' dd') : Rl v2 0 a D n m f dd := by
  obtain ⟨p1, p2, p3, p4⟩ := R1.1
  obtain ⟨q1, q2, q3, q4⟩ := R2.1
  have eD : D' = D := (qi_neq (by omega) (by omega)).mp (R2.2.1.2.1.symm.trans R1.2.1.2.1)
  have en : n' = n := (qi_neq (by omega) (by omega)).mp (R2.2.1.2.2.2.1.symm.trans R1.2.1.2.2.2.1)
  have em : m' = m := (qi_neq (by omega) (by omega)).mp (R2.2.1.2.2.2.2.2.1.symm.trans R1.2.1.2.2.2.2.2.1)
  have ef : f' = f := (qi_neq (by omega) (by omega)).mp (R2.2.1.2.2.2.2.2.2.2.symm.trans R1.2.1.2.2.2.2.2.2.2)
  subst eD en em ef
  have ed : ∀ j, j < f' → dd' j = dd j := fun j hj => by
    obtain ⟨⟨-, x2, x3, -⟩, -⟩ := R1.2.2.2.2.1 j hj
    obtain ⟨⟨-, y2, y3, -⟩, -⟩ := R2.2.2.2.2.1 j hj
    exact (qi_neq (by omega) (by omega)).mp (y3.symm.trans x3)
  refine ⟨R2.1, R2.2.1, R2.2.2.1, R2.2.2.2.1, fun j hj => ?_, R1.2.2.2.2.2.1, R2.2.2.2.2.2.2.1, R2.2.2.2.2.2.2.2⟩
  have h := R2.2.2.2.2.1 j hj
  unfold RF at h ⊢
  rw [ed j hj] at h
  exact h
/-- the number that the law sees of such a book -/
def SNr (A : Nat → Int32) (h : Int64) : Prop := ∃ v w, IV v w ∧ (∀ i, i < 1483 → w 1 i = A i) ∧ ∃ u, f_L_seen v = some (h, u)
theorem SNr_x {A B : Nat → Int32} {h : Int64} (e : ∀ i, i < 1483 → A i = B i) (hs : SNr A h) : SNr B h := by
  obtain ⟨v, w, h1, h2, h3⟩ := hs
  exact ⟨v, w, h1, fun i hi => (h2 i hi).trans (e i hi), h3⟩
theorem sn_get {A : Nat → Int32} {h : Int64} {v : mC} {w : mM} (hs : SNr A h) (hI : IV v w) (hA : ∀ i, i < 1483 → w 1 i = A i) : ∃ u, f_L_seen v = some (h, u) ∧ CL v u := by
  obtain ⟨v1, w1, hI1, h1, u1, e1⟩ := hs
  obtain ⟨D, n, m, f, dd, R1⟩ := hI1.1
  obtain ⟨D', n', m', f', dd', R2⟩ := hI.1
  have Q1 : Rl v1 0 A D n m f dd := Rl_x (Ag_eq fun _ _ _ _ _ => rfl) (fun i hi => (h1 i hi).symm) R1
  have Q2 : Rl v 0 A D' n' m' f' dd' := Rl_x (Ag_eq fun _ _ _ _ _ => rfl) (fun i hi => (hA i hi).symm) R2
  obtain ⟨x, t1, t2, g1, g2, -, c2⟩ := seen2 (w := fun _ => A) Q1 (Rl_u Q1 Q2)
  rw [e1] at g1
  cases g1
  exact ⟨t2, g2, CL_CF c2⟩
theorem sn_new {v : mC} {w : mM} (hI : IV v w) : ∃ h u, f_L_seen v = some (h, u) ∧ CL v u ∧ SNr (w 1) h := by
  obtain ⟨x, u, e, c⟩ := seen_one hI.1
  exact ⟨x, u, e, CL_CF c, v, w, hI, fun _ _ => rfl, u, e⟩
theorem rec_of {v : mC} {w : mM} (hI : IV v w) : f_X6_recordedStates v = some (w 0 2) := by
  obtain ⟨-, ⟨k, bk, a1, a2, a3, -⟩, -⟩ := hI
  show some (v (0, 0, 0) 5) = _
  rw [a2, a3]
theorem len_of {v : mC} {w : mM} (hI : IV v w) (h : w 0 11 = 0) : v (32, 0, 0) 1 = 0 := by
  obtain ⟨-, -, -, len, l1, l2, l3, -⟩ := hI
  rw [l2, ← l3, h]
/-- before each turn -/
def LI (v : mC) (w : mM) (o : Nat → Int32) (n : Nat) (h : Int64) : Prop := IV v w ∧ w 0 2 = nI 4 ∧ w 0 4 = 1 ∧ w 0 11 = 0 ∧ w 3 0 = 0 ∧ SNr (w 3) h ∧ ∀ d, 1 ≤ d → d ≤ 4 → d ≤ n → SNr (fun t => w 2 (1483 * (4 - d) + t)) (dec o (n - d))
theorem LI_same {v u : mC} {w : mM} {o : Nat → Int32} {n : Nat} {h x : Int64} (hI : LI v w o n h) (c : CL v u) : LI u w (oL o n x) n h := by
  obtain ⟨h1, h2, h3, h4, h5, h6, h7⟩ := hI
  refine ⟨IV_CL h1 c, h2, h3, h4, h5, h6, fun d a b e => ?_⟩
  rw [oL_at, if_neg (by omega)]
  exact h7 d a b e
theorem LI_next {v u : mC} {w w' : mM} {o : Nat → Int32} {n : Nat} {h x : Int64} (hI : LI v w o n h) (hx : SNr (w 1) x) (h1 : IV u w') (k : KP w w') : LI u w' (oL o n x) (n + 1) h := by
  obtain ⟨-, h2, h3, h4, h5, h6, h7⟩ := hI
  obtain ⟨k1, -, k3, k4, k5⟩ := k
  obtain ⟨g1, g2, g3⟩ := k1 h2
  refine ⟨h1, g1, k4.trans h3, k5.trans h4, by rw [k3]; exact h5, by rw [k3]; exact h6, fun d a b e => ?_⟩
  rw [oL_at]
  by_cases hd : d = 1
  · subst hd
    rw [if_pos (by omega)]
    exact SNr_x (fun i hi => (g3 i hi).symm) hx
  · rw [if_neg (by omega), show n + 1 - d = n - (d - 1) by omega]
    refine SNr_x (fun i hi => ?_) (h7 (d - 1) (by omega) (by omega) (by omega))
    show w 2 _ = w' 2 _
    rw [g2 _ (by omega)]
    congr 1
    omega
/-- the law's locals -/
abbrev lsA (P : pS) (n : Nat) (h : Int64) (t : Nat) : List (Nat × Value) := [(0, .ref P.2.2.2.2.2.1), (1, .ref (P.2.2.1 (0, 0, 0))), (2, .ref P.2.2.2.1), (3, .int (nI n)), (4, .long h), (6, .int (nI t))]
set_option maxRecDepth 100000 in
set_option maxHeartbeats 4000000 in
theorem law_end {P : pS} (hP : Ap P) {Γ : jG Unit} (hG : jOk Γ (lS P) cL_law RL wsL_law room_1) (hN : Γ.2.1 = 14) {cs : Nat × Nat} (hcs : cs.1 ≤ 600074 ∧ cs.2 ≤ 7301550) {n t : Nat} (ht : t < 26) (hn : n ≤ t) {v v' : mC} {w : mM} {o : Nat → Int32} {h h0 : Int64} {a b q x d : Int32} (hI : LI v w o n h) (hx : SNr (w 1) h0) (hd : (d < -1999 ∧ v' = v) ∨ (¬ d < -1999 ∧ ∃ w', IV v' w' ∧ KP w w'))
    (k : ∀ v' w' o' n', n' ≤ n + 1 → LI v' w' o' n' h → Sm Γ (lS P) cs 441 (lsA P n' h t) [] (m2 v' o') (some ())) : Sm Γ (lS P) cs 384 [(11, .int b), (10, .int a), (9, .int (nI 4)), (8, .int q), (7, .int x), (0, .ref P.2.2.2.2.2.1), (1, .ref (P.2.2.1 (0, 0, 0))), (2, .ref P.2.2.2.1), (3, .int (nI n)), (4, .long h), (6, .int (nI t))] [.int d] (m2 v' (oL o n h0)) (some ()) := by
  have hn64 : n < 64 := by omega
  refine sm_istore hG 386 rfl dL_law_384 (jlt hN rfl) [(12, .int d), (11, .int b), (10, .int a), (9, .int (nI 4)), (8, .int q), (7, .int x), (0, .ref P.2.2.2.2.2.1), (1, .ref (P.2.2.1 (0, 0, 0))), (2, .ref P.2.2.2.1), (3, .int (nI n)), (4, .long h), (6, .int (nI t))] rfl ?_
  refine sm_iload hG 388 rfl dL_law_386 0 rfl ?_
  refine sm_sipush (x := (-1999)) hG 391 rfl dL_law_388 rfl ?_
  refine sl_ige hG 398 394 rfl dL_law_391 (by decide) (fun hge => ?_) (fun hlt => ?_)
  · obtain ⟨h1, w', h2, h3⟩ : ¬ d < -1999 ∧ ∃ w', IV v' w' ∧ KP w w' := hd.elim (fun z => absurd hge (by have := z.1; rw [qi_lt] at this; rw [qi_le]; omega)) id
    refine sm_iconst (x := 0) hG 399 rfl dL_law_398 rfl ?_
    refine sm_istore hG 401 rfl dL_law_399 (jlt hN rfl) [(13, .int 0), (12, .int d), (11, .int b), (10, .int a), (9, .int (nI 4)), (8, .int q), (7, .int x), (0, .ref P.2.2.2.2.2.1), (1, .ref (P.2.2.1 (0, 0, 0))), (2, .ref P.2.2.2.1), (3, .int (nI n)), (4, .long h), (6, .int (nI t))] rfl ?_
    refine sm_iload hG 403 rfl dL_law_401 0 rfl ?_
    refine sl_eq hG 428 406 rfl dL_law_403 (by decide) (fun _ => ?_) (fun z => absurd rfl z)
    refine sm_iload_n hG 429 rfl dL_law_428 rfl 10 rfl ?_
    refine sm_iload hG 431 rfl dL_law_429 0 rfl ?_
    refine sl_eq hG 438 434 rfl dL_law_431 (by decide) (fun _ => ?_) (fun z => absurd rfl z)
    refine sm_iconst (x := 1) hG 439 rfl dL_law_438 rfl ?_
    refine sm_iadd hG 440 rfl dL_law_439 ?_
    rw [show nI n + 1 = nI (n + 1) from qi_add n 1]
    refine sm_istore_n hG 441 rfl dL_law_440 rfl (jlt hN rfl) [(3, .int (nI (n + 1))), (13, .int 0), (12, .int d), (11, .int b), (10, .int a), (9, .int (nI 4)), (8, .int q), (7, .int x), (0, .ref P.2.2.2.2.2.1), (1, .ref (P.2.2.1 (0, 0, 0))), (2, .ref P.2.2.2.1), (4, .long h), (6, .int (nI t))] rfl ?_
    refine sm_loc [8, 9, 10, 0, 11, 12] (lsA P (n + 1) h t) rfl ?_
    exact k v' w' (oL o n h0) (n + 1) (Nat.le_refl _) (LI_next hI hx h2 h3)
  · have e : v' = v := hd.elim (fun z => z.2) (fun z => absurd (by rw [qi_lt]; rw [qi_le] at hlt; omega) z.1)
    subst e
    refine sm_iconst (x := 1) hG 395 rfl dL_law_394 rfl ?_
    refine sm_goto hG 399 dL_law_395 (by decide) ?_
    refine sm_istore hG 401 rfl dL_law_399 (jlt hN rfl) [(13, .int 1), (12, .int d), (11, .int b), (10, .int a), (9, .int (nI 4)), (8, .int q), (7, .int x), (0, .ref P.2.2.2.2.2.1), (1, .ref (P.2.2.1 (0, 0, 0))), (2, .ref P.2.2.2.1), (3, .int (nI n)), (4, .long h), (6, .int (nI t))] rfl ?_
    refine sm_iload hG 403 rfl dL_law_401 0 rfl ?_
    refine sl_eq hG 428 406 rfl dL_law_403 (by decide) (fun z => absurd z (by decide)) (fun _ => ?_)
    refine sm_aload_n hG 407 rfl dL_law_406 rfl 8 rfl ?_
    refine sl_callV hG (.inl (0, 0, 0)) [] 410 rfl okS_0 ceS_0 (ci := 6) rfl (lift_C hP (c_X6_recordedStates (lC_ok hP) ((rec_of hI.1).trans (congrArg some hI.2.1)))) gL_law_X6_recordedStates rfl (by decide) (by decide) (n := 0) rfl (Nat.le_of_ble_eq_true rfl) ⟨rfl, rfl⟩ hcs rfl dL_law_407 ?_
    refine sm_iload hG 412 rfl dL_law_410 4 rfl ?_
    refine sl_ine hG 426 415 rfl dL_law_412 (by decide) (fun z => absurd rfl z) (fun _ => ?_)
    obtain ⟨u, e1, c1⟩ := sn_get hx hI.1 (fun _ _ => rfl)
    refine sm_aload_n hG 416 rfl dL_law_415 rfl 8 rfl ?_
    refine sl_callS hG [.ref (P.2.2.1 (0, 0, 0))] 419 rfl (lift_C hP (c_L_seen (lC_ok hP) e1)) gL_law_L_seen rfl (by decide) (by decide) (n := 1) rfl (Nat.le_of_ble_eq_true rfl) (cs.1, cs.2) ⟨rfl, rfl⟩ hcs rfl dL_law_416 ?_
    refine sm_aload_n hG 420 rfl dL_law_419 rfl 9 rfl ?_
    refine sm_iload_n hG 421 rfl dL_law_420 rfl 10 rfl ?_
    refine sl_in hG hn64 422 rfl dL_law_421 ?_
    rw [show dec (oL o n h0) n = h0 from (oL_at o n h0 n).trans (if_pos rfl)]
    refine sl_lcm hG 423 rfl dL_law_422 ?_
    rw [show lcm h0 h0 = 0 from if_pos rfl]
    refine sl_eq hG 428 426 rfl dL_law_423 (by decide) (fun _ => ?_) (fun z => absurd rfl z)
    refine sm_iload_n hG 429 rfl dL_law_428 rfl 10 rfl ?_
    refine sm_iload hG 431 rfl dL_law_429 0 rfl ?_
    refine sl_eq hG 438 434 rfl dL_law_431 (by decide) (fun z => absurd z (by decide)) (fun _ => ?_)
    refine sm_iconst (x := 0) hG 435 rfl dL_law_434 rfl ?_
    refine sm_goto hG 439 dL_law_435 (by decide) ?_
    refine sm_iadd hG 440 rfl dL_law_439 ?_
    rw [show nI n + 0 = nI n from qi_add n 0]
    refine sm_istore_n hG 441 rfl dL_law_440 rfl (jlt hN rfl) [(3, .int (nI n)), (13, .int 1), (12, .int d), (11, .int b), (10, .int a), (9, .int (nI 4)), (8, .int q), (7, .int x), (0, .ref P.2.2.2.2.2.1), (1, .ref (P.2.2.1 (0, 0, 0))), (2, .ref P.2.2.2.1), (4, .long h), (6, .int (nI t))] rfl ?_
    refine sm_loc [8, 9, 10, 0, 11, 12] (lsA P n h t) rfl ?_
    exact k u w (oL o n h0) n (Nat.le_succ n) (LI_same hI c1)
set_option maxRecDepth 100000 in
set_option maxHeartbeats 8000000 in
theorem law_turn {P : pS} (hP : Ap P) {Γ : jG Unit} (hG : jOk Γ (lS P) cL_law RL wsL_law room_1) (hN : Γ.2.1 = 14) (hfl : Γ.1.2.1.stackTraces = false) {cs : Nat × Nat} (hcs0 : cs.1 + 4 ≤ 600074 ∧ cs.2 + 24 ≤ 7301550) {n t : Nat} (ht : t < 26) (hn : n ≤ t) (hL : P.2.2.2.2.2.2.1 ≤ 260) {v : mC} {w : mM} {o : Nat → Int32} {h : Int64} (hI : LI v w o n h)
    (k : ∀ v' w' o' n', n' ≤ n + 1 → LI v' w' o' n' h → Sm Γ (lS P) (cs.1 + 4, cs.2 + 24) 441 (lsA P n' h t) [] (m2 v' o') (some ())) : Sm Γ (lS P) cs 114 (lsA P n h t) [] (m2 v o) (some ()) := by
  have hcs : cs.1 ≤ 600074 ∧ cs.2 ≤ 7301550 := ⟨by omega, by omega⟩
  have hn64 : n < 64 := by omega
  obtain ⟨x, hx⟩ := c_L_drawn (l := Γ.1.2.1) (m := m2 v o) hP ht hL
  obtain ⟨h0, u, e0, c0, hs⟩ := sn_new hI.1
  refine sm_aload_n hG 115 rfl dL_law_114 rfl 0 rfl ?_
  refine sm_iload hG 117 rfl dL_law_115 5 rfl ?_
  refine sl_callS hG [.ref P.2.2.2.2.2.1, .int (nI t)] 120 rfl hx gL_law_L_drawn rfl (by decide) (by decide) (n := 2) rfl (Nat.le_of_ble_eq_true rfl) (cs.1, cs.2) ⟨rfl, rfl⟩ hcs rfl dL_law_117 ?_
  refine sm_istore hG 122 rfl dL_law_120 (jlt hN rfl) [(7, .int x), (0, .ref P.2.2.2.2.2.1), (1, .ref (P.2.2.1 (0, 0, 0))), (2, .ref P.2.2.2.1), (3, .int (nI n)), (4, .long h), (6, .int (nI t))] rfl ?_
  refine sm_iload hG 124 rfl dL_law_122 0 rfl ?_
  refine sm_bipush (x := 22) hG 126 rfl dL_law_124 rfl ?_
  refine sl_callS hG [.int x, .int 22] 129 rfl (c_L_part (lS_ok hP) (by decide)) gL_law_L_part rfl (by decide) (by decide) (n := 2) rfl (Nat.le_of_ble_eq_true rfl) (cs.1, cs.2) ⟨rfl, rfl⟩ hcs rfl dL_law_126 ?_
  generalize (partF x 22) = q
  refine sm_istore hG 131 rfl dL_law_129 (jlt hN rfl) [(8, .int q), (7, .int x), (0, .ref P.2.2.2.2.2.1), (1, .ref (P.2.2.1 (0, 0, 0))), (2, .ref P.2.2.2.1), (3, .int (nI n)), (4, .long h), (6, .int (nI t))] rfl ?_
  refine sm_aload_n hG 132 rfl dL_law_131 rfl 4 rfl ?_
  refine sm_iload_n hG 133 rfl dL_law_132 rfl 5 rfl ?_
  refine sm_aload_n hG 134 rfl dL_law_133 rfl 3 rfl ?_
  refine sl_callS hG [.ref (P.2.2.1 (0, 0, 0))] 137 rfl (lift_C hP (c_L_seen (lC_ok hP) e0)) gL_law_L_seen rfl (by decide) (by decide) (n := 1) rfl (Nat.le_of_ble_eq_true rfl) (cs.1, cs.2) ⟨rfl, rfl⟩ hcs rfl dL_law_134 ?_
  refine sl_out hG hn64 138 rfl dL_law_137 ?_
  have hI1 : IV u w := IV_CL hI.1 c0
  refine sm_aload_n hG 139 rfl dL_law_138 rfl 3 rfl ?_
  refine sl_callV hG (.inl (0, 0, 0)) [] 142 rfl okS_0 ceS_0 (ci := 6) rfl (lift_C hP (c_X6_recordedStates (lC_ok hP) ((rec_of hI1).trans (congrArg some hI.2.1)))) gL_law_X6_recordedStates rfl (by decide) (by decide) (n := 0) rfl (Nat.le_of_ble_eq_true rfl) ⟨rfl, rfl⟩ hcs rfl dL_law_139 ?_
  refine sm_istore hG 144 rfl dL_law_142 (jlt hN rfl) [(9, .int (nI 4)), (8, .int q), (7, .int x), (0, .ref P.2.2.2.2.2.1), (1, .ref (P.2.2.1 (0, 0, 0))), (2, .ref P.2.2.2.1), (3, .int (nI n)), (4, .long h), (6, .int (nI t))] rfl ?_
  refine sm_iload hG 146 rfl dL_law_144 2 rfl ?_
  refine sm_iconst (x := 5) hG 147 rfl dL_law_146 rfl ?_
  refine sm_ishr hG 148 rfl dL_law_147 ?_
  refine sm_iconst (x := 5) hG 149 rfl dL_law_148 rfl ?_
  refine sl_callS hG [.int (x >>> (5 &&& 31)), .int 5] 152 rfl (c_L_part (lS_ok hP) (by decide)) gL_law_L_part rfl (by decide) (by decide) (n := 2) rfl (Nat.le_of_ble_eq_true rfl) (cs.1, cs.2) ⟨rfl, rfl⟩ hcs rfl dL_law_149 ?_
  generalize (partF (x >>> (5 &&& 31)) 5) = a
  refine sm_istore hG 154 rfl dL_law_152 (jlt hN rfl) [(10, .int a), (9, .int (nI 4)), (8, .int q), (7, .int x), (0, .ref P.2.2.2.2.2.1), (1, .ref (P.2.2.1 (0, 0, 0))), (2, .ref P.2.2.2.1), (3, .int (nI n)), (4, .long h), (6, .int (nI t))] rfl ?_
  refine sm_iload hG 156 rfl dL_law_154 3 rfl ?_
  refine sm_bipush (x := 8) hG 158 rfl dL_law_156 rfl ?_
  refine sm_ishr hG 159 rfl dL_law_158 ?_
  refine sm_bipush (x := 12) hG 161 rfl dL_law_159 rfl ?_
  refine sl_callS hG [.int (x >>> (8 &&& 31)), .int 12] 164 rfl (c_L_part (lS_ok hP) (by decide)) gL_law_L_part rfl (by decide) (by decide) (n := 2) rfl (Nat.le_of_ble_eq_true rfl) (cs.1, cs.2) ⟨rfl, rfl⟩ hcs rfl dL_law_161 ?_
  generalize (partF (x >>> (8 &&& 31)) 12) = b
  refine sm_istore hG 166 rfl dL_law_164 (jlt hN rfl) [(11, .int b), (10, .int a), (9, .int (nI 4)), (8, .int q), (7, .int x), (0, .ref P.2.2.2.2.2.1), (1, .ref (P.2.2.1 (0, 0, 0))), (2, .ref P.2.2.2.1), (3, .int (nI n)), (4, .long h), (6, .int (nI t))] rfl ?_
  have hI2 : LI u w o n h := ⟨hI1, hI.2⟩
  have fin : ∀ (d : Int32) (v' : mC), ((d < -1999 ∧ v' = u) ∨ (¬ d < -1999 ∧ ∃ w', IV v' w' ∧ KP w w')) → Sm Γ (lS P) (cs.1 + 4, cs.2 + 24) 384 [(11, .int b), (10, .int a), (9, .int (nI 4)), (8, .int q), (7, .int x), (0, .ref P.2.2.2.2.2.1), (1, .ref (P.2.2.1 (0, 0, 0))), (2, .ref P.2.2.2.1), (3, .int (nI n)), (4, .long h), (6, .int (nI t))] [.int d] (m2 v' (oL o n h0)) (some ()) := fun d v' hd => law_end hP hG hN hcs0 ht hn hI2 hs hd k
  refine sm_iload hG 168 rfl dL_law_166 3 rfl ?_
  refine sm_iconst (x := 3) hG 169 rfl dL_law_168 rfl ?_
  refine sl_ige hG 201 172 rfl dL_law_169 (by decide) (fun _ => ?_) (fun _ => ?_)
  rotate_left
  · refine sm_aload_n hG 173 rfl dL_law_172 rfl 6 rfl ?_
    refine sm_iconst (x := 0) hG 174 rfl dL_law_173 rfl ?_
    refine sm_bipush (x := 6) hG 176 rfl dL_law_174 rfl ?_
    refine sm_iload hG 178 rfl dL_law_176 0 rfl ?_
    refine sm_iadd hG 179 rfl dL_law_178 ?_
    refine sm_sipush (x := 140) hG 182 rfl dL_law_179 rfl ?_
    refine sm_iload hG 184 rfl dL_law_182 1 rfl ?_
    refine sm_iadd hG 185 rfl dL_law_184 ?_
    refine sm_iconst (x := 5) hG 186 rfl dL_law_185 rfl ?_
    refine sm_sipush (x := 128) hG 189 rfl dL_law_186 rfl ?_
    refine sm_iconst (x := 4) hG 190 rfl dL_law_189 rfl ?_
    refine sm_iload hG 192 rfl dL_law_190 0 rfl ?_
    refine sm_iadd hG 193 rfl dL_law_192 ?_
    refine sm_imul hG 194 rfl dL_law_193 ?_
    refine sm_iadd hG 195 rfl dL_law_194 ?_
    obtain ⟨d, v', e, hd⟩ := ac_0 hI1 (6 + b) (140 + a) (5 + (128 * (4 + b)))
    refine sl_callW hG [.ref (P.2.2.1 (0, 0, 0)), .int 0, .int (6 + b), .int (140 + a), .int (5 + (128 * (4 + b)))] 198 rfl (lift_W hP (c_L_call (lC_ok hP) hfl lC_nc e)) gL_law_L_call rfl (by decide) (by decide) (n := 5) rfl (Nat.le_of_ble_eq_true rfl) (cs.1 + 4, cs.2 + 24) ⟨rfl, rfl⟩ hcs0 rfl dL_law_195 ?_
    refine sm_goto hG 384 dL_law_198 (by decide) ?_
    exact fin d v' hd
  refine sm_iload hG 203 rfl dL_law_201 3 rfl ?_
  refine sm_iconst (x := 3) hG 204 rfl dL_law_203 rfl ?_
  refine sl_ine hG 219 207 rfl dL_law_204 (by decide) (fun _ => ?_) (fun _ => ?_)
  rotate_left
  · refine sm_aload_n hG 208 rfl dL_law_207 rfl 6 rfl ?_
    refine sm_iconst (x := 1) hG 209 rfl dL_law_208 rfl ?_
    refine sm_iload hG 211 rfl dL_law_209 1 rfl ?_
    refine sm_iconst (x := 0) hG 212 rfl dL_law_211 rfl ?_
    refine sm_iconst (x := 0) hG 213 rfl dL_law_212 rfl ?_
    obtain ⟨d, v', e, hd⟩ := ac_1 hI1 a 0 0
    refine sl_callW hG [.ref (P.2.2.1 (0, 0, 0)), .int 1, .int a, .int 0, .int 0] 216 rfl (lift_W hP (c_L_call (lC_ok hP) hfl lC_nc e)) gL_law_L_call rfl (by decide) (by decide) (n := 5) rfl (Nat.le_of_ble_eq_true rfl) (cs.1 + 4, cs.2 + 24) ⟨rfl, rfl⟩ hcs0 rfl dL_law_213 ?_
    refine sm_goto hG 384 dL_law_216 (by decide) ?_
    exact fin d v' hd
  refine sm_iload hG 221 rfl dL_law_219 3 rfl ?_
  refine sm_bipush (x := 6) hG 223 rfl dL_law_221 rfl ?_
  refine sl_ige hG 249 226 rfl dL_law_223 (by decide) (fun _ => ?_) (fun _ => ?_)
  rotate_left
  · refine sm_aload_n hG 227 rfl dL_law_226 rfl 6 rfl ?_
    refine sm_iconst (x := 2) hG 228 rfl dL_law_227 rfl ?_
    refine sm_iload hG 230 rfl dL_law_228 1 rfl ?_
    refine sm_iload hG 232 rfl dL_law_230 0 rfl ?_
    refine sm_iconst (x := 3) hG 233 rfl dL_law_232 rfl ?_
    refine sm_bipush (x := 64) hG 235 rfl dL_law_233 rfl ?_
    refine sm_iload hG 237 rfl dL_law_235 0 rfl ?_
    refine sm_imul hG 238 rfl dL_law_237 ?_
    refine sm_iadd hG 239 rfl dL_law_238 ?_
    refine sl_ldcw (x := 36864) hG 242 rfl dL_law_239 (by decide +kernel) ?_
    refine sm_iadd hG 243 rfl dL_law_242 ?_
    obtain ⟨d, v', e, hd⟩ := ac_2 hI1 a b ((3 + (64 * b)) + 36864)
    refine sl_callW hG [.ref (P.2.2.1 (0, 0, 0)), .int 2, .int a, .int b, .int ((3 + (64 * b)) + 36864)] 246 rfl (lift_W hP (c_L_call (lC_ok hP) hfl lC_nc e)) gL_law_L_call rfl (by decide) (by decide) (n := 5) rfl (Nat.le_of_ble_eq_true rfl) (cs.1 + 4, cs.2 + 24) ⟨rfl, rfl⟩ hcs0 rfl dL_law_243 ?_
    refine sm_goto hG 384 dL_law_246 (by decide) ?_
    exact fin d v' hd
  refine sm_iload hG 251 rfl dL_law_249 3 rfl ?_
  refine sm_bipush (x := 8) hG 253 rfl dL_law_251 rfl ?_
  refine sl_ige hG 271 256 rfl dL_law_253 (by decide) (fun _ => ?_) (fun _ => ?_)
  rotate_left
  · refine sm_aload_n hG 257 rfl dL_law_256 rfl 6 rfl ?_
    refine sm_iconst (x := 3) hG 258 rfl dL_law_257 rfl ?_
    refine sm_iload hG 260 rfl dL_law_258 1 rfl ?_
    refine sm_iload hG 262 rfl dL_law_260 0 rfl ?_
    refine sm_iconst (x := 2) hG 263 rfl dL_law_262 rfl ?_
    refine sm_idiv hG 264 rfl dL_law_263 (by decide) ?_
    refine sm_iconst (x := 5) hG 265 rfl dL_law_264 rfl ?_
    obtain ⟨d, v', e, hd⟩ := ac_3 hI1 a (b / 2) 5
    refine sl_callW hG [.ref (P.2.2.1 (0, 0, 0)), .int 3, .int a, .int (b / 2), .int 5] 268 rfl (lift_W hP (c_L_call (lC_ok hP) hfl lC_nc e)) gL_law_L_call rfl (by decide) (by decide) (n := 5) rfl (Nat.le_of_ble_eq_true rfl) (cs.1 + 4, cs.2 + 24) ⟨rfl, rfl⟩ hcs0 rfl dL_law_265 ?_
    refine sm_goto hG 384 dL_law_268 (by decide) ?_
    exact fin d v' hd
  refine sm_iload hG 273 rfl dL_law_271 3 rfl ?_
  refine sm_bipush (x := 10) hG 275 rfl dL_law_273 rfl ?_
  refine sl_ige hG 298 278 rfl dL_law_275 (by decide) (fun _ => ?_) (fun _ => ?_)
  rotate_left
  · refine sm_aload_n hG 279 rfl dL_law_278 rfl 6 rfl ?_
    refine sm_iconst (x := 4) hG 280 rfl dL_law_279 rfl ?_
    refine sm_iload hG 282 rfl dL_law_280 1 rfl ?_
    refine sm_bipush (x := 20) hG 284 rfl dL_law_282 rfl ?_
    refine sm_iload hG 286 rfl dL_law_284 0 rfl ?_
    refine sm_iadd hG 287 rfl dL_law_286 ?_
    refine sm_bipush (x := 25) hG 289 rfl dL_law_287 rfl ?_
    refine sm_iload hG 291 rfl dL_law_289 1 rfl ?_
    refine sm_iadd hG 292 rfl dL_law_291 ?_
    obtain ⟨d, v', e, hd⟩ := ac_4 hI1 a (20 + b) (25 + a)
    refine sl_callW hG [.ref (P.2.2.1 (0, 0, 0)), .int 4, .int a, .int (20 + b), .int (25 + a)] 295 rfl (lift_W hP (c_L_call (lC_ok hP) hfl lC_nc e)) gL_law_L_call rfl (by decide) (by decide) (n := 5) rfl (Nat.le_of_ble_eq_true rfl) (cs.1 + 4, cs.2 + 24) ⟨rfl, rfl⟩ hcs0 rfl dL_law_292 ?_
    refine sm_goto hG 384 dL_law_295 (by decide) ?_
    exact fin d v' hd
  refine sm_iload hG 300 rfl dL_law_298 3 rfl ?_
  refine sm_bipush (x := 12) hG 302 rfl dL_law_300 rfl ?_
  refine sl_ige hG 322 305 rfl dL_law_302 (by decide) (fun _ => ?_) (fun _ => ?_)
  rotate_left
  · refine sm_aload_n hG 306 rfl dL_law_305 rfl 6 rfl ?_
    refine sm_iconst (x := 5) hG 307 rfl dL_law_306 rfl ?_
    refine sm_bipush (x := 20) hG 309 rfl dL_law_307 rfl ?_
    refine sm_iconst (x := 4) hG 310 rfl dL_law_309 rfl ?_
    refine sm_iload hG 312 rfl dL_law_310 0 rfl ?_
    refine sm_imul hG 313 rfl dL_law_312 ?_
    refine sm_iadd hG 314 rfl dL_law_313 ?_
    refine sm_iconst (x := 1) hG 315 rfl dL_law_314 rfl ?_
    refine sm_iconst (x := 0) hG 316 rfl dL_law_315 rfl ?_
    obtain ⟨d, v', e, hd⟩ := ac_5 hI1 (20 + (4 * b)) 1 0
    refine sl_callW hG [.ref (P.2.2.1 (0, 0, 0)), .int 5, .int (20 + (4 * b)), .int 1, .int 0] 319 rfl (lift_W hP (c_L_call (lC_ok hP) hfl lC_nc e)) gL_law_L_call rfl (by decide) (by decide) (n := 5) rfl (Nat.le_of_ble_eq_true rfl) (cs.1 + 4, cs.2 + 24) ⟨rfl, rfl⟩ hcs0 rfl dL_law_316 ?_
    refine sm_goto hG 384 dL_law_319 (by decide) ?_
    exact fin d v' hd
  refine sm_iload hG 324 rfl dL_law_322 3 rfl ?_
  refine sm_bipush (x := 17) hG 326 rfl dL_law_324 rfl ?_
  refine sl_ige hG 355 329 rfl dL_law_326 (by decide) (fun _ => ?_) (fun _ => ?_)
  rotate_left
  · refine sm_aload_n hG 330 rfl dL_law_329 rfl 6 rfl ?_
    refine sm_bipush (x := 6) hG 332 rfl dL_law_330 rfl ?_
    refine sm_iload hG 334 rfl dL_law_332 1 rfl ?_
    refine sm_iload hG 336 rfl dL_law_334 0 rfl ?_
    refine sm_iconst (x := 3) hG 337 rfl dL_law_336 rfl ?_
    refine sm_idiv hG 338 rfl dL_law_337 (by decide) ?_
    refine sm_iconst (x := 2) hG 339 rfl dL_law_338 rfl ?_
    refine sm_bipush (x := 8) hG 341 rfl dL_law_339 rfl ?_
    refine sm_iload hG 343 rfl dL_law_341 0 rfl ?_
    refine sm_imul hG 344 rfl dL_law_343 ?_
    refine sm_iadd hG 345 rfl dL_law_344 ?_
    refine sm_sipush (x := 6144) hG 348 rfl dL_law_345 rfl ?_
    refine sm_iadd hG 349 rfl dL_law_348 ?_
    obtain ⟨d, v', e, hd⟩ := ac_6 hI1 a (b / 3) ((2 + (8 * b)) + 6144)
    refine sl_callW hG [.ref (P.2.2.1 (0, 0, 0)), .int 6, .int a, .int (b / 3), .int ((2 + (8 * b)) + 6144)] 352 rfl (lift_W hP (c_L_call (lC_ok hP) hfl lC_nc e)) gL_law_L_call rfl (by decide) (by decide) (n := 5) rfl (Nat.le_of_ble_eq_true rfl) (cs.1 + 4, cs.2 + 24) ⟨rfl, rfl⟩ hcs0 rfl dL_law_349 ?_
    refine sm_goto hG 384 dL_law_352 (by decide) ?_
    exact fin d v' hd
  refine sm_iload hG 357 rfl dL_law_355 3 rfl ?_
  refine sm_bipush (x := 20) hG 359 rfl dL_law_357 rfl ?_
  refine sl_ige hG 375 362 rfl dL_law_359 (by decide) (fun _ => ?_) (fun _ => ?_)
  rotate_left
  · refine sm_aload_n hG 363 rfl dL_law_362 rfl 6 rfl ?_
    refine sm_bipush (x := 7) hG 365 rfl dL_law_363 rfl ?_
    refine sm_iload hG 367 rfl dL_law_365 0 rfl ?_
    refine sm_iconst (x := 0) hG 368 rfl dL_law_367 rfl ?_
    refine sm_iconst (x := 0) hG 369 rfl dL_law_368 rfl ?_
    obtain ⟨d, v', e, hd⟩ := ac_7 hI1 b 0 0
    refine sl_callW hG [.ref (P.2.2.1 (0, 0, 0)), .int 7, .int b, .int 0, .int 0] 372 rfl (lift_W hP (c_L_call (lC_ok hP) hfl lC_nc e)) gL_law_L_call rfl (by decide) (by decide) (n := 5) rfl (Nat.le_of_ble_eq_true rfl) (cs.1 + 4, cs.2 + 24) ⟨rfl, rfl⟩ hcs0 rfl dL_law_369 ?_
    refine sm_goto hG 384 dL_law_372 (by decide) ?_
    exact fin d v' hd
  refine sm_aload_n hG 376 rfl dL_law_375 rfl 6 rfl ?_
  refine sm_bipush (x := 34) hG 378 rfl dL_law_376 rfl ?_
  refine sm_iconst (x := 0) hG 379 rfl dL_law_378 rfl ?_
  refine sm_iconst (x := 0) hG 380 rfl dL_law_379 rfl ?_
  refine sm_iconst (x := 0) hG 381 rfl dL_law_380 rfl ?_
  obtain ⟨d, v', e, hd⟩ := ac_34 hI1 hI.2.2.1 0 0 0
  refine sl_callW hG [.ref (P.2.2.1 (0, 0, 0)), .int 34, .int 0, .int 0, .int 0] 384 rfl (lift_W hP (c_L_call (lC_ok hP) hfl lC_nc e)) gL_law_L_call rfl (by decide) (by decide) (n := 5) rfl (Nat.le_of_ble_eq_true rfl) (cs.1 + 4, cs.2 + 24) ⟨rfl, rfl⟩ hcs0 rfl dL_law_381 ?_
  exact fin d v' hd
theorem law_turns {P : pS} (hP : Ap P) {Γ : jG Unit} (hG : jOk Γ (lS P) cL_law RL wsL_law room_1) (hN : Γ.2.1 = 14) (hfl : Γ.1.2.1.stackTraces = false) (hL : P.2.2.2.2.2.2.1 ≤ 260) {h : Int64} (hE : ∀ (cs : Nat × Nat) (n : Nat) (v : mC) (w : mM) (o : Nat → Int32), cs.1 ≤ 10000 → cs.2 ≤ 100000 → n ≤ 26 → LI v w o n h → Sm Γ (lS P) cs 447 (lsA P n h 26) [] (m2 v o) (some ())) : ∀ (r t : Nat) (cs : Nat × Nat) (n : Nat) (v : mC) (w : mM) (o : Nat → Int32), r + t = 26 → n ≤ t → cs.1 + 4 * r ≤ 10000 → cs.2 + 24 * r ≤ 100000 → LI v w o n h → Sm Γ (lS P) cs 107 (lsA P n h t) [] (m2 v o) (some ())
  | 0, t, cs, n, v, w, o, hr, hn, h1, h2, hI => by
    obtain rfl : t = 26 := by omega
    refine sm_iload hG 109 rfl dL_law_107 5 rfl ?_
    refine sm_bipush (x := 26) hG 111 rfl dL_law_109 rfl ?_
    refine sl_ige hG 447 114 rfl dL_law_111 (by decide) (fun _ => ?_) (fun z => absurd (show (26 : Int32) ≤ nI 26 by decide) z)
    exact hE cs n v w o (by omega) (by omega) hn hI
  | r + 1, t, cs, n, v, w, o, hr, hn, h1, h2, hI => by
    refine sm_iload hG 109 rfl dL_law_107 5 rfl ?_
    refine sm_bipush (x := 26) hG 111 rfl dL_law_109 rfl ?_
    refine sl_ige hG 447 114 rfl dL_law_111 (by decide) (fun z => absurd z (nI_ge (b := 26) (by omega) (by omega))) (fun _ => ?_)
    refine law_turn hP hG hN hfl ⟨by omega, by omega⟩ (by omega) hn hL hI (fun v' w' o' n' hn' hI' => ?_)
    refine sm_iinc hG (x := nI t) (y := nI (t + 1)) 444 rfl dL_law_441 (j := 5) rfl (qi_add t 1) (jlt hN rfl) [(6, .int (nI (t + 1))), (0, .ref P.2.2.2.2.2.1), (1, .ref (P.2.2.1 (0, 0, 0))), (2, .ref P.2.2.2.1), (3, .int (nI n')), (4, .long h)] rfl ?_
    refine sm_goto hG 107 dL_law_444 (by decide) ?_
    refine sm_loc [1, 2, 3, 4, 5, 0] (lsA P n' h (t + 1)) rfl ?_
    exact law_turns hP hG hN hfl hL hE r (t + 1) (cs.1 + 4, cs.2 + 24) n' v' w' o' (by omega) (by omega) (by show cs.1 + 4 + 4 * r ≤ _; omega) (by show cs.2 + 24 + 24 * r ≤ _; omega) hI'
/-- what stays to the end -/
def BI (w : mM) (h : Int64) : Prop := w 0 4 = 1 ∧ w 0 11 = 0 ∧ w 3 0 = 0 ∧ SNr (w 3) h
def UI (v : mC) (w : mM) (o : Nat → Int32) (n k : Nat) (h : Int64) : Prop := IV v w ∧ w 0 2 = nI (4 - k) ∧ BI w h ∧ SNr (w 1) (dec o (n - k)) ∧ ∀ d, k < d → d ≤ 4 → d ≤ n → SNr (fun t => w 2 (1483 * (4 - d) + t)) (dec o (n - d))
set_option maxRecDepth 100000 in
set_option maxHeartbeats 4000000 in
theorem law_last {P : pS} (hP : Ap P) {Γ : jG Unit} (hG : jOk Γ (lS P) cL_law RL wsL_law room_1) (hN : Γ.2.1 = 14) (hfl : Γ.1.2.1.stackTraces = false) {cs : Nat × Nat} (hcs0 : cs.1 + 4 ≤ 600074 ∧ cs.2 + 24 ≤ 7301550) {n t : Nat} {v : mC} {w : mM} {o : Nat → Int32} {h : Int64} (hI : IV v w) (h2 : w 0 2 = nI 0) (hB : BI w h)
    (hE : ∀ (ls : List (Nat × Value)) (v' : mS), Sm Γ (lS P) (cs.1 + 4, cs.2 + 24) 600 ls [.int 1] v' (some ())) : Sm Γ (lS P) cs 555 (lsA P n h t) [] (m2 v o) (some ()) := by
  obtain ⟨h4, h11, h30, hs⟩ := hB
  obtain ⟨D, v1, w1, -, e1, d1, i1, c1, k1⟩ := rs_ok hI h4
  have e1' : nn (f_X6_restoreSnapshot v) = some (0, v1) := by
    rw [e1, ← d1, h30]
    rfl
  obtain ⟨u, e2, c2⟩ := sn_get hs i1 c1
  have i2 : IV u w1 := IV_CL i1 c2
  refine sm_aload_n hG 556 rfl dL_law_555 rfl 1 rfl ?_
  refine sm_bipush (x := 33) hG 558 rfl dL_law_556 rfl ?_
  refine sm_iconst (x := 0) hG 559 rfl dL_law_558 rfl ?_
  refine sm_iconst (x := 0) hG 560 rfl dL_law_559 rfl ?_
  refine sm_iconst (x := 0) hG 561 rfl dL_law_560 rfl ?_
  refine sl_callW hG [.ref (P.2.2.1 (0, 0, 0)), .int 33, .int 0, .int 0, .int 0] 564 rfl (lift_W hP (c_L_call (lC_ok hP) hfl lC_nc (ac_33 hI h2 0 0 0))) gL_law_L_call rfl (by decide) (by decide) (n := 5) rfl (Nat.le_of_ble_eq_true rfl) (cs.1 + 4, cs.2 + 24) ⟨rfl, rfl⟩ hcs0 rfl dL_law_561 ?_
  refine sm_sipush (x := (-2013)) hG 567 rfl dL_law_564 rfl ?_
  refine sl_ine hG 599 570 rfl dL_law_567 (by decide) (fun z => absurd rfl z) (fun _ => ?_)
  refine sm_aload_n hG 571 rfl dL_law_570 rfl 1 rfl ?_
  refine sl_callV hG (.inl (0, 0, 0)) [] 574 rfl okS_0 ceS_0 (ci := 6) rfl (lift_C hP (c0n_X6_restoreSnapshot (lC_ok hP) e1')) gL_law_X6_restoreSnapshot rfl (by decide) (by decide) (n := 0) rfl (Nat.le_of_ble_eq_true rfl) ⟨rfl, rfl⟩ hcs0 rfl dL_law_571 ?_
  refine sl_ne hG 599 577 rfl dL_law_574 (by decide) (fun z => absurd rfl z) (fun _ => ?_)
  refine sm_aload_n hG 578 rfl dL_law_577 rfl 1 rfl ?_
  refine sl_callS hG [.ref (P.2.2.1 (0, 0, 0))] 581 rfl (lift_C hP (c_L_seen (lC_ok hP) e2)) gL_law_L_seen rfl (by decide) (by decide) (n := 1) rfl (Nat.le_of_ble_eq_true rfl) (cs.1 + 4, cs.2 + 24) ⟨rfl, rfl⟩ hcs0 rfl dL_law_578 ?_
  refine sl_lload hG 583 rfl dL_law_581 4 rfl ?_
  refine sl_lcm hG 584 rfl dL_law_583 ?_
  rw [show lcm h h = 0 from if_pos rfl]
  refine sl_ne hG 599 587 rfl dL_law_584 (by decide) (fun z => absurd rfl z) (fun _ => ?_)
  refine sm_aload_n hG 588 rfl dL_law_587 rfl 1 rfl ?_
  refine sl_callV hG (.inl (0, 0, 0)) [] 591 rfl okS_0 ceS_0 (ci := 6) rfl (lift_C hP (c_X6_recordedStates (lC_ok hP) ((rec_of i2).trans (congrArg some (k1.2.1 h2))))) gL_law_X6_recordedStates rfl (by decide) (by decide) (n := 0) rfl (Nat.le_of_ble_eq_true rfl) ⟨rfl, rfl⟩ hcs0 rfl dL_law_588 ?_
  refine sm_iconst (x := 1) hG 592 rfl dL_law_591 rfl ?_
  refine sl_ine hG 599 595 rfl dL_law_592 (by decide) (fun z => absurd rfl z) (fun _ => ?_)
  refine sm_iconst (x := 1) hG 596 rfl dL_law_595 rfl ?_
  refine sm_goto hG 600 dL_law_596 (by decide) ?_
  exact hE _ _
set_option maxRecDepth 100000 in
set_option maxHeartbeats 4000000 in
theorem law_more {P : pS} (hP : Ap P) {Γ : jG Unit} (hG : jOk Γ (lS P) cL_law RL wsL_law room_1) (hN : Γ.2.1 = 14) (hfl : Γ.1.2.1.stackTraces = false) {cs : Nat × Nat} (hcs0 : cs.1 + 4 ≤ 600074 ∧ cs.2 + 24 ≤ 7301550) {n : Nat} {o : Nat → Int32} {h : Int64}
    (hE : ∀ (ls : List (Nat × Value)) (v' : mS), Sm Γ (lS P) (cs.1 + 4, cs.2 + 24) 600 ls [.int 1] v' (some ())) : ∀ (r j : Nat) (v : mC) (w : mM), j + r ≤ 4 → IV v w → w 0 2 = nI r → BI w h → Sm Γ (lS P) cs 527 (lsA P n h j) [] (m2 v o) (some ())
  | 0, j, v, w, hj, hI, h2, hB => by
    have hcs : cs.1 ≤ 600074 ∧ cs.2 ≤ 7301550 := ⟨by omega, by omega⟩
    refine sm_iload hG 529 rfl dL_law_527 5 rfl ?_
    refine sm_iconst (x := 4) hG 530 rfl dL_law_529 rfl ?_
    refine sl_ige hG 555 533 rfl dL_law_530 (by decide) (fun _ => law_last hP hG hN hfl hcs0 hI h2 hB hE) (fun _ => ?_)
    refine sm_aload_n hG 534 rfl dL_law_533 rfl 1 rfl ?_
    refine sl_callV hG (.inl (0, 0, 0)) [] 537 rfl okS_0 ceS_0 (ci := 6) rfl (lift_C hP (c_X6_recordedStates (lC_ok hP) ((rec_of hI).trans (congrArg some h2)))) gL_law_X6_recordedStates rfl (by decide) (by decide) (n := 0) rfl (Nat.le_of_ble_eq_true rfl) ⟨rfl, rfl⟩ hcs rfl dL_law_534 ?_
    refine sl_le hG 555 540 rfl dL_law_537 (by decide) (fun _ => law_last hP hG hN hfl hcs0 hI h2 hB hE) (fun z => absurd (show nI 0 ≤ (0 : Int32) by decide) z)
  | r + 1, j, v, w, hj, hI, h2, hB => by
    have hcs : cs.1 ≤ 600074 ∧ cs.2 ≤ 7301550 := ⟨by omega, by omega⟩
    refine sm_iload hG 529 rfl dL_law_527 5 rfl ?_
    refine sm_iconst (x := 4) hG 530 rfl dL_law_529 rfl ?_
    refine sl_ige hG 555 533 rfl dL_law_530 (by decide) (fun z => absurd z (nI_ge (b := 4) (by omega) (by omega))) (fun _ => ?_)
    refine sm_aload_n hG 534 rfl dL_law_533 rfl 1 rfl ?_
    refine sl_callV hG (.inl (0, 0, 0)) [] 537 rfl okS_0 ceS_0 (ci := 6) rfl (lift_C hP (c_X6_recordedStates (lC_ok hP) ((rec_of hI).trans (congrArg some h2)))) gL_law_X6_recordedStates rfl (by decide) (by decide) (n := 0) rfl (Nat.le_of_ble_eq_true rfl) ⟨rfl, rfl⟩ hcs rfl dL_law_534 ?_
    refine sl_le hG 555 540 rfl dL_law_537 (by decide) (fun z => absurd z (nI_ge (a := 0) (b := r + 1) (by omega) (by omega))) (fun _ => ?_)
    obtain ⟨v1, w1, e1, i1, g1, -, -, g3, g4, g11⟩ := ud_ok hI (show r < 4 by omega) h2
    have e1' : nn (f_X6_undo v) = some (nI r, v1) := by rw [e1]; rfl
    have hB1 : BI w1 h := ⟨g4.trans hB.1, g11.trans hB.2.1, by rw [g3]; exact hB.2.2.1, by rw [g3]; exact hB.2.2.2⟩
    refine sm_aload_n hG 541 rfl dL_law_540 rfl 1 rfl ?_
    refine sl_callV hG (.inl (0, 0, 0)) [] 544 rfl okS_0 ceS_0 (ci := 6) rfl (lift_C hP (c0n_X6_undo (lC_ok hP) e1')) gL_law_X6_undo rfl (by decide) (by decide) (n := 0) rfl (Nat.le_of_ble_eq_true rfl) ⟨rfl, rfl⟩ hcs rfl dL_law_541 ?_
    refine sl_gez hG 549 547 rfl dL_law_544 (by decide) (fun _ => ?_) (fun z => absurd (nI_le (a := 0) (b := r) (Nat.zero_le _) (by omega)) z)
    refine sm_iinc hG (x := nI j) (y := nI (j + 1)) 552 rfl dL_law_549 (j := 5) rfl (qi_add j 1) (jlt hN rfl) [(6, .int (nI (j + 1))), (0, .ref P.2.2.2.2.2.1), (1, .ref (P.2.2.1 (0, 0, 0))), (2, .ref P.2.2.2.1), (3, .int (nI n)), (4, .long h)] rfl ?_
    refine sm_goto hG 527 dL_law_552 (by decide) ?_
    refine sm_loc [1, 2, 3, 4, 5, 0] (lsA P n h (j + 1)) rfl ?_
    exact law_more hP hG hN hfl hcs0 hE r (j + 1) v1 w1 (by omega) i1 g1 hB1
set_option maxRecDepth 100000 in
set_option maxHeartbeats 4000000 in
theorem law_undo {P : pS} (hP : Ap P) {Γ : jG Unit} (hG : jOk Γ (lS P) cL_law RL wsL_law room_1) (hN : Γ.2.1 = 14) (hfl : Γ.1.2.1.stackTraces = false) {cs : Nat × Nat} (hcs0 : cs.1 + 4 ≤ 600074 ∧ cs.2 + 24 ≤ 7301550) {n : Nat} (hn : n < 64) {o : Nat → Int32} {h : Int64}
    (hE : ∀ (ls : List (Nat × Value)) (v' : mS), Sm Γ (lS P) (cs.1 + 4, cs.2 + 24) 600 ls [.int 1] v' (some ())) : ∀ (r k : Nat) (v : mC) (w : mM), r + k = 4 → UI v w o n k h → Sm Γ (lS P) cs 466 (lsA P n h k) [] (m2 v o) (some ()) := by
  have hcs : cs.1 ≤ 600074 ∧ cs.2 ≤ 7301550 := ⟨by omega, by omega⟩
  have go : ∀ (r k : Nat) (v : mC) (w : mM), r ≤ 4 → IV v w → w 0 2 = nI r → BI w h → Sm Γ (lS P) cs 524 (lsA P n h k) [] (m2 v o) (some ()) := fun r k v w hr hI h2 hB => by
    refine sm_iconst (x := 0) hG 525 rfl dL_law_524 rfl ?_
    refine sm_istore hG 527 rfl dL_law_525 (jlt hN rfl) [(6, .int 0), (0, .ref P.2.2.2.2.2.1), (1, .ref (P.2.2.1 (0, 0, 0))), (2, .ref P.2.2.2.1), (3, .int (nI n)), (4, .long h)] rfl ?_
    refine sm_loc [1, 2, 3, 4, 5, 0] (lsA P n h 0) rfl ?_
    exact law_more hP hG hN hfl hcs0 hE r 0 v w (by omega) hI h2 hB
  intro r
  induction r with
  | zero =>
    intro k v w hr hI
    obtain rfl : k = 4 := by omega
    refine sm_aload_n hG 467 rfl dL_law_466 rfl 1 rfl ?_
    refine sl_callV hG (.inl (0, 0, 0)) [] 470 rfl okS_0 ceS_0 (ci := 6) rfl (lift_C hP (c_X6_recordedStates (lC_ok hP) ((rec_of hI.1).trans (congrArg some hI.2.1)))) gL_law_X6_recordedStates rfl (by decide) (by decide) (n := 0) rfl (Nat.le_of_ble_eq_true rfl) ⟨rfl, rfl⟩ hcs rfl dL_law_467 ?_
    refine sl_le hG 524 473 rfl dL_law_470 (by decide) (fun _ => go 0 4 v w (by omega) hI.1 hI.2.1 hI.2.2.1) (fun z => absurd (show nI (4 - 4) ≤ (0 : Int32) by decide) z)
  | succ r ih =>
    intro k v w hr hI
    obtain ⟨i0, h2, hB, hs, hd⟩ := hI
    have h2' : w 0 2 = nI (r + 1) := by rw [h2, show 4 - k = r + 1 by omega]
    refine sm_aload_n hG 467 rfl dL_law_466 rfl 1 rfl ?_
    refine sl_callV hG (.inl (0, 0, 0)) [] 470 rfl okS_0 ceS_0 (ci := 6) rfl (lift_C hP (c_X6_recordedStates (lC_ok hP) ((rec_of i0).trans (congrArg some h2')))) gL_law_X6_recordedStates rfl (by decide) (by decide) (n := 0) rfl (Nat.le_of_ble_eq_true rfl) ⟨rfl, rfl⟩ hcs rfl dL_law_467 ?_
    refine sl_le hG 524 473 rfl dL_law_470 (by decide) (fun z => absurd z (nI_ge (a := 0) (b := r + 1) (by omega) (by omega))) (fun _ => ?_)
    refine sm_iload hG 475 rfl dL_law_473 5 rfl ?_
    refine sm_iload_n hG 476 rfl dL_law_475 rfl 3 rfl ?_
    refine sl_ige hG 524 479 rfl dL_law_476 (by decide) (fun _ => go (r + 1) k v w (by omega) i0 h2' hB) (fun z => ?_)
    have hkn : k < n := Nat.lt_of_not_le (fun q => z (nI_le q (by omega)))
    refine sm_aload_n hG 480 rfl dL_law_479 rfl 1 rfl ?_
    refine sl_callV hG (.inl (0, 0, 0)) [] 483 rfl okS_0 ceS_0 (ci := 6) rfl (lift_C hP (c_X6_recordedStates (lC_ok hP) ((rec_of i0).trans (congrArg some h2')))) gL_law_X6_recordedStates rfl (by decide) (by decide) (n := 0) rfl (Nat.le_of_ble_eq_true rfl) ⟨rfl, rfl⟩ hcs rfl dL_law_480 ?_
    refine sm_istore hG 485 rfl dL_law_483 (jlt hN rfl) [(7, .int (nI (r + 1))), (0, .ref P.2.2.2.2.2.1), (1, .ref (P.2.2.1 (0, 0, 0))), (2, .ref P.2.2.2.1), (3, .int (nI n)), (4, .long h), (6, .int (nI k))] rfl ?_
    refine sm_iload hG 487 rfl dL_law_485 6 rfl ?_
    refine sm_iconst (x := 3) hG 488 rfl dL_law_487 rfl ?_
    refine sl_igt hG 516 491 rfl dL_law_488 (by decide) (fun z => absurd z (by rw [qi_lt, qi_I (show k < 2147483648 by omega), show (3 : Int32).toInt = 3 from rfl]; omega)) (fun _ => ?_)
    obtain ⟨u, e1, c1⟩ := sn_get hs i0 (fun _ _ => rfl)
    have i1 : IV u w := IV_CL i0 c1
    obtain ⟨v1, w1, e2, i2, g1, gw, g2, g3, g4, g11⟩ := ud_ok i1 (show r < 4 by omega) h2'
    have e2' : nn (f_X6_undo u) = some (nI r, v1) := by rw [e2]; rfl
    refine sm_aload_n hG 492 rfl dL_law_491 rfl 2 rfl ?_
    refine sl_callS hG [.ref (P.2.2.1 (0, 0, 0))] 495 rfl (lift_C hP (c_L_seen (lC_ok hP) e1)) gL_law_L_seen rfl (by decide) (by decide) (n := 1) rfl (Nat.le_of_ble_eq_true rfl) (cs.1, cs.2) ⟨rfl, rfl⟩ hcs rfl dL_law_492 ?_
    refine sm_aload_n hG 496 rfl dL_law_495 rfl 3 rfl ?_
    refine sm_iload_n hG 497 rfl dL_law_496 rfl 4 rfl ?_
    refine sm_iload hG 499 rfl dL_law_497 6 rfl ?_
    refine sm_isub hG 500 rfl dL_law_499 ?_
    rw [show nI n - nI k = nI (n - k) from qi_sub (by omega)]
    refine sl_in hG (show n - k < 64 by omega) 501 rfl dL_law_500 ?_
    refine sl_lcm hG 502 rfl dL_law_501 ?_
    rw [show lcm (dec o (n - k)) (dec o (n - k)) = 0 from if_pos rfl]
    refine sl_ne hG 516 505 rfl dL_law_502 (by decide) (fun z => absurd rfl z) (fun _ => ?_)
    refine sm_aload_n hG 506 rfl dL_law_505 rfl 2 rfl ?_
    refine sl_callV hG (.inl (0, 0, 0)) [] 509 rfl okS_0 ceS_0 (ci := 6) rfl (lift_C hP (c0n_X6_undo (lC_ok hP) e2')) gL_law_X6_undo rfl (by decide) (by decide) (n := 0) rfl (Nat.le_of_ble_eq_true rfl) ⟨rfl, rfl⟩ hcs rfl dL_law_506 ?_
    refine sm_iload hG 511 rfl dL_law_509 0 rfl ?_
    refine sm_iconst (x := 1) hG 512 rfl dL_law_511 rfl ?_
    refine sm_isub hG 513 rfl dL_law_512 ?_
    refine sl_ieq2 hG 518 516 rfl dL_law_513 (by decide) (fun _ => ?_) (fun z => absurd (show nI r = nI (r + 1) - 1 by rw [show nI (r + 1) - 1 = nI (r + 1 - 1) from qi_sub (b := 1) (by omega)]; rfl) z)
    refine sm_iinc hG (x := nI k) (y := nI (k + 1)) 521 rfl dL_law_518 (j := 6) rfl (qi_add k 1) (jlt hN rfl) [(6, .int (nI (k + 1))), (7, .int (nI (r + 1))), (0, .ref P.2.2.2.2.2.1), (1, .ref (P.2.2.1 (0, 0, 0))), (2, .ref P.2.2.2.1), (3, .int (nI n)), (4, .long h)] rfl ?_
    refine sm_goto hG 466 dL_law_521 (by decide) ?_
    refine sm_loc [2, 3, 4, 5, 6, 0] (lsA P n h (k + 1)) rfl ?_
    refine ih (k + 1) v1 w1 (by omega) ⟨i2, by rw [g1, show 4 - (k + 1) = r by omega], ⟨g4.trans hB.1, g11.trans hB.2.1, by rw [g3]; exact hB.2.2.1, by rw [g3]; exact hB.2.2.2⟩, SNr_x (fun i hi => ?_) (hd (k + 1) (by omega) (by omega) (by omega)), fun d a b c => ?_⟩
    · show w 2 _ = w1 1 i
      rw [gw i hi, show 4 - (k + 1) = r by omega]
    · rw [g2]
      exact hd d (by omega) b c
set_option maxRecDepth 100000 in
set_option maxHeartbeats 4000000 in
theorem law_after {P : pS} (hP : Ap P) {Γ : jG Unit} (hG : jOk Γ (lS P) cL_law RL wsL_law room_1) (hN : Γ.2.1 = 14) (hfl : Γ.1.2.1.stackTraces = false) {cs : Nat × Nat} (h1 : cs.1 ≤ 10000) (h2 : cs.2 ≤ 100000) {n t : Nat} (hn : n ≤ 26) {v : mC} {w : mM} {o : Nat → Int32} {h : Int64} (hI : LI v w o n h)
    (hE : ∀ (cs : Nat × Nat) (ls : List (Nat × Value)) (v' : mS), cs.1 ≤ 600074 → cs.2 ≤ 7301550 → Sm Γ (lS P) cs 600 ls [.int 1] v' (some ())) : Sm Γ (lS P) cs 447 (lsA P n h t) [] (m2 v o) (some ()) := by
  have hcs : cs.1 ≤ 600074 ∧ cs.2 ≤ 7301550 := ⟨by omega, by omega⟩
  have hn64 : n < 64 := by omega
  obtain ⟨i0, a1, a2, a3, a4, a5, a6⟩ := hI
  obtain ⟨h0, u, e0, c0, hs⟩ := sn_new i0
  have i1 : IV u w := IV_CL i0 c0
  obtain ⟨D, m, m', f, dd, R⟩ := i1.1
  obtain ⟨u2, e2, c2⟩ := refused_ok R (len_of i1 a3)
  have i2 : IV u2 w := IV_CL i1 c2
  refine sm_aload_n hG 448 rfl dL_law_447 rfl 2 rfl ?_
  refine sm_iload_n hG 449 rfl dL_law_448 rfl 3 rfl ?_
  refine sm_aload_n hG 450 rfl dL_law_449 rfl 1 rfl ?_
  refine sl_callS hG [.ref (P.2.2.1 (0, 0, 0))] 453 rfl (lift_C hP (c_L_seen (lC_ok hP) e0)) gL_law_L_seen rfl (by decide) (by decide) (n := 1) rfl (Nat.le_of_ble_eq_true rfl) (cs.1, cs.2) ⟨rfl, rfl⟩ hcs rfl dL_law_450 ?_
  refine sl_out hG hn64 454 rfl dL_law_453 ?_
  refine sm_aload_n hG 455 rfl dL_law_454 rfl 1 rfl ?_
  refine sl_callS hG [.ref (P.2.2.1 (0, 0, 0))] 458 rfl (lift_C hP (c_L_refused (lC_ok hP) hfl lC_nc e2)) gL_law_L_refused rfl (by decide) (by decide) (n := 1) rfl (Nat.le_of_ble_eq_true rfl) (cs.1 + 740, cs.2 + 4440) ⟨rfl, rfl⟩ (show cs.1 + 740 ≤ 600074 ∧ cs.2 + 4440 ≤ 7301550 from ⟨by omega, by omega⟩) rfl dL_law_455 ?_
  refine sl_ne hG 463 461 rfl dL_law_458 (by decide) (fun _ => ?_) (fun z => absurd z (show ¬ (1 : Int32) = 0 by decide))
  refine sm_iconst (x := 0) hG 464 rfl dL_law_463 rfl ?_
  refine sm_istore hG 466 rfl dL_law_464 (jlt hN rfl) [(6, .int 0), (0, .ref P.2.2.2.2.2.1), (1, .ref (P.2.2.1 (0, 0, 0))), (2, .ref P.2.2.2.1), (3, .int (nI n)), (4, .long h)] rfl ?_
  refine sm_loc [1, 2, 3, 4, 5, 0] (lsA P n h 0) rfl ?_
  refine law_undo hP hG hN hfl (show cs.1 + 740 + 4 ≤ 600074 ∧ cs.2 + 4440 + 24 ≤ 7301550 from ⟨by omega, by omega⟩) hn64 (fun ls v' => hE _ ls v' (by show cs.1 + 740 + 4 ≤ _; omega) (by show cs.2 + 4440 + 24 ≤ _; omega)) 4 0 u2 w rfl ⟨i2, a1, ⟨a2, a3, a4, a5⟩, ?_, fun d b1 b2 b3 => ?_⟩
  · rw [oL_at, if_pos (by omega)]
    exact hs
  · rw [oL_at, if_neg (by omega)]
    exact a6 d b1 b2 b3
