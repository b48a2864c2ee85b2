/-! THE LETTER: its orders, one behind the other -/
def sp (T : Nat → Nat) (len : Nat) : Nat → Nat
  | 0 => 0
  | i + 1 => (OR T len (sp T len i)).2.1 + 1
def gdo (T : Nat → Nat) (len i : Nat) : Bool := (OR T len (sp T len i)).1 && decide ((OR T len (sp T len i)).2.1 < len ∧ T (OR T len (sp T len i)).2.1 = 59)
def KO (T : Nat → Nat) (len : Nat) : Nat := qf (fun i => !(gdo T len i)) 80
def VL (T : Nat → Nat) (len : Nat) : Bool := (OR T len (sp T len (KO T len))).1 && decide ((OR T len (sp T len (KO T len))).2.1 = len)
def pE (T : Nat → Nat) (len : Nat) : Nat := (OR T len (sp T len (KO T len))).2.1
theorem gdo_b {T : Nat → Nat} {len i : Nat} (h : i < KO T len) : gdo T len i = true := by
  have := qf_no _ 80 i h
  cases e : gdo T len i
  · rw [e] at this; exact absurd this (by decide)
  · rfl
theorem gd_e {T : Nat → Nat} {len i : Nat} (h : gdo T len i = true) : (OR T len (sp T len i)).1 = true ∧ (OR T len (sp T len i)).2.1 < len ∧ T (OR T len (sp T len i)).2.1 = 59 := by
  obtain ⟨a, b⟩ := (Bool.and_eq_true _ _).mp h
  exact ⟨a, of_decide_eq_true b⟩
theorem sp_b {T : Nat → Nat} {len : Nat} : ∀ i, i ≤ KO T len → sp T len i ≤ len ∧ 3 * i ≤ sp T len i
  | 0, _ => ⟨Nat.zero_le _, Nat.zero_le _⟩
  | i + 1, h => by
    obtain ⟨h1, h2⟩ := sp_b (T := T) (len := len) i (by omega)
    obtain ⟨g1, g2, g3⟩ := gd_e (gdo_b (T := T) (len := len) (show i < KO T len by omega))
    have := ((OR_f (T := T) h1).2 g1).1
    exact ⟨by show (OR T len (sp T len i)).2.1 + 1 ≤ len; omega, by show 3 * (i + 1) ≤ (OR T len (sp T len i)).2.1 + 1; omega⟩
theorem KO_b {T : Nat → Nat} {len : Nat} (h : len ≤ 80) : KO T len ≤ 26 := by
  have := sp_b (T := T) (len := len) _ (Nat.le_refl _)
  omega
theorem gd_K {T : Nat → Nat} {len : Nat} (h : len ≤ 80) : ¬ gdo T len (KO T len) = true := by
  have hb := KO_b (T := T) h
  have := qf_yes (fun i => !(gdo T len i)) 80 (show KO T len < 80 by omega)
  intro q
  have e : (!(gdo T len (KO T len))) = true := this
  rw [q] at e
  exact absurd e (by decide)
theorem VL_e {T : Nat → Nat} {len : Nat} : VL T len = true ↔ (OR T len (sp T len (KO T len))).1 = true ∧ (OR T len (sp T len (KO T len))).2.1 = len := by
  unfold VL
  rw [Bool.and_eq_true, decide_eq_true_eq]
/-- an order that stands, but is the last -/
theorem K_end {T : Nat → Nat} {len : Nat} (h : len ≤ 80) (ok : (OR T len (sp T len (KO T len))).1 = true) : ¬ (pE T len < len ∧ T (pE T len) = 59) := fun q => gd_K h ((Bool.and_eq_true _ _).mpr ⟨ok, decide_eq_true q⟩)
theorem pE_b {T : Nat → Nat} {len : Nat} : pE T len ≤ len := (OR_f (sp_b (T := T) (len := len) _ (Nat.le_refl _)).1).1.2
theorem s_find {v : mC} {T : Nat → Nat} {len : Nat} (hT : TX v T len) : ∃ v', f_X2_findError v = some (if VL T len = true then -1 else nI (pE T len), v') ∧ OF v v' := by
  have hlen := hT.1
  have hK := KO_b (T := T) hlen
  have hup : ∀ (u : mC) (x : Int32), OF v u → OF v (up u (32, 0, 0) 2 x) := fun u x h => OF_t h ⟨fun z a _ => funext fun j => by rw [up_r, if_neg (fun q => a q.1)], by rw [up_r, if_neg (fun q => absurd q.2 (by decide))]⟩
  have key : ∃ v', lp (fun _ _ => none) L_X2_findError_7 8192 (nI 0) (up v (32, 0, 0) 2 0) = some (if VL T len = true then -1 else nI (pE T len), v') ∧ OF v v' := by
    refine lp_iv (S := Nat × mC) (R := Option (Int32 × mC)) (X := Int32 → mC → Option (Int32 × mC)) (ev := fun s X => X (nI s.1) s.2) (J := fun k s => s.1 = k ∧ OF v s.2 ∧ s.2 (32, 0, 0) 2 = nI (sp T len k)) (P := fun r => ∃ v', r = some (if VL T len = true then -1 else nI (pE T len), v') ∧ OF v v') (KO T len) (fun k s hk hj self => ?_) (fun s self hj => ?_) (KO T len) 0 8192 (0, up v (32, 0, 0) 2 0) (by omega) (by omega) ⟨rfl, hup v 0 (OF_r v), by show up v (32, 0, 0) 2 0 (32, 0, 0) 2 = nI 0; rw [up_r, if_pos ⟨rfl, rfl⟩]; rfl⟩
    · obtain ⟨n, u⟩ := s
      obtain ⟨j1, j2, j3⟩ := hj
      have j1' : n = k := j1
      subst j1'
      right
      obtain ⟨g1, g2, g3⟩ := gd_e (gdo_b (T := T) (len := len) hk)
      have hs := (sp_b (T := T) (len := len) n (by omega)).1
      obtain ⟨u1, r1, r2, r3, r4⟩ := s_order (OF_TX j2 hT) j3 hs
      have hT1 := OF_TX r2 (OF_TX j2 hT)
      refine ⟨(n + 1, up u1 (32, 0, 0) 2 (nI (sp T len (n + 1)))), ⟨rfl, hup u1 _ (OF_t j2 r2), by show up u1 (32, 0, 0) 2 (nI (sp T len (n + 1))) (32, 0, 0) 2 = nI (sp T len (n + 1)); rw [up_r, if_pos ⟨rfl, rfl⟩]⟩, ?_⟩
      show L_X2_findError_7 self (nI n) u = self (nI (n + 1)) (up u1 (32, 0, 0) 2 (nI ((OR T len (sp T len n)).2.1 + 1)))
      unfold L_X2_findError_7
      rw [if_neg (show ¬ (80 : Int32) ≤ nI n from nI_ge (b := 80) (by omega) (by omega)), r1, bnd_s, b2_t g1, if_neg (show ¬ (1 : Int32) = 0 by decide), s_atEnd hT1.2.1 r3 (by omega) (by omega), bnd_s, b2_f (show ¬ len ≤ (OR T len (sp T len n)).2.1 by omega), if_pos rfl, show (59 : Int32) = nI 59 from rfl, s_skip hT1 r3 (by omega) (by omega), if_pos ⟨g2, g3⟩, bnd_s, if_neg (show ¬ (1 : Int32) = 0 by decide), nI_1]
    · obtain ⟨n, u⟩ := s
      obtain ⟨j1, j2, j3⟩ := hj
      have j1' : n = KO T len := j1
      have j3 : u (32, 0, 0) 2 = nI (sp T len (KO T len)) := j3
      have hs := (sp_b (T := T) (len := len) (KO T len) (Nat.le_refl _)).1
      obtain ⟨u1, r1, r2, r3, r4⟩ := s_order (OF_TX j2 hT) j3 hs
      have hT1 := OF_TX r2 (OF_TX j2 hT)
      have r3' : u1 (32, 0, 0) 2 = nI (pE T len) := r3
      have hp := pE_b (T := T) (len := len)
      show ∃ v', L_X2_findError_7 self (nI n) u = some (if VL T len = true then -1 else nI (pE T len), v') ∧ OF v v'
      rw [j1']
      unfold L_X2_findError_7
      rw [if_neg (show ¬ (80 : Int32) ≤ nI (KO T len) from nI_ge (b := 80) (by omega) (by omega)), r1, bnd_s]
      by_cases ok : (OR T len (sp T len (KO T len))).1 = true
      · rw [b2_t ok, if_neg (show ¬ (1 : Int32) = 0 by decide), s_atEnd hT1.2.1 r3' (by omega) (by omega), bnd_s]
        by_cases pe : pE T len = len
        · rw [b2_t (show len ≤ pE T len by omega), if_neg (show ¬ (1 : Int32) = 0 by decide), if_pos (VL_e.mpr ⟨ok, pe⟩)]
          exact ⟨u1, rfl, OF_t j2 r2⟩
        · rw [b2_f (show ¬ len ≤ pE T len by omega), if_pos rfl, show (59 : Int32) = nI 59 from rfl, s_skip hT1 r3' (by omega) (by omega), if_neg (K_end hlen ok), bnd_s, if_pos rfl, if_neg (fun q => pe (VL_e.mp q).2)]
          exact ⟨u1, by show some (u1 (32, 0, 0) 2, u1) = _; rw [r3'], OF_t j2 r2⟩
      · rw [b2_f ok, if_pos rfl, if_neg (fun q => ok (VL_e.mp q).1)]
        exact ⟨u1, by show some (u1 (32, 0, 0) 2, u1) = _; rw [r3'], OF_t j2 r2⟩
  unfold f_X2_findError f_X2_goTo
  rw [lt_e, bnd_s]
  exact key
/-- what is told of order i -/
def TO (T : Nat → Nat) (len : Nat) (w : mM) (i : Nat) : Prop := w 10 (6 * i) = nI (T (sp T len i)) ∧ ∀ j, fpN (kd (T (sp T len i))) ≤ j → j < fpN (kd (T (sp T len i)) + 1) → w 10 (6 * i + pl j) = nI ((OR T len (sp T len i)).2.2 j)
theorem TO_x {T : Nat → Nat} {len i : Nat} {w w' : mM} (hs : kd (T (sp T len i)) < 7) (h : ∀ t, t < 6 * (i + 1) → w' 10 t = w 10 t) (h2 : TO T len w i) : TO T len w' i := by
  obtain ⟨f1, f2, f3⟩ := pt_f _ hs
  refine ⟨by rw [h _ (by omega)]; exact h2.1, fun j j1 j2 => ?_⟩
  have := pl_b j (by omega)
  rw [h _ (by omega)]
  exact h2.2 j j1 j2
/-- what the reading of a letter may touch -/
def MF3 (w w' : mM) : Prop := (∀ z, z ≠ 0 → z ≠ 10 → w' z = w z) ∧ ∀ j, j ≠ 13 → j ≠ 15 → w' 0 j = w 0 j
theorem MF3_t {u v x : mM} (h1 : MF3 u v) (h2 : MF3 v x) : MF3 u x := ⟨fun z a b => (h2.1 z a b).trans (h1.1 z a b), fun j a b => (h2.2 j a b).trans (h1.2 j a b)⟩
theorem MF3_T {w w' : mM} {T : Nat → Nat} {len : Nat} (h : MF3 w w') (hT : TXm w T len) : TXm w' T len := TXm_f (h.2 11 (by decide) (by decide)) (h.1 9 (by decide) (by decide)) hT
theorem m_valid {w : mM} {T : Nat → Nat} {len : Nat} (hT : TXm w T len) : ∃ w', f_X7_isValid w = some (b2 (VL T len = true), w') ∧ MF3 w w' ∧ (¬ VL T len = true → w' 0 13 = nI (pE T len)) ∧ (VL T len = true → w' 0 15 = nI (KO T len + 1) ∧ ∀ i, i ≤ KO T len → TO T len w' i) := by
  have hlen := hT.1
  have hK := KO_b (T := T) hlen
  have hp := pE_b (T := T) (len := len)
  have h13 : ∀ (u : mM) (x : Int32), MF3 w u → MF3 w (up u 0 13 x) := fun u x h => MF3_t h ⟨fun z a _ => funext fun j => by rw [up_r, if_neg (fun q => a q.1)], fun j a _ => by rw [up_r, if_neg (fun q => a q.2)]⟩
  have h15 : ∀ (u : mM) (x : Int32), MF3 w u → MF3 w (up u 0 15 x) := fun u x h => MF3_t h ⟨fun z a _ => funext fun j => by rw [up_r, if_neg (fun q => a q.1)], fun j _ b => by rw [up_r, if_neg (fun q => b q.2)]⟩
  have hr : MF3 w w := ⟨fun _ _ _ => rfl, fun _ _ _ => rfl⟩
  obtain ⟨w1, hw1⟩ : ∃ w1, w1 = up (up w 0 13 0) 0 15 0 := ⟨_, rfl⟩
  have key : ∃ w', lp (fun _ _ => none) L_X7_isValid_12 8192 (1 : Int32) w1 = some (b2 (VL T len = true), w') ∧ MF3 w w' ∧ (¬ VL T len = true → w' 0 13 = nI (pE T len)) ∧ (VL T len = true → w' 0 15 = nI (KO T len + 1) ∧ ∀ i, i ≤ KO T len → TO T len w' i) := by
    refine lp_iv (S := Int32 × mM) (R := Option (Int32 × mM)) (X := Int32 → mM → Option (Int32 × mM)) (ev := fun s X => X s.1 s.2)
      (J := fun k s => MF3 w s.2 ∧ ((k ≤ KO T len ∧ s.1 = 1 ∧ s.2 0 13 = nI (sp T len k) ∧ s.2 0 15 = nI k ∧ ∀ i, i < k → TO T len s.2 i) ∨ (k = KO T len + 1 ∧ s.1 = 0 ∧ s.2 0 13 = nI (pE T len) ∧ (VL T len = true → s.2 0 15 = nI (KO T len + 1) ∧ ∀ i, i ≤ KO T len → TO T len s.2 i) ∧ (¬ VL T len = true → pE T len < len))))
      (P := fun r => ∃ w', r = some (b2 (VL T len = true), w') ∧ MF3 w w' ∧ (¬ VL T len = true → w' 0 13 = nI (pE T len)) ∧ (VL T len = true → w' 0 15 = nI (KO T len + 1) ∧ ∀ i, i ≤ KO T len → TO T len w' i)) (KO T len + 1) (fun k s hk hj self => ?_) (fun s self hj => ?_) (KO T len + 1) 0 8192 (1, w1) (by omega) (by omega)
      ⟨by rw [hw1]; exact h15 _ _ (h13 _ _ hr), Or.inl ⟨Nat.zero_le _, rfl, by show w1 0 13 = nI 0; rw [hw1, up_r, if_neg (fun q => absurd q.2 (by decide)), up_r, if_pos ⟨rfl, rfl⟩]; rfl, by show w1 0 15 = nI 0; rw [hw1, up_r, if_pos ⟨rfl, rfl⟩]; rfl, fun i hi => absurd hi (Nat.not_lt_zero i)⟩⟩
    · obtain ⟨x, u⟩ := s
      obtain ⟨jf, jj⟩ := hj
      rcases jj with ⟨j0, j1, j2, j3, j4⟩ | ⟨j0, -⟩
      rotate_left
      · omega
      have j1' : x = 1 := j1
      subst j1'
      have hs := sp_b (T := T) (len := len) k j0
      have hTu := MF3_T jf hT
      obtain ⟨x1, u1, r1, r2, ⟨r3, r3'⟩, r4, r5, r6, r7⟩ := m_order hTu j2 hs.1 j3 (show 6 * k + 5 < 168 by omega)
      have f1 : MF3 w u1 := MF3_t jf ⟨r3, fun j a _ => r3' j a⟩
      have e15 : u1 0 15 = nI k := (r3' 15 (by decide)).trans j3
      obtain ⟨u2, hu2⟩ : ∃ u2, u2 = up u1 0 15 (nI (k + 1)) := ⟨_, rfl⟩
      have f2 : MF3 w u2 := by rw [hu2]; exact h15 _ _ f1
      have z10 : ∀ t, u2 10 t = u1 10 t := fun t => by rw [hu2, up_r, if_neg (fun q => absurd q.1 (by decide))]
      have s13 : u2 0 13 = u1 0 13 := by rw [hu2, up_r, if_neg (fun q => absurd q.2 (by decide))]
      have s15 : u2 0 15 = nI (k + 1) := by rw [hu2, up_r, if_pos ⟨rfl, rfl⟩]
      have told : ∀ i, i < k → TO T len u1 i := fun i hi => TO_x (OR_ok (gd_e (gdo_b (T := T) (len := len) (show i < KO T len by omega))).1).2 (fun t ht => r5 t (Or.inl (by omega))) (j4 i hi)
      have body : L_X7_isValid_12 self 1 u = if x1 = 0 then some (0, u1) else (f_X7_takes (nI 59) u2).bind fun r_38 => self r_38.1 r_38.2 := by
        unfold L_X7_isValid_12
        rw [if_neg (show ¬ (1 : Int32) = 0 by decide), r1, bnd_s, zb_0, ck_t]
        show (if x1 = 0 then some (0, u1) else lt (up u1 0 15 (u1 0 15 + 1)) fun w32_3 => (f_X7_takes 59 w32_3).bind fun r_38 => self r_38.1 r_38.2) = _
        rw [e15, nI_1, lt_e, ← hu2]
        rfl
      by_cases hkK : k < KO T len
      · right
        obtain ⟨g1, g2, g3⟩ := gd_e (gdo_b (T := T) (len := len) hkK)
        obtain ⟨q1, q2, q3⟩ := r6 g1
        refine ⟨(1, up u2 0 13 (nI (sp T len (k + 1)))), ⟨h13 _ _ f2, Or.inl ⟨hkK, rfl, by show up u2 0 13 (nI (sp T len (k + 1))) 0 13 = nI (sp T len (k + 1)); rw [up_r, if_pos ⟨rfl, rfl⟩], by show up u2 0 13 (nI (sp T len (k + 1))) 0 15 = nI (k + 1); rw [up_r, if_neg (fun q => absurd q.2 (by decide)), s15], fun i hi => ?_⟩⟩, ?_⟩
        · have z : ∀ t, up u2 0 13 (nI (sp T len (k + 1))) 10 t = u1 10 t := fun t => by rw [up_r, if_neg (fun q => absurd q.1 (by decide)), z10]
          by_cases ik : i = k
          · rw [ik]
            exact TO_x (OR_ok g1).2 (fun t _ => z t) ⟨q2, q3⟩
          · exact TO_x (OR_ok (gd_e (gdo_b (T := T) (len := len) (show i < KO T len by omega))).1).2 (fun t _ => z t) (told i (by omega))
        · show L_X7_isValid_12 self 1 u = self 1 (up u2 0 13 (nI ((OR T len (sp T len k)).2.1 + 1)))
          rw [body, q1, if_neg (show ¬ (1 : Int32) = 0 by decide), m_takes (MF3_T f2 hT) (s13.trans r4) (by omega) (by omega), if_pos ⟨g2, g3⟩, bnd_s]
      · have ek : k = KO T len := by omega
        rw [ek] at hs r4 r5 r6 r7 j4 told s15
        rw [ek]
        have r4' : u1 0 13 = nI (pE T len) := r4
        by_cases ok : (OR T len (sp T len (KO T len))).1 = true
        · right
          obtain ⟨q1, q2, q3⟩ := r6 ok
          refine ⟨(0, u2), ⟨f2, Or.inr ⟨rfl, rfl, s13.trans r4', fun hv => ⟨s15, fun i hi => ?_⟩, fun hv => ?_⟩⟩, ?_⟩
          · by_cases ik : i = KO T len
            · rw [ik]
              exact TO_x (OR_ok ok).2 (fun t _ => z10 t) ⟨q2, q3⟩
            · exact TO_x (OR_ok (gd_e (gdo_b (T := T) (len := len) (show i < KO T len by omega))).1).2 (fun t _ => z10 t) (told i (by omega))
          · have : ¬ pE T len = len := fun q => hv (VL_e.mpr ⟨ok, q⟩)
            omega
          · show L_X7_isValid_12 self 1 u = self 0 u2
            rw [body, q1, if_neg (show ¬ (1 : Int32) = 0 by decide), m_takes (MF3_T f2 hT) (s13.trans r4') (by omega) (by omega), if_neg (K_end hlen ok), bnd_s]
        · have hv : ¬ VL T len = true := fun q => ok (VL_e.mp q).1
          by_cases x0 : x1 = 0
          · left
            refine ⟨u1, ?_, f1, fun _ => r4', fun q => absurd q hv⟩
            show L_X7_isValid_12 self 1 u = _
            rw [body, if_pos x0, b2_f hv]
          · right
            have hF : isF T len (pE T len) := (r7 (by cases h : (OR T len (sp T len (KO T len))).1 <;> simp_all)).resolve_left x0
            refine ⟨(0, u2), ⟨f2, Or.inr ⟨rfl, rfl, s13.trans r4', fun q => absurd q hv, fun _ => hF.1⟩⟩, ?_⟩
            show L_X7_isValid_12 self 1 u = self 0 u2
            rw [body, if_neg x0, m_takes (MF3_T f2 hT) (s13.trans r4') (by omega) (by omega), if_neg (fun q => absurd hF.2.2 (by have h2 : T (pE T len) = 59 := q.2; omega)), bnd_s]
    · obtain ⟨x, u⟩ := s
      obtain ⟨jf, jj⟩ := hj
      rcases jj with ⟨j0, -⟩ | ⟨-, j1, j2, j3, j4⟩
      · exact absurd j0 (by omega)
      have j1' : x = 0 := j1
      subst j1'
      have e11 : u 0 11 = nI len := (MF3_T jf hT).2.1
      have j2' : u 0 13 = nI (pE T len) := j2
      refine ⟨u, ?_, jf, fun _ => j2, j3⟩
      show L_X7_isValid_12 self 0 u = _
      unfold L_X7_isValid_12
      rw [if_pos rfl, j2', e11, zb_0, zb_1, ck_t, ck_t]
      by_cases hv : VL T len = true
      · rw [if_pos (show nI (pE T len) = nI len by rw [show pE T len = len from (VL_e.mp hv).2]), b2_t hv]
      · rw [if_neg (show ¬ nI (pE T len) = nI len from fun q => by
          have := (qi_neq (by omega) (by omega)).mp q
          have := j4 hv
          omega), b2_f hv]
  unfold f_X7_isValid
  rw [lt_e, lt_e, ← hw1]
  exact key
/-! the signs between orders are counted -/
def isS (T : Nat → Nat) (t : Nat) : Bool := decide (T t = 59)
theorem qc_none {q : Nat → Bool} {a : Nat} : ∀ {b : Nat}, a ≤ b → (∀ t, a ≤ t → t < b → q t = false) → qc q b = qc q a
  | 0, h, _ => by rw [show a = 0 by omega]
  | b + 1, h, hq => by
    by_cases e : a = b + 1
    · rw [e]
    · rw [qc_s, hq b (by omega) (by omega), qc_none (by omega) (fun t t1 t2 => hq t t1 (by omega))]
      rfl
theorem sp_c {T : Nat → Nat} {len : Nat} : ∀ i, i ≤ KO T len → qc (isS T) (sp T len i) = i
  | 0, _ => rfl
  | i + 1, h => by
    obtain ⟨h1, h2⟩ := sp_b (T := T) (len := len) i (by omega)
    obtain ⟨g1, g2, g3⟩ := gd_e (gdo_b (T := T) (len := len) (show i < KO T len by omega))
    obtain ⟨⟨o1, o2⟩, o3⟩ := OR_f (T := T) h1
    have ih := sp_c (T := T) (len := len) i (by omega)
    show qc (isS T) ((OR T len (sp T len i)).2.1 + 1) = i + 1
    rw [qc_s, show isS T (OR T len (sp T len i)).2.1 = true from decide_eq_true g3, if_pos rfl, qc_none (q := isS T) o1 (fun t t1 t2 => decide_eq_false ((o3 g1).2.2 t t1 t2)), ih]
theorem K_c {T : Nat → Nat} {len : Nat} (h : VL T len = true) : qc (isS T) len = KO T len := by
  obtain ⟨ok, e⟩ := VL_e.mp h
  obtain ⟨⟨o1, o2⟩, o3⟩ := OR_f (T := T) (sp_b (T := T) (len := len) _ (Nat.le_refl _)).1
  have ih := sp_c (T := T) (len := len) _ (Nat.le_refl _)
  have := qc_none (q := isS T) o1 (fun t t1 t2 => decide_eq_false ((o3 ok).2.2 t t1 t2))
  rw [e, ih] at this
  exact this
theorem s_count {v : mC} {T : Nat → Nat} {len : Nat} (hT : TX v T len) : f_X2_countOrders v = some (nI (qc (isS T) len + 1)) := by
  have hlen := hT.1
  have key : lp (fun _ _ => none) (L_X2_countOrders_4 v) 8192 (nI (qc (isS T) 0 + 1)) (nI 0) = some (nI (qc (isS T) len + 1)) := by
    refine lp_go (fuel := 8192) (ev := fun k (X : Int32 → Int32 → Option Int32) => X (nI (qc (isS T) k + 1)) (nI k)) len (by omega) (fun k hk self => ?_) (fun self => ?_)
    · show L_X2_countOrders_4 v self (nI (qc (isS T) k + 1)) (nI k) = self (nI (qc (isS T) (k + 1) + 1)) (nI (k + 1))
      obtain ⟨t1, t2⟩ := hT.2.2 k hk
      unfold L_X2_countOrders_4
      rw [hT.2.1, if_neg (show ¬ nI len ≤ nI k from nI_ge hk (by omega)), qi_inb (show k < 80 by omega) (by omega), ck_t, qi_ix (by omega), t1, nI_1, nI_1, qc_s]
      by_cases e : T k = 59
      · rw [if_pos (show nI (T k) = 59 by rw [e]; rfl), show isS T k = true from decide_eq_true e, if_pos rfl]
      · rw [if_neg (show ¬ nI (T k) = 59 from fun q => e ((qi_neq (b := 59) (by omega) (by omega)).mp q)), show isS T k = false from decide_eq_false e]
        rfl
    · show L_X2_countOrders_4 v self (nI (qc (isS T) len + 1)) (nI len) = _
      unfold L_X2_countOrders_4
      rw [hT.2.1, if_pos (nI_le (Nat.le_refl _) (by omega))]
  exact key
