/-! THE LETTER: the reference reads an order, whatever its first sign -/
theorem swt_at {ρ : Type} {x : Int32} {lo : Int} {es : List (Option ρ)} {d : Option ρ} (n : Nat) (h : x.toInt = lo + n) : swt x lo es d = es.getD n d := by
  unfold swt
  rw [if_neg (by omega), show (x.toInt - lo).toNat = n by omega]
theorem swt_lo {ρ : Type} {x : Int32} {lo : Int} {es : List (Option ρ)} {d : Option ρ} (h : x.toInt < lo) : swt x lo es d = d := if_pos h
theorem swt_hi {ρ : Type} {x : Int32} {lo : Int} {es : List (Option ρ)} {d : Option ρ} (h : lo + es.length ≤ x.toInt) : swt x lo es d = d := by
  unfold swt
  rw [if_neg (by omega), List.getD_eq_getElem?_getD, List.getElem?_eq_none (by omega), Option.getD_none]
def MO (T : Nat → Nat) (len tm a : Nat) (w : mM) (F : Option (Int32 × mM)) : Prop :=
  ∃ x w', F = some (x, w') ∧ (x = 0 ∨ x = 1) ∧ ((∀ z, z ≠ 0 → z ≠ 10 → w' z = w z) ∧ (∀ j, j ≠ 13 → w' 0 j = w 0 j)) ∧ w' 0 13 = nI (OR T len a).2.1 ∧ (∀ t, t < 6 * tm ∨ 6 * tm + 5 < t → w' 10 t = w 10 t) ∧
    ((OR T len a).1 = true → x = 1 ∧ w' 10 (6 * tm) = nI (T a) ∧ ∀ j, fpN (kd (T a)) ≤ j → j < fpN (kd (T a) + 1) → w' 10 (6 * tm + pl j) = nI ((OR T len a).2.2 j)) ∧ ((OR T len a).1 = false → x = 0 ∨ isF T len (OR T len a).2.1)
theorem MO_of {T : Nat → Nat} {len tm a k i e : Nat} {w u : mM} {F : Option (Int32 × mM)} (ha : a < len) (hk : kd (T a) = k) (hk7 : k < 7) (hi : fpN k = i) (he : fpN (k + 1) = e) (hz : ∀ z, z ≠ 0 → z ≠ 10 → u z = w z) (h0 : ∀ j, j ≠ 13 → u 0 j = w 0 j) (ht0 : u 10 (6 * tm) = nI (T a)) (hto : ∀ t, t < 6 * tm ∨ 6 * tm + 5 < t → u 10 t = w 10 t)
    (h : PM T len tm u i e (po T len (e - i) i a) F) : MO T len tm a w F := by
  subst hk hi he
  obtain ⟨x, w', g1, g2, ⟨g3, g4⟩, g5, g6, g7, g8⟩ := h
  have eO := OR_y (T := T) (len := len) (a := a) ⟨ha, hk7⟩
  obtain ⟨f1, f2, f3⟩ := pt_f (kd (T a)) hk7
  unfold MO
  rw [eO]
  refine ⟨x, w', g1, g2, ⟨fun z a b => (g3 z a b).trans (hz z a b), fun j hj => (g4 j hj).trans (h0 j hj)⟩, g5, fun t h => ?_, fun ok => ⟨(g7 ok).1, ?_, (g7 ok).2⟩, g8⟩
  · rw [g6 t (fun j j1 j2 => by have := pl_b j (by omega); omega)]
    exact hto t h
  · rw [g6 _ (fun j j1 j2 => by have := pl_b j (by omega); omega)]
    exact ht0
theorem PM_bk {T : Nat → Nat} {len tm i e : Nat} {w : mM} {q : Bool × Nat × (Nat → Nat)} {F : Option (Int32 × mM)} (h : PM T len tm w i e q F) : PM T len tm w i e q (F.bind fun r_ => ck (zb r_.1) (some (r_.1, r_.2))) := by
  obtain ⟨x, w', g1, g2, g3⟩ := h
  refine ⟨x, w', ?_, g2, g3⟩
  rw [g1, bnd_s]
  rcases g2 with e | e <;> rw [e] <;> rfl
theorem m_oneN {T : Nat → Nat} {len tm p lo hi a : Nat} {w : mM} {x1 x2 x3 : Int32} (hT : TXm w T len) (h13 : w 0 13 = nI a) (ha : a ≤ len) (h15 : w 0 15 = nI tm) (hp : 6 * tm + p < 168) (hl : lo ≤ 9999) (hh : hi ≤ 9999) (e1 : x1 = nI p) (e2 : x2 = nI lo) (e3 : x3 = nI hi) :
    ((f_X7_isNumber x1 x2 x3 w).bind fun r_ => ck (zb r_.1) (some (r_.1, r_.2))) = (f_X7_isNumber x1 x2 x3 w).bind fun r_ => if r_.1 = 0 then ck (zb (0 : Int32)) (some ((0 : Int32), r_.2)) else ck (zb (1 : Int32)) (some ((1 : Int32), r_.2)) := by
  subst e1 e2 e3
  rw [m_read hT h13 ha h15 hp hl hh, bnd_s, bnd_s, b2_if, zb_b, zb_0, zb_1, ck_t, ck_t, ck_t]
  by_cases q : 0 < (sc T len lo hi (len - a) a 0 0).2.2 ∧ lo ≤ (sc T len lo hi (len - a) a 0 0).2.1 ∧ (sc T len lo hi (len - a) a 0 0).2.1 ≤ hi
  · rw [if_pos q, b2_t q]
  · rw [if_neg q, b2_f q]
set_option maxRecDepth 10000 in
theorem m_order {T : Nat → Nat} {len tm a : Nat} {w : mM} (hT : TXm w T len) (h13 : w 0 13 = nI a) (ha : a ≤ len) (h15 : w 0 15 = nI tm) (ht : 6 * tm + 5 < 168) : MO T len tm a w (f_X7_isOrder w) := by
  have hlen := hT.1
  by_cases p : a = len
  · have e : f_X7_isOrder w = some (0, w) := by
      unfold f_X7_isOrder
      rw [h13, hT.2.1, if_pos (by rw [p]), zb_0, ck_t]
    unfold MO
    rw [e, OR_n (fun q => absurd q.1 (by omega))]
    exact ⟨0, w, rfl, Or.inl rfl, ⟨fun _ _ _ => rfl, fun _ _ => rfl⟩, h13, fun _ _ => rfl, fun q => absurd q Bool.false_ne_true, fun _ => Or.inl rfl⟩
  have pa : a < len := by omega
  obtain ⟨t1, t2⟩ := hT.2.2 a pa
  obtain ⟨u1, hu1⟩ : ∃ u, u = up w 10 (6 * tm) (nI (T a)) := ⟨_, rfl⟩
  obtain ⟨u2, hu2⟩ : ∃ u, u = up u1 10 (6 * tm + 5) 0 := ⟨_, rfl⟩
  obtain ⟨u, hu⟩ : ∃ u, u = up u2 0 13 (nI (a + 1)) := ⟨_, rfl⟩
  have z1 : ∀ z, z ≠ 10 → u1 z = w z := fun z hz => by rw [hu1]; exact funext fun j => by rw [up_r, if_neg (fun q => hz q.1)]
  have z2 : ∀ z, z ≠ 10 → u2 z = w z := fun z hz => by rw [hu2, ← z1 z hz]; exact funext fun j => by rw [up_r, if_neg (fun q => hz q.1)]
  have uz : ∀ z, z ≠ 0 → z ≠ 10 → u z = w z := fun z a b => by rw [hu, ← z2 z b]; exact funext fun j => by rw [up_r, if_neg (fun q => a q.1)]
  have u0 : ∀ j, j ≠ 13 → u 0 j = w 0 j := fun j hj => by rw [hu, up_r, if_neg (fun q => hj q.2), z2 0 (by decide)]
  have u13 : u 0 13 = nI (a + 1) := by rw [hu, up_r, if_pos ⟨rfl, rfl⟩]
  have u10 : ∀ t, u 10 t = if t = 6 * tm + 5 then 0 else if t = 6 * tm then nI (T a) else w 10 t := fun t => by
    rw [hu, up_r, if_neg (fun q => absurd q.1 (by decide)), hu2, up_r]
    by_cases q : t = 6 * tm + 5
    · rw [if_pos ⟨rfl, q⟩, if_pos q]
    · rw [if_neg (fun z => q z.2), if_neg q, hu1, up_r]
      by_cases q2 : t = 6 * tm
      · rw [if_pos ⟨rfl, q2⟩, if_pos q2]
      · rw [if_neg (fun z => q2 z.2), if_neg q2]
  have uT : TXm u T len := TXm_f (u0 11 (by decide)) (uz 9 (by decide) (by decide)) hT
  have u15 : u 0 15 = nI tm := by rw [u0 15 (by decide)]; exact h15
  have ut0 : u 10 (6 * tm) = nI (T a) := by rw [u10, if_neg (by omega), if_pos rfl]
  have ut5 : u 10 (6 * tm + 5) = nI 0 := by rw [u10, if_pos rfl]; rfl
  have uto : ∀ t, t < 6 * tm ∨ 6 * tm + 5 < t → u 10 t = w 10 t := fun t h => by rw [u10, if_neg (by omega), if_neg (by omega)]
  have e6 : (6 : Int32) * nI tm = nI (6 * tm) := by rw [show (6 : Int32) = nI 6 from rfl, qi_mul]
  have e65 : nI (6 * tm) + 5 = nI (6 * tm + 5) := by rw [show (5 : Int32) = nI 5 from rfl, qi_add]
  have eu1 : u1 0 15 = nI tm := by rw [z1 0 (by decide)]; exact h15
  have eu2 : u2 0 13 = nI a := by rw [z2 0 (by decide)]; exact h13
  have tI : (nI (T a)).toInt = (T a : Int) := qi_I (by omega)
  unfold f_X7_isOrder
  rw [h13, hT.2.1, if_neg (show ¬ nI a = nI len from fun q => p ((qi_neq (by omega) (by omega)).mp q)), qi_inb (show a < 80 by omega) (by omega), ck_t, h15, e6, qi_inb (show 6 * tm < 168 by omega) (by omega), ck_t, qi_ix (show a < 2147483648 by omega), t1, qi_ix (show 6 * tm < 2147483648 by omega), lt_e, ← hu1, eu1, e6, e65, qi_inb (show 6 * tm + 5 < 168 by omega) (by omega), ck_t, qi_ix (show 6 * tm + 5 < 2147483648 by omega), lt_e, ← hu2, eu2, nI_1, lt_e, ← hu]
  have dft : kd (T a) = 7 → MO T len tm a w (lt (up u 0 13 ((u 0 13) - (1 : Int32))) fun w398_16 => (ck (zb (0 : Int32)) (some ((0 : Int32), w398_16)))) := fun hk => by
    unfold MO
    rw [lt_e, zb_0, ck_t, OR_n (fun q => absurd q.2 (by omega)), u13, show nI (a + 1) - 1 = nI a from qi_sub (b := 1) (by omega)]
    exact ⟨0, _, rfl, Or.inl rfl, ⟨fun z a b => by rw [← uz z a b]; exact funext fun j => by rw [up_r, if_neg (fun q => a q.1)], fun j hj => by rw [up_r, if_neg (fun q => hj q.2)]; exact u0 j hj⟩, by rw [up_r, if_pos ⟨rfl, rfl⟩], fun t h => by rw [up_r, if_neg (fun q => absurd q.1 (by decide))]; exact uto t h, fun q => absurd q Bool.false_ne_true, fun _ => Or.inl rfl⟩
  by_cases c0 : T a = 106
  · rw [swt_at 4 (by rw [tI, c0]; rfl)]
    show MO T len tm a w ((f_X7_isSingerTold u).bind fun r_153 => (ck (zb r_153.1) (some (r_153.1, r_153.2))))
    refine MO_of (k := 0) pa (by rw [c0]; rfl) (by decide) rfl rfl uz u0 ut0 uto (PM_bk ?_)
    rw [m_e0]
    exact m_k0 uT u13 u15 ht ⟨pa, c0⟩ ut5
  by_cases c1 : T a = 102
  · rw [swt_at 0 (by rw [tI, c1]; rfl)]
    exact MO_of (k := 1) pa (by rw [c1]; rfl) (by decide) rfl rfl uz u0 ut0 uto (m_k1 uT u13 u15 ht ⟨pa, c1⟩ ut5)
  by_cases c2 : T a = 108
  · rw [swt_at 6 (by rw [tI, c2]; rfl)]
    refine MO_of (k := 2) pa (by rw [c2]; rfl) (by decide) rfl rfl uz u0 ut0 uto (Eq.mpr (congrArg (fun F => PM T len tm u 7 12 (po T len 5 7 a) F) (m_e2 u)) (m_k2 uT u13 u15 ht ⟨pa, c2⟩ ut5))
  by_cases c3 : T a = 110
  · rw [swt_at 8 (by rw [tI, c3]; rfl)]
    exact MO_of (k := 3) pa (by rw [c3]; rfl) (by decide) rfl rfl uz u0 ut0 uto (m_k3 uT u13 u15 ht ⟨pa, c3⟩ ut5)
  by_cases c4 : T a = 111
  · rw [swt_at 9 (by rw [tI, c4]; rfl)]
    exact MO_of (k := 4) pa (by rw [c4]; rfl) (by decide) rfl rfl uz u0 ut0 uto (m_k4 uT u13 u15 ht ⟨pa, c4⟩ ut5)
  by_cases c5 : T a = 120
  · rw [swt_at 18 (by rw [tI, c5]; rfl)]
    show MO T len tm a w ((f_X7_isNumber (1 : Int32) (0 : Int32) (29 : Int32) u).bind fun r_378 => (ck (zb r_378.1) (some (r_378.1, r_378.2))))
    rw [m_oneN (p := 1) (lo := 0) (hi := 29) (x1 := 1) (x2 := 0) (x3 := 29) uT u13 (by omega) u15 (by omega) (by omega) (by omega) rfl rfl rfl]
    exact MO_of (k := 5) pa (by rw [c5]; rfl) (by decide) rfl rfl uz u0 ut0 uto (m_k5 uT u13 u15 ht ⟨pa, c5⟩ ut5)
  by_cases c6 : T a = 116
  · rw [swt_at 14 (by rw [tI, c6]; rfl)]
    show MO T len tm a w ((f_X7_isNumber (1 : Int32) (1 : Int32) (99 : Int32) u).bind fun r_387 => (ck (zb r_387.1) (some (r_387.1, r_387.2))))
    rw [m_oneN (p := 1) (lo := 1) (hi := 99) (x1 := 1) (x2 := 1) (x3 := 99) uT u13 (by omega) u15 (by omega) (by omega) (by omega) rfl rfl rfl]
    exact MO_of (k := 6) pa (by rw [c6]; rfl) (by decide) rfl rfl uz u0 ut0 uto (m_k6 uT u13 u15 ht ⟨pa, c6⟩ ut5)
  have d := dft (by unfold kd; simp only [if_neg c0, if_neg c1, if_neg c2, if_neg c3, if_neg c4, if_neg c5, if_neg c6])
  by_cases lo : T a < 102
  · rw [swt_lo (by rw [tI]; omega)]
    exact d
  by_cases hi : 120 < T a
  · rw [swt_hi (by rw [tI]; show (102 : Int) + 19 ≤ _; omega)]
    exact d
  rcases (show T a = 102 + 1 ∨ T a = 102 + 2 ∨ T a = 102 + 3 ∨ T a = 102 + 5 ∨ T a = 102 + 7 ∨ T a = 102 + 10 ∨ T a = 102 + 11 ∨ T a = 102 + 12 ∨ T a = 102 + 13 ∨ T a = 102 + 15 ∨ T a = 102 + 16 ∨ T a = 102 + 17 by omega) with q | q | q | q | q | q | q | q | q | q | q | q
  · rw [swt_at 1 (by rw [tI, q]; rfl)]; exact d
  · rw [swt_at 2 (by rw [tI, q]; rfl)]; exact d
  · rw [swt_at 3 (by rw [tI, q]; rfl)]; exact d
  · rw [swt_at 5 (by rw [tI, q]; rfl)]; exact d
  · rw [swt_at 7 (by rw [tI, q]; rfl)]; exact d
  · rw [swt_at 10 (by rw [tI, q]; rfl)]; exact d
  · rw [swt_at 11 (by rw [tI, q]; rfl)]; exact d
  · rw [swt_at 12 (by rw [tI, q]; rfl)]; exact d
  · rw [swt_at 13 (by rw [tI, q]; rfl)]; exact d
  · rw [swt_at 15 (by rw [tI, q]; rfl)]; exact d
  · rw [swt_at 16 (by rw [tI, q]; rfl)]; exact d
  · rw [swt_at 17 (by rw [tI, q]; rfl)]; exact d
