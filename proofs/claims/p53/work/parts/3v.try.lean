/-! THE LETTER: its orders are carried out one behind the other, on both sides -/
theorem does_all {v : mC} {w : mM} {T : Nat → Nat} {len i a : Nat} (ea : a = sp T len i) (ha : a ≤ len) (ok : (OR T len a).1 = true) (hTO : TO T len w i) (hnum : ∀ j, fpN (kd (T a)) ≤ j → j < fpN (kd (T a) + 1) → v (34, 0, 0) (j - fpN (kd (T a))) = nI ((OR T len a).2.2 j)) (hR : BR v 1 (w 1)) (h6 : 6 * i + 5 < 168) : DO v w (nI (kd (T a))) (f_X7_does (nI i) w) := by
  obtain ⟨D, n, m, f, dd, R⟩ := hR
  subst ea
  have hk := (OR_ok ok).2
  have hsg := kd_sg hk
  obtain ⟨-, hb, -⟩ := (OR_f (T := T) ha).2 ok
  obtain ⟨t0, ht⟩ := hTO
  generalize hN : (OR T len (sp T len i)).2.2 = N at *
  generalize hc : T (sp T len i) = c at *
  have bd : ∀ j, fpN (kd c) ≤ j → j < fpN (kd c + 1) → ¬ j = 4 → loN j ≤ N j ∧ N j ≤ hiN j := fun j j1 j2 j4 => (hb j j1 j2).resolve_left (fun q => j4 q.1)
  rcases (show kd c = 0 ∨ kd c = 1 ∨ kd c = 2 ∨ kd c = 3 ∨ kd c = 4 ∨ kd c = 5 ∨ kd c = 6 by omega) with e | e | e | e | e | e | e
  · rw [e] at hsg hb ht hnum bd ⊢
    rw [← hsg] at t0
    exact does_0 R h6 t0 (ht 2 (by decide) (by decide)) (ht 3 (by decide) (by decide)) (ht 0 (by decide) (by decide)) (ht 1 (by decide) (by decide)) (ht 4 (by decide) (by decide))
      (hnum 0 (by decide) (by decide)) (hnum 1 (by decide) (by decide)) (hnum 2 (by decide) (by decide)) (hnum 3 (by decide) (by decide)) (hnum 4 (by decide) (by decide))
      (bd 0 (by decide) (by decide) (by decide)) (bd 1 (by decide) (by decide) (by decide)) (bd 2 (by decide) (by decide) (by decide)).2 (bd 3 (by decide) (by decide) (by decide)).2 ((hb 4 (by decide) (by decide)).imp (fun q => q.2) (fun q => q))
  · rw [e] at hsg hb ht hnum bd ⊢
    rw [← hsg] at t0
    exact does_1 R h6 t0 (ht 5 (by decide) (by decide)) (ht 6 (by decide) (by decide)) (hnum 5 (by decide) (by decide)) (hnum 6 (by decide) (by decide)) (bd 5 (by decide) (by decide) (by decide)).2 (bd 6 (by decide) (by decide) (by decide))
  · rw [e] at hsg hb ht hnum bd ⊢
    rw [← hsg] at t0
    exact does_2 R h6 t0 (ht 10 (by decide) (by decide)) (ht 11 (by decide) (by decide)) (ht 7 (by decide) (by decide)) (ht 8 (by decide) (by decide)) (ht 9 (by decide) (by decide))
      (hnum 7 (by decide) (by decide)) (hnum 8 (by decide) (by decide)) (hnum 9 (by decide) (by decide)) (hnum 10 (by decide) (by decide)) (hnum 11 (by decide) (by decide))
      (bd 7 (by decide) (by decide) (by decide)).2 (bd 8 (by decide) (by decide) (by decide)).2 (bd 9 (by decide) (by decide) (by decide)).2
  · rw [e] at hsg hb ht hnum bd ⊢
    rw [← hsg] at t0
    exact does_3 R h6 t0 (ht 12 (by decide) (by decide)) (ht 13 (by decide) (by decide)) (ht 14 (by decide) (by decide)) (hnum 12 (by decide) (by decide)) (hnum 13 (by decide) (by decide)) (hnum 14 (by decide) (by decide)) (bd 12 (by decide) (by decide) (by decide)).2
  · rw [e] at hsg hb ht hnum bd ⊢
    rw [← hsg] at t0
    exact does_4 R h6 t0 (ht 15 (by decide) (by decide)) (ht 16 (by decide) (by decide)) (ht 17 (by decide) (by decide)) (hnum 15 (by decide) (by decide)) (hnum 16 (by decide) (by decide)) (hnum 17 (by decide) (by decide)) (bd 15 (by decide) (by decide) (by decide)).2 (bd 16 (by decide) (by decide) (by decide)).2 (bd 17 (by decide) (by decide) (by decide))
  · rw [e] at hsg hb ht hnum bd ⊢
    rw [← hsg] at t0
    exact does_5 R h6 t0 (ht 18 (by decide) (by decide)) (hnum 18 (by decide) (by decide)) (bd 18 (by decide) (by decide) (by decide)).2
  · rw [e] at hsg hb ht hnum bd ⊢
    rw [← hsg] at t0
    exact does_6 R h6 t0 (ht 19 (by decide) (by decide)) (hnum 19 (by decide) (by decide)) (bd 19 (by decide) (by decide) (by decide))
/-- what the carrying out of orders on trial may touch -/
def CT (v u : mC) : Prop := (∀ z : kC, z ≠ (32, 0, 0) → z ≠ (34, 0, 0) → z.1 < 36 → (z.1 = 0 ∨ 30 < z.1 ∨ z.2.1 ≠ 1) → u z = v z) ∧ u (32, 0, 0) 1 = v (32, 0, 0) 1
theorem CT_t {u v x : mC} (h1 : CT u v) (h2 : CT v x) : CT u x := ⟨fun z a b c d => (h2.1 z a b c d).trans (h1.1 z a b c d), h2.2.trans h1.2⟩
theorem CT_o {u v : mC} (h : OF u v) : CT u v := ⟨fun z a b _ _ => h.1 z a b, h.2⟩
theorem CT_b {u v : mC} (h : CB 1 u v) : CT u v := ⟨fun z _ _ c d => h z c d, by rw [h (32, 0, 0) (by show 32 < 36; omega) (Or.inr (Or.inl (by show 30 < 32; omega)))]⟩
theorem CT_2 (v : mC) (x : Int32) : CT v (up v (32, 0, 0) 2 x) := ⟨fun z a _ _ _ => funext fun j => by rw [up_r, if_neg (fun q => a q.1)], by rw [up_r, if_neg (fun q => absurd q.2 (by decide))]⟩
theorem CT_TX {v u : mC} {T : Nat → Nat} {len : Nat} (h : CT v u) (hT : TX v T len) : TX u T len := TX_f h.2 (h.1 (33, 0, 0) (by decide) (by decide) (by show 33 < 36; omega) (Or.inr (Or.inl (by show 30 < 33; omega)))) hT
theorem OK_i {T : Nat → Nat} {len i : Nat} (hv : VL T len = true) (h : i ≤ KO T len) : (OR T len (sp T len i)).1 = true := by
  by_cases e : i = KO T len
  · rw [e]; exact (VL_e.mp hv).1
  · exact (gd_e (gdo_b (T := T) (len := len) (show i < KO T len by omega))).1
theorem goTo_e (x : Int32) (v : mC) : f_X2_goTo x v = some (up v (32, 0, 0) 2 x) := rfl
theorem try_all {v0 : mC} {w0 : mM} {T : Nat → Nat} {len : Nat} (hT : TX v0 T len) (hv : VL T len = true) (h15 : w0 0 15 = nI (KO T len + 1)) (hTO : ∀ i, i ≤ KO T len → TO T len w0 i) : ∀ (d i f1 f2 : Nat) (u : mC) (w : mM), i + d = KO T len + 1 → d < f1 → d < f2 → CT v0 u → u (32, 0, 0) 2 = nI (sp T len i) → MB w0 w → BR u 1 (w 1) →
    ∃ c u' w', lp (fun _ _ => none) L_X6_tryOrders_21 f1 (nI i) u = some (if c = KO T len + 1 then -1 else nI c, u') ∧ lp (fun _ _ => none) L_X7_doesAll_2 f2 (nI i) w = some (nI c, w') ∧ c ≤ KO T len + 1 ∧ CT v0 u' ∧ MB w0 w' ∧ (c = KO T len + 1 → BR u' 1 (w' 1))
  | 0, i, f1, f2, u, w, hi, hf1, hf2, hu, h2, hw, hB => by
    have hlen := hT.1
    have hK := KO_b (T := T) hlen
    obtain ⟨f1, rfl⟩ : ∃ x, f1 = x + 1 := ⟨f1 - 1, by omega⟩
    obtain ⟨f2, rfl⟩ : ∃ x, f2 = x + 1 := ⟨f2 - 1, by omega⟩
    have ei : i = KO T len + 1 := by omega
    have es : sp T len (KO T len + 1) = len + 1 := by
      show (OR T len (sp T len (KO T len))).2.1 + 1 = len + 1
      rw [(VL_e.mp hv).2]
    rw [ei, es] at h2
    have hTu := CT_TX hu hT
    have w15 : w 0 15 = nI i := by rw [hw 0 (by omega) (by omega), h15, ei]
    have cls : lp (fun _ _ => none) L_X6_tryOrders_21 (f1 + 1) (nI i) u = some (-1, u) := by
      show L_X6_tryOrders_21 (lp (fun _ _ => none) L_X6_tryOrders_21 f1) (nI i) u = _
      generalize lp (fun _ _ => none) L_X6_tryOrders_21 f1 = self
      unfold L_X6_tryOrders_21
      rw [if_neg (show ¬ (80 : Int32) ≤ nI i from nI_ge (b := 80) (by omega) (by omega)), s_atEnd hTu.2.1 h2 (by omega) (by omega), bnd_s, b2_t (show len ≤ len + 1 by omega), if_neg (show ¬ (1 : Int32) = 0 by decide)]
    have rfc : lp (fun _ _ => none) L_X7_doesAll_2 (f2 + 1) (nI i) w = some (nI i, w) := by
      show L_X7_doesAll_2 (lp (fun _ _ => none) L_X7_doesAll_2 f2) (nI i) w = _
      generalize lp (fun _ _ => none) L_X7_doesAll_2 f2 = self
      unfold L_X7_doesAll_2
      rw [w15, if_pos (nI_le (Nat.le_refl _) (by omega))]
    exact ⟨i, u, w, by rw [if_pos ei]; exact cls, rfc, Nat.le_of_eq ei, hu, hw, fun _ => hB⟩
  | d + 1, i, f1, f2, u, w, hi, hf1, hf2, hu, h2, hw, hB => by
    have hlen := hT.1
    have hK := KO_b (T := T) hlen
    obtain ⟨f1, rfl⟩ : ∃ x, f1 = x + 1 := ⟨f1 - 1, by omega⟩
    obtain ⟨f2, rfl⟩ : ∃ x, f2 = x + 1 := ⟨f2 - 1, by omega⟩
    have iK : i ≤ KO T len := by omega
    have hTu := CT_TX hu hT
    have ok := OK_i hv iK
    have hs := sp_b (T := T) (len := len) i iK
    have hlt := (OR_ok ok).1
    have w15 : w 0 15 = nI (KO T len + 1) := by rw [hw 0 (by omega) (by omega)]; exact h15
    have w10 : w 10 = w0 10 := hw 10 (by omega) (by omega)
    obtain ⟨u1, r1, r2, r3, r4⟩ := s_order hTu h2 hs.1
    obtain ⟨r5, r6⟩ := r4 ok
    have hB1 : BR u1 1 (w 1) := BR_x (fun k j t k1 k2 => by rw [r2.1 (k, 1, j) (kn (by omega) _ _ _ _) (kn (by omega) _ _ _ _)]) (fun _ _ => rfl) rfl hB
    have hto : TO T len w i := TO_x (OR_ok ok).2 (fun t _ => by rw [w10]) (hTO i iK)
    obtain ⟨r, x, w', d1, d2, d3, d4⟩ := does_all rfl hs.1 ok hto r6 hB1 (by omega)
    have cls : lp (fun _ _ => none) L_X6_tryOrders_21 (f1 + 1) (nI i) u = if r = 0 then (f_X6_obey (nI (kd (T (sp T len i)))) u1).bind fun r_85 => ((f_X2_goTo ((r_85 (32, 0, 0) 2) + (1 : Int32)) r_85).bind fun r_101 => (lp (fun _ _ => none) L_X6_tryOrders_21 f1 (nI (i + 1)) r_101)) else some (nI i, u1) := by
      show L_X6_tryOrders_21 (lp (fun _ _ => none) L_X6_tryOrders_21 f1) (nI i) u = _
      generalize lp (fun _ _ => none) L_X6_tryOrders_21 f1 = self
      unfold L_X6_tryOrders_21
      rw [if_neg (show ¬ (80 : Int32) ≤ nI i from nI_ge (b := 80) (by omega) (by omega)), s_atEnd hTu.2.1 h2 (by omega) (by omega), bnd_s, b2_f (show ¬ len ≤ sp T len i by omega), if_pos rfl, r1, bnd_s, b2_t ok, if_neg (show ¬ (1 : Int32) = 0 by decide)]
      dsimp only
      rw [r5, d1, bnd_s, nI_1]
    have rfc : lp (fun _ _ => none) L_X7_doesAll_2 (f2 + 1) (nI i) w = if x = 0 then some (nI i, w') else lp (fun _ _ => none) L_X7_doesAll_2 f2 (nI (i + 1)) w' := by
      show L_X7_doesAll_2 (lp (fun _ _ => none) L_X7_doesAll_2 f2) (nI i) w = _
      generalize lp (fun _ _ => none) L_X7_doesAll_2 f2 = self
      unfold L_X7_doesAll_2
      rw [w15, if_neg (show ¬ nI (KO T len + 1) ≤ nI i from nI_ge (by omega) (by omega)), d2, bnd_s, nI_1]
    rw [cls, rfc]
    rcases d4 with ⟨e1, e2, u2, e3, e4, e5⟩ | ⟨e1, e2⟩
    · have c2 : u2 (32, 0, 0) = u1 (32, 0, 0) := e5 (32, 0, 0) (by show 32 < 36; omega) (Or.inr (Or.inl (by show 30 < 32; omega)))
      rw [if_pos e1, e3, bnd_s, goTo_e, bnd_s, e2, if_neg (show ¬ (1 : Int32) = 0 by decide), c2, r3, nI_1]
      refine try_all hT hv h15 hTO d (i + 1) f1 f2 _ w' (by omega) (by omega) (by omega) (CT_t hu (CT_t (CT_o r2) (CT_t (CT_b e5) (CT_2 _ _)))) (by rw [up_r, if_pos ⟨rfl, rfl⟩]; rfl) (MB_t hw d3) ?_
      exact BR_x (fun k j t k1 k2 => by rw [up_r, if_neg (fun q => kn (show k ≠ 32 by omega) _ _ _ _ q.1)]) (fun _ _ => rfl) rfl e4
    · rw [if_neg e1, e2, if_pos rfl]
      exact ⟨i, u1, w', by rw [if_neg (show ¬ i = KO T len + 1 by omega)], rfl, by omega, CT_t hu (CT_o r2), MB_t hw d3, fun q => absurd q (by omega)⟩
theorem m_lays2 {k0 k2 : Nat} (hne : k0 ≠ k2) (w : mM) : ∃ w', f_X7_lays 1483 1483 k0 k2 0 0 w = some w' ∧ (∀ i, i < 1483 → w' k2 i = w k0 i) ∧ ∀ z, z ≠ k2 → w' z = w z := by
  have hl := m_lays (n0 := 1483) (n1 := 1483) (k0 := k0) (k2 := k2) (x1 := 0) (x3 := 0) hne (by omega) (by omega) (by omega) (by omega) w
  exact ⟨_, hl, fun i hi => by
    show (if k2 = k2 ∧ 0 ≤ i ∧ i < 0 + 1483 then w k0 (0 + (i - 0)) else _) = _
    rw [if_pos ⟨rfl, by omega, by omega⟩, show 0 + (i - 0) = i by omega], fun z hz => funext fun i => if_neg (fun q => hz q.1)⟩
/-- all orders, on both sides -/
theorem try_eq {v : mC} {w : mM} {T : Nat → Nat} {len : Nat} (hT : TX v T len) (hv : VL T len = true) (h15 : w 0 15 = nI (KO T len + 1)) (hTO : ∀ i, i ≤ KO T len → TO T len w i) (hB : BR v 0 (w 1)) :
    ∃ c u' w', f_X6_tryOrders v = some (if c = KO T len + 1 then -1 else nI c, u') ∧ f_X7_doesAll w = some (nI c, w') ∧ c ≤ KO T len + 1 ∧ CT v u' ∧ MB w w' ∧ (c = KO T len + 1 → BR u' 1 (w' 1)) := by
  have hlen := hT.1
  have hK := KO_b (T := T) hlen
  obtain ⟨D, n, m, f, dd, R⟩ := hB
  obtain ⟨v1, s1, s2, s3⟩ := s_copy (v := v) (o := 1) (o1 := 0) (n := n) (m := m) (f := f) (by omega) R.2.1.2.2.1 R.2.1.2.2.2.2.1 R.2.1.2.2.2.2.2.2.1 R.1.2.1 R.1.2.2.1 R.1.2.2.2
  have hB1 : BR v1 1 (w 1) := ⟨D, n, m, f, dd, Rl_x s2 (fun _ _ => rfl) R⟩
  have c1 : CT v v1 := CT_b (fun z _ hz => s3 z hz)
  obtain ⟨c, u', w', g1, g2, g3, g4, g5, g6⟩ := try_all (CT_TX c1 hT) hv h15 hTO (KO T len + 1) 0 8192 8192 (up v1 (32, 0, 0) 2 0) w (by omega) (by omega) (by omega) (CT_2 _ _) (by rw [up_r, if_pos ⟨rfl, rfl⟩]; rfl) (fun _ _ _ => rfl)
    (BR_x (fun k j t k1 k2 => by rw [up_r, if_neg (fun q => kn (show k ≠ 32 by omega) _ _ _ _ q.1)]) (fun _ _ => rfl) rfl hB1)
  refine ⟨c, u', w', ?_, ?_, g3, CT_t c1 g4, g5, g6⟩
  · unfold f_X6_tryOrders
    rw [s1, bnd_s, goTo_e, bnd_s]
    exact g1
  · unfold f_X7_doesAll
    exact g2
/-- the text of both sides -/
theorem IVl_T {v : mC} {w : mM} (h : IVl v w) : ∃ T len, TX v T len ∧ TXm w T len := by
  obtain ⟨len, a, b, c, d⟩ := h
  refine ⟨fun i => ix (w 9 i), len, ⟨a, b, fun i hi => ?_⟩, ⟨a, c, fun i hi => ?_⟩⟩
  · obtain ⟨e, ch, h1, h2⟩ := d i hi
    show v (33, 0, 0) i = nI (ix (w 9 i)) ∧ ix (w 9 i) ≤ 65535
    rw [e, h2, qi_ix (by omega)]
    exact ⟨rfl, h1⟩
  · obtain ⟨e, ch, h1, h2⟩ := d i hi
    show w 9 i = nI (ix (w 9 i)) ∧ ix (w 9 i) ≤ 65535
    rw [h2, qi_ix (by omega)]
    exact ⟨rfl, h1⟩
theorem IV_let {v v' : mC} {w w' : mM} (hc : CT v v') (h1 : ∀ i, i < 1483 → w' 1 i = w 1 i) (hz : ∀ z, z = 2 ∨ z = 3 ∨ z = 9 → w' z = w z) (h0 : ∀ j, j = 2 ∨ j = 4 ∨ j = 11 → w' 0 j = w 0 j) (h : IV v w) : IV v' w' := by
  obtain ⟨b1, ⟨k, bk, b2⟩, b3, b4⟩ := h
  have e0 : v' (0, 0, 0) = v (0, 0, 0) := hc.1 _ (by decide) (by decide) (by show 0 < 36; omega) (Or.inl rfl)
  have hk : ∀ o, o ≠ 1 → ∀ k j i, 1 ≤ k → k ≤ 30 → v' (k, o, j) i = v (k, o, j) i := fun o ho k j i a b => by rw [hc.1 (k, o, j) (kn (by omega) _ _ _ _) (kn (by omega) _ _ _ _) (by show k < 36; omega) (Or.inr (Or.inr ho))]
  exact ⟨BR_x (hk 0 (by decide)) h1 rfl b1, ⟨k, bk, IVr_x (by rw [e0]) (hc.1 _ (by decide) (by decide) (by show 31 < 36; omega) (Or.inr (Or.inl (by show 30 < 31; omega)))) (fun o o1 o2 => hk o (by omega)) (h0 2 (Or.inl rfl)) (hz 2 (Or.inl rfl)) b2⟩,
    IVs_x (by rw [e0]) (hk 2 (by decide)) (h0 4 (Or.inr (Or.inl rfl))) (hz 3 (Or.inr (Or.inl rfl))) b3,
    IVl_x hc.2 (hc.1 (33, 0, 0) (by decide) (by decide) (by show 33 < 36; omega) (Or.inr (Or.inl (by show 30 < 33; omega)))) (h0 11 (Or.inr (Or.inr rfl))) (hz 9 (Or.inr (Or.inr rfl))) b4⟩
theorem IV_mf {v v' : mC} {w w' : mM} (hc : CT v v') (hm : MF3 w w') (h : IV v w) : IV v' w' :=
  IV_let hc (fun i _ => by rw [hm.1 1 (by decide) (by decide)]) (fun z hz => hm.1 z (by omega) (by omega)) (fun j hj => hm.2 j (by omega) (by omega)) h
theorem op_letterError {v : mC} {w : mM} (h : IV v w) : OpN (f_X6_letterError v) (f_X7_letterError w) := by
  obtain ⟨T, len, hT, hTm⟩ := IVl_T h.2.2.2
  have hI := IV_th 0 h
  have hTm0 : TXm (up w 0 12 0) T len := TXm_f (by rw [up_r, if_neg (fun q => absurd q.2 (by decide))]) (th_1 w 0 (by decide)) hTm
  obtain ⟨v', g1, g2⟩ := s_find hT
  obtain ⟨w', m1, m2, m3, m4⟩ := m_valid hTm0
  refine ⟨if VL T len = true then -1 else nI (pE T len), v', w', ?_, ?_, IV_mf (CT_o g2) m2 hI⟩
  · unfold f_X6_letterError
    rw [g1, bnd_s]
  · unfold f_X7_letterError
    rw [lt_e, m1, bnd_s]
    by_cases hv : VL T len = true
    · rw [b2_t hv, if_neg (show ¬ (1 : Int32) = 0 by decide), if_pos hv]
    · rw [b2_f hv, if_pos rfl, if_neg hv]
      dsimp only
      rw [m3 hv]
theorem nI_m1 {k : Nat} (h : k ≤ 1000) : ¬ nI k = -1 := qi_nM (by omega)
theorem op_impossibleOrder {v : mC} {w : mM} (h : IV v w) : Op c3 (f_X6_impossibleOrder v) (f_X7_impossibleOrder w) := by
  obtain ⟨T, len, hT, hTm⟩ := IVl_T h.2.2.2
  have hlen := hT.1
  have hK := KO_b (T := T) hlen
  have hp := pE_b (T := T) (len := len)
  have hI := IV_th 0 h
  have hTm0 : TXm (up w 0 12 0) T len := TXm_f (by rw [up_r, if_neg (fun q => absurd q.2 (by decide))]) (th_1 w 0 (by decide)) hTm
  obtain ⟨v', g1, g2⟩ := s_find hT
  obtain ⟨w', m1, m2, m3, m4⟩ := m_valid hTm0
  have i1 := IV_mf (CT_o g2) m2 hI
  have e12 : w' 0 12 = 0 := by rw [m2.2 12 (by decide) (by decide), up_r, if_pos ⟨rfl, rfl⟩]
  unfold f_X6_impossibleOrder f_X7_impossibleOrder
  simp only [jn_e, lt_e, g1, m1, bnd_s]
  by_cases hv : VL T len = true
  · obtain ⟨n1, n2⟩ := m4 hv
    rw [if_pos hv, if_pos rfl, rf0, b2_t hv, if_neg (show ¬ (1 : Int32) = 0 by decide)]
    obtain ⟨w1, l1, l2, l3⟩ := m_lays2 (k0 := 1) (k2 := 4) (by decide) w'
    have hB : BR v' 0 (w1 1) := by rw [l3 1 (by decide)]; exact i1.1
    obtain ⟨c, u', w2, q1, q2, q3, q4, q5, q6⟩ := try_eq (w := w1) (OF_TX g2 hT) hv (by rw [l3 0 (by decide)]; exact n1) (fun i hi => TO_x (OR_ok (OK_i hv hi)).2 (fun t _ => by rw [l3 10 (by decide)]) (n2 i hi)) hB
    obtain ⟨w3, l4, l5, l6⟩ := m_lays2 (k0 := 4) (k2 := 1) (by decide) w2
    have e15 : w3 0 15 = nI (KO T len + 1) := by rw [l6 0 (by decide), q5 0 (by omega) (by omega), l3 0 (by decide), n1]
    have h1 : ∀ i, i < 1483 → w3 1 i = w' 1 i := fun i hi => by rw [l5 i hi, q5 4 (by omega) (by omega), l2 i hi]
    have hz : ∀ z, (z < 5 ∨ 8 < z) → z ≠ 1 → z ≠ 4 → w3 z = w' z := fun z a b c => by rw [l6 z b, q5 z a b, l3 z c]
    refine ⟨if c = KO T len + 1 then -1 else nI c, 0, u', if c = KO T len + 1 then -1 else nI c, w3, ?_, ?_, by omega, ?_, ⟨fun _ => rfl, fun _ => rfl⟩, fun _ => rfl, IV_let q4 h1 (fun z hh => hz z (by omega) (by omega) (by omega)) (fun j _ => by rw [hz 0 (by omega) (by omega) (by omega)]) i1⟩
    · rw [q1, bnd_s]
    · rw [l1, bnd_s, q2, bnd_s, l4, bnd_s, e15, i2b _ _ (qi_neq (a := c) (b := KO T len + 1) (by omega) (by omega))]
      by_cases ec : c = KO T len + 1
      · rw [if_pos ec, if_pos ec]
      · rw [if_neg ec, if_neg ec]
    · rw [hz 0 (by omega) (by omega) (by omega), e12]
      rfl
  · rw [if_neg hv, if_neg (nI_m1 (by omega)), rf3, b2_f hv, if_pos rfl, m_ref, bnd_s]
    exact ⟨0, 3, v', 0, _, rfl, rfl, by omega, by show up w' 0 12 1 0 12 = nI (c3 3); rw [up_r, if_pos ⟨rfl, rfl⟩]; rfl, ⟨fun q => absurd q (by decide), fun q => absurd q (by decide)⟩, fun q => absurd q (by decide), IV_th 1 i1⟩
theorem op_carryOut {v : mC} {w : mM} (h : IV v w) : Op c3 (f_X6_carryOut v) (f_X7_carryOut w) := by
  obtain ⟨T, len, hT, hTm⟩ := IVl_T h.2.2.2
  have hlen := hT.1
  have hK := KO_b (T := T) hlen
  have hp := pE_b (T := T) (len := len)
  have hI := IV_th 0 h
  have hTm0 : TXm (up w 0 12 0) T len := TXm_f (by rw [up_r, if_neg (fun q => absurd q.2 (by decide))]) (th_1 w 0 (by decide)) hTm
  obtain ⟨v', g1, g2⟩ := s_find hT
  obtain ⟨w', m1, m2, m3, m4⟩ := m_valid hTm0
  have i1 := IV_mf (CT_o g2) m2 hI
  have e12 : w' 0 12 = 0 := by rw [m2.2 12 (by decide) (by decide), up_r, if_pos ⟨rfl, rfl⟩]
  unfold f_X6_carryOut f_X7_carryOut
  simp only [jn_e, lt_e, g1, m1, bnd_s]
  by_cases hv : VL T len = true
  · obtain ⟨n1, n2⟩ := m4 hv
    rw [if_pos hv, if_pos rfl, b2_t hv, if_neg (show ¬ (1 : Int32) = 0 by decide)]
    obtain ⟨w1, l1, l2, l3⟩ := m_lays2 (k0 := 1) (k2 := 4) (by decide) w'
    have hB : BR v' 0 (w1 1) := by rw [l3 1 (by decide)]; exact i1.1
    obtain ⟨c, u', w2, q1, q2, q3, q4, q5, q6⟩ := try_eq (w := w1) (OF_TX g2 hT) hv (by rw [l3 0 (by decide)]; exact n1) (fun i hi => TO_x (OR_ok (OK_i hv hi)).2 (fun t _ => by rw [l3 10 (by decide)]) (n2 i hi)) hB
    have w15 : w2 0 15 = nI (KO T len + 1) := by rw [q5 0 (by omega) (by omega), l3 0 (by decide), n1]
    have hz2 : ∀ z, (z < 5 ∨ 8 < z) → z ≠ 1 → z ≠ 4 → w2 z = w' z := fun z a b c => by rw [q5 z a b, l3 z c]
    rw [q1, bnd_s, l1, bnd_s, q2, bnd_s]
    dsimp only
    by_cases ec : c = KO T len + 1
    · rw [if_pos ec, if_pos rfl, if_neg (show ¬ (1 : Int32) = 0 by decide), rf0, if_pos (show w2 0 15 ≤ nI c by rw [w15, ec]; exact nI_le (Nat.le_refl _) (by omega))]
      obtain ⟨b1, ⟨k, bk, b2⟩, b3, b4⟩ := i1
      have hk : ∀ o, o ≠ 1 → ∀ k j i, 1 ≤ k → k ≤ 30 → u' (k, o, j) i = v' (k, o, j) i := fun o ho k j i a b => by rw [q4.1 (k, o, j) (kn (by omega) _ _ _ _) (kn (by omega) _ _ _ _) (by show k < 36; omega) (Or.inr (Or.inr ho))]
      have e0 : u' (0, 0, 0) = v' (0, 0, 0) := q4.1 _ (by decide) (by decide) (by show 0 < 36; omega) (Or.inl rfl)
      have R4 : BR u' 0 (w2 4) := BR_x (hk 0 (by decide)) (fun i hi => by rw [q5 4 (by omega) (by omega), l2 i hi]) rfl b1
      have I2 : IVr u' w2 k bk := IVr_x (by rw [e0]) (q4.1 _ (by decide) (by decide) (by show 31 < 36; omega) (Or.inr (Or.inl (by show 30 < 31; omega)))) (fun o o1 o2 => hk o (by omega)) (by rw [hz2 0 (by omega) (by omega) (by omega)]) (hz2 2 (by omega) (by omega) (by omega)) b2
      obtain ⟨v2, w3, p1, p2, ⟨k', bk', p3⟩, p4, p5, p6, p7⟩ := keep_eq (k1 := 4) (Or.inr rfl) R4 I2
      obtain ⟨D, n, m, f, dd, R⟩ := q6 ec
      have R2 : Rl v2 1 (w3 1) D n m f dd := Rl_x (Ag_eq fun k j i c1 c2 => by rw [p4 (k, 1, j) (kn (by omega) _ _ _ _) (kn (by omega) _ _ _ _) (Or.inr (Or.inr (by show 1 < 3; omega)))]) (fun i _ => by rw [p6 1 (by omega) (by omega)]) R
      obtain ⟨v3, s1, s2, s3⟩ := s_copy (v := v2) (o := 0) (o1 := 1) (n := n) (m := m) (f := f) (by omega) R2.2.1.2.2.1 R2.2.1.2.2.2.2.1 R2.2.1.2.2.2.2.2.2.1 R2.1.2.1 R2.1.2.2.1 R2.1.2.2.2
      have R3 : Rl v3 0 (w3 1) D n m f dd := Rl_x s2 (fun _ _ => rfl) R2
      have z32 : v3 (32, 0, 0) = u' (32, 0, 0) := (s3 (32, 0, 0) (Or.inr (Or.inl (by show 30 < 32; omega)))).trans (p4 (32, 0, 0) (by decide) (by decide) (Or.inr (Or.inl (by show 30 < 32; omega))))
      have z33 : v3 (33, 0, 0) = u' (33, 0, 0) := (s3 (33, 0, 0) (Or.inr (Or.inl (by show 30 < 33; omega)))).trans (p4 (33, 0, 0) (by decide) (by decide) (Or.inr (Or.inl (by show 30 < 33; omega))))
      have z31 : v3 (31, 0, 0) = v2 (31, 0, 0) := s3 (31, 0, 0) (Or.inr (Or.inl (by show 30 < 31; omega)))
      have z00 : v3 (0, 0, 0) = v2 (0, 0, 0) := s3 (0, 0, 0) (Or.inl rfl)
      have hT3 : TX v3 T len := TX_f (by rw [z32]) z33 (CT_TX q4 (OF_TX g2 hT))
      have hb2 : ∀ o, o ≠ 0 → ∀ k j i, 1 ≤ k → k ≤ 30 → v3 (k, o, j) i = v2 (k, o, j) i := fun o ho k j i a b => by rw [s3 (k, o, j) (Or.inr (Or.inr ho))]
      have hcnt := s_count hT3
      rw [K_c hv] at hcnt
      refine ⟨nI (KO T len + 1), 0, v3, nI (KO T len + 1), w3, ?_, ?_, by omega, ?_, ⟨fun _ => rfl, fun _ => rfl⟩, fun _ => rfl, ⟨⟨D, n, m, f, dd, R3⟩, ⟨k', bk', IVr_x (by rw [z00]) z31 (fun o o1 o2 => hb2 o (by omega)) rfl rfl p3⟩, ?_, ?_⟩⟩
      · rw [p1, bnd_s, s1, bnd_s, hcnt, bnd_s]
      · rw [p2, bnd_s, p7 15 (by omega), w15]
      · rw [p7 12 (by omega), hz2 0 (by omega) (by omega) (by omega), e12]
        rfl
      · refine IVs_x (v := v') (w := w') (by rw [z00, p5 3 (by omega), e0]) (fun k j i c1 c2 => ?_) (by rw [p7 4 (by omega), hz2 0 (by omega) (by omega) (by omega)]) (by rw [p6 3 (by omega) (by omega), hz2 3 (by omega) (by omega) (by omega)]) b3
        rw [hb2 2 (by decide) k j i c1 c2, p4 (k, 2, j) (kn (by omega) _ _ _ _) (kn (by omega) _ _ _ _) (Or.inr (Or.inr (by show 2 < 3; omega))), hk 2 (by decide) k j i c1 c2]
      · exact IVl_x (v := v') (w := w') (by rw [z32]; exact q4.2) (by rw [z33]; exact q4.1 (33, 0, 0) (by decide) (by decide) (by show 33 < 36; omega) (Or.inr (Or.inl (by show 30 < 33; omega)))) (by rw [p7 11 (by omega), hz2 0 (by omega) (by omega) (by omega)]) (by rw [p6 9 (by omega) (by omega), hz2 9 (by omega) (by omega) (by omega)]) b4
    · rw [if_neg ec, if_neg (nI_m1 (by omega)), if_pos trivial, rf3, if_neg (show ¬ w2 0 15 ≤ nI c by rw [w15]; exact nI_ge (by omega) (by omega))]
      obtain ⟨w3, l4, l5, l6⟩ := m_lays2 (k0 := 4) (k2 := 1) (by decide) w2
      have h1 : ∀ i, i < 1483 → w3 1 i = w' 1 i := fun i hi => by rw [l5 i hi, q5 4 (by omega) (by omega), l2 i hi]
      have hz : ∀ z, (z < 5 ∨ 8 < z) → z ≠ 1 → z ≠ 4 → w3 z = w' z := fun z a b c => by rw [l6 z b, hz2 z a b c]
      refine ⟨0, 3, u', 0, up w3 0 12 1, rfl, ?_, by omega, by rw [up_r, if_pos ⟨rfl, rfl⟩]; rfl, ⟨fun q => absurd q (by decide), fun q => absurd q (by decide)⟩, fun q => absurd q (by decide), IV_th 1 (IV_let q4 h1 (fun z hh => hz z (by omega) (by omega) (by omega)) (fun j _ => by rw [hz 0 (by omega) (by omega) (by omega)]) i1)⟩
      rw [l4, bnd_s, m_ref, bnd_s]
  · rw [if_neg hv, if_neg (nI_m1 (by omega)), if_pos trivial, rf3, b2_f hv, if_pos rfl, m_ref, bnd_s]
    exact ⟨0, 3, v', 0, _, rfl, rfl, by omega, by show up w' 0 12 1 0 12 = nI (c3 3); rw [up_r, if_pos ⟨rfl, rfl⟩]; rfl, ⟨fun q => absurd q (by decide), fun q => absurd q (by decide)⟩, fun q => absurd q (by decide), IV_th 1 i1⟩
