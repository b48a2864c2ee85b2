/-! THE LETTER: the class reads an order -/
theorem TX_f {v v' : mC} {T : Nat → Nat} {len : Nat} (h1 : v' (32, 0, 0) 1 = v (32, 0, 0) 1) (h2 : v' (33, 0, 0) = v (33, 0, 0)) (h : TX v T len) : TX v' T len :=
  ⟨h.1, by rw [h1]; exact h.2.1, by rw [h2]; exact h.2.2⟩
/-- what an order's reading may touch -/
def OF (v v' : mC) : Prop := (∀ z, z ≠ (32, 0, 0) → z ≠ (34, 0, 0) → v' z = v z) ∧ v' (32, 0, 0) 1 = v (32, 0, 0) 1
theorem OF_t {u v x : mC} (h1 : OF u v) (h2 : OF v x) : OF u x := ⟨fun z a b => (h2.1 z a b).trans (h1.1 z a b), h2.2.trans h1.2⟩
theorem OF_TX {v v' : mC} {T : Nat → Nat} {len : Nat} (h : OF v v') (hT : TX v T len) : TX v' T len := TX_f h.2 (h.1 _ (by decide) (by decide)) hT
theorem OF_r (v : mC) : OF v v := ⟨fun _ _ _ => rfl, rfl⟩
theorem s_parts {w0 : mC} {T : Nat → Nat} {len k : Nat} (hk : k < 7) (h0 : w0 (32, 0, 0) 3 = nI k) : ∀ (r i a fuel : Nat) (v : mC), TX v T len → v (32, 0, 0) 2 = nI a → a ≤ len → v (32, 0, 0) 3 = nI k → fpN k ≤ i → i + r = fpN (k + 1) → r < fuel →
    ∃ v', lp (fun _ _ => none) (L_X2_readOrder_49 w0) fuel (nI i) v = some (b2 ((po T len r i a).1 = true), v') ∧ OF v v' ∧ v' (32, 0, 0) 3 = nI k ∧ v' (32, 0, 0) 2 = nI (po T len r i a).2.1 ∧
      (∀ j, j < i - fpN k → v' (34, 0, 0) j = v (34, 0, 0) j) ∧ ((po T len r i a).1 = true → ∀ j, i ≤ j → j < fpN (k + 1) → v' (34, 0, 0) (j - fpN k) = nI ((po T len r i a).2.2 j))
  | 0, i, a, fuel, v, hT, h2, ha, h3, hi, hr, hf => by
    obtain ⟨m, rfl⟩ : ∃ m, fuel = m + 1 := ⟨fuel - 1, by omega⟩
    obtain ⟨f1, f2, f3⟩ := pt_f k hk
    have ei : i = fpN (k + 1) := by omega
    refine ⟨v, ?_, OF_r v, h3, h2, fun _ _ => rfl, fun _ j j1 j2 => absurd j2 (by omega)⟩
    show L_X2_readOrder_49 w0 _ (nI i) v = _
    unfold L_X2_readOrder_49
    rw [h3, nI_1 k, qi_inb (show k + 1 < 8 by omega) (by omega), ck_t, qi_ix (by omega), lt_e, pt_fp (k + 1) (by omega), if_pos (show nI (fpN (k + 1)) ≤ nI i from nI_le (by omega) (by omega)), zb_1, ck_t, po_0, b2_t rfl]
  | r + 1, i, a, fuel, v, hT, h2, ha, h3, hi, hr, hf => by
    obtain ⟨m, rfl⟩ : ∃ m, fuel = m + 1 := ⟨fuel - 1, by omega⟩
    obtain ⟨f1, f2, f3⟩ := pt_f k hk
    have body := s_part (v := v) (w0 := w0) (T := T) (len := len) (k := k) (i := i) (a := a) hT h2 ha hk h3 h0 hi (by omega) (lp (fun _ _ => none) (L_X2_readOrder_49 w0) m)
    have e1 : lp (fun _ _ => none) (L_X2_readOrder_49 w0) (m + 1) (nI i) v = L_X2_readOrder_49 w0 (lp (fun _ _ => none) (L_X2_readOrder_49 w0) m) (nI i) v := rfl
    rw [e1, body]
    by_cases p : i = 4 ∧ ¬ (a < len ∧ T a = 98)
    · rw [if_pos p, po_b p]
      obtain ⟨u, hu⟩ : ∃ u, u = up (up v (32, 0, 0) 5 0) (34, 0, 0) (i - fpN k) 0 := ⟨_, rfl⟩
      have u32 : ∀ j, j ≠ 5 → u (32, 0, 0) j = v (32, 0, 0) j := fun j hj => by rw [hu, up_r, if_neg (fun q => absurd q.1 (by decide)), up_r, if_neg (fun q => hj q.2)]
      have u34 : ∀ j, u (34, 0, 0) j = if j = i - fpN k then 0 else v (34, 0, 0) j := fun j => by
        rw [hu, up_r]
        by_cases e : j = i - fpN k
        · rw [if_pos ⟨rfl, e⟩, if_pos e]
        · rw [if_neg (fun q => e q.2), if_neg e, up_r, if_neg (fun q => absurd q.1 (by decide))]
      have hO : OF v u := ⟨fun z a b => by rw [hu]; exact funext fun j => by rw [up_r, if_neg (fun q => b q.1), up_r, if_neg (fun q => a q.1)], u32 1 (by omega)⟩
      obtain ⟨v', g1, g2, g3, g4, g5, g6⟩ := s_parts hk h0 r (i + 1) a m u (OF_TX hO hT) (by rw [u32 2 (by omega)]; exact h2) ha (by rw [u32 3 (by omega)]; exact h3) (by omega) (by omega) (by omega)
      rw [← hu]
      refine ⟨v', g1, OF_t hO g2, g3, g4, fun j hj => ?_, fun ok j j1 j2 => ?_⟩
      · rw [g5 j (by omega), u34, if_neg (by omega)]
      · show _ = nI (if j = i then 0 else _)
        by_cases e : j = i
        · rw [if_pos e, e, g5 _ (by omega), u34, if_pos rfl]
          rfl
        · rw [if_neg e]
          exact g6 ok j (by omega) j2
    · rw [if_neg p]
      by_cases p2 : a < len ∧ T a = sgN i
      · rw [if_pos p2]
        have hb := scN_b (T := T) (i := i) p2.1
        have V2 : VN v T len i a (32, 0, 0) 2 = nI (scN T len i a).1 := st_2 _ _ _
        have VO : ∀ z, z ≠ (32, 0, 0) → VN v T len i a z = v z := fun z hz => by
          unfold VN
          rw [st_o _ _ _ hz]
          exact funext fun j => by rw [up_r, if_neg (fun q => hz q.1)]
        have V1 : ∀ j, j ≠ 2 → j ≠ 5 → VN v T len i a (32, 0, 0) j = v (32, 0, 0) j := fun j a b => by
          unfold VN st
          rw [up_r, if_neg (fun q => a q.2), up_r, if_neg (fun q => b q.2), up_r, if_neg (fun q => a q.2)]
        by_cases p3 : okN T len i a = true
        · rw [if_pos p3, po_y p p2 p3]
          obtain ⟨u, hu⟩ : ∃ u, u = up (VN v T len i a) (34, 0, 0) (i - fpN k) (nI (scN T len i a).2.1) := ⟨_, rfl⟩
          have u32 : u (32, 0, 0) = VN v T len i a (32, 0, 0) := by rw [hu]; exact funext fun j => by rw [up_r, if_neg (fun q => absurd q.1 (by decide))]
          have u34 : ∀ j, u (34, 0, 0) j = if j = i - fpN k then nI (scN T len i a).2.1 else v (34, 0, 0) j := fun j => by
            rw [hu, up_r]
            by_cases e : j = i - fpN k
            · rw [if_pos ⟨rfl, e⟩, if_pos e]
            · rw [if_neg (fun q => e q.2), if_neg e, VO _ (by decide)]
          have hO : OF v u := ⟨fun z a b => by rw [hu, ← VO z a]; exact funext fun j => by rw [up_r, if_neg (fun q => b q.1)], by rw [u32]; exact V1 1 (by omega) (by omega)⟩
          obtain ⟨v', g1, g2, g3, g4, g5, g6⟩ := s_parts hk h0 r (i + 1) (scN T len i a).1 m u (OF_TX hO hT) (by rw [u32]; exact V2) hb.2 (by rw [u32, V1 3 (by omega) (by omega)]; exact h3) (by omega) (by omega) (by omega)
          rw [← hu]
          refine ⟨v', g1, OF_t hO g2, g3, g4, fun j hj => ?_, fun ok j j1 j2 => ?_⟩
          · rw [g5 j (by omega), u34, if_neg (by omega)]
          · show _ = nI (if j = i then _ else _)
            by_cases e : j = i
            · rw [if_pos e, e, g5 _ (by omega), u34, if_pos rfl]
            · rw [if_neg e]
              exact g6 ok j (by omega) j2
        · rw [if_neg p3, po_n p p2 p3]
          exact ⟨VN v T len i a, by rw [b2_f Bool.false_ne_true], ⟨fun z a _ => VO z a, V1 1 (by omega) (by omega)⟩, by rw [V1 3 (by omega) (by omega)]; exact h3, V2, fun j _ => by rw [VO _ (by decide)], fun ok => absurd ok Bool.false_ne_true⟩
      · rw [if_neg p2, po_x p p2]
        exact ⟨v, by rw [b2_f Bool.false_ne_true], OF_r v, h3, h2, fun _ _ => rfl, fun ok => absurd ok Bool.false_ne_true⟩
theorem s_kind {c : Nat} (hc : c ≤ 65535) : sIxF (nI c) S_OS 0 = if kd c < 7 then nI (kd c) else -1 := by
  have e : ∀ d : Nat, d < 2147483648 → ((OfNat.ofNat d : Int32) = nI c ↔ c = d) := fun d hd => (qi_neq (a := d) (b := c) hd (by omega)).trans eq_comm
  unfold S_OS kd
  simp only [sIxF, e 106 (by omega), e 102 (by omega), e 108 (by omega), e 110 (by omega), e 111 (by omega), e 120 (by omega), e 116 (by omega)]
  by_cases h1 : c = 106
  · rw [if_pos h1, if_pos h1]; rfl
  rw [if_neg h1, if_neg h1]
  by_cases h2 : c = 102
  · rw [if_pos h2, if_pos h2]; rfl
  rw [if_neg h2, if_neg h2]
  by_cases h3 : c = 108
  · rw [if_pos h3, if_pos h3]; rfl
  rw [if_neg h3, if_neg h3]
  by_cases h4 : c = 110
  · rw [if_pos h4, if_pos h4]; rfl
  rw [if_neg h4, if_neg h4]
  by_cases h5 : c = 111
  · rw [if_pos h5, if_pos h5]; rfl
  rw [if_neg h5, if_neg h5]
  by_cases h6 : c = 120
  · rw [if_pos h6, if_pos h6]; rfl
  rw [if_neg h6, if_neg h6]
  by_cases h7 : c = 116
  · rw [if_pos h7, if_pos h7]; rfl
  rw [if_neg h7, if_neg h7]
  rfl
theorem s_atEnd {v : mC} {len a : Nat} (h1 : v (32, 0, 0) 1 = nI len) (h2 : v (32, 0, 0) 2 = nI a) (hl : len ≤ 1000) (ha : a ≤ 1000) : f_X2_isAtEnd v = some (b2 (len ≤ a)) := by
  unfold f_X2_isAtEnd
  rw [h1, h2, zb_0, zb_1, ck_t, ck_t]
  by_cases p : len ≤ a
  · rw [if_neg (show ¬ nI a < nI len from nI_nlt p (by omega)), b2_t p]
  · rw [if_pos (show nI a < nI len from nI_lt (by omega) (by omega)), b2_f p]
theorem s_order {v : mC} {T : Nat → Nat} {len a : Nat} (hT : TX v T len) (h2 : v (32, 0, 0) 2 = nI a) (ha : a ≤ len) : ∃ v', f_X2_readOrder v = some (b2 ((OR T len a).1 = true), v') ∧ OF v v' ∧ v' (32, 0, 0) 2 = nI (OR T len a).2.1 ∧
    ((OR T len a).1 = true → v' (32, 0, 0) 3 = nI (kd (T a)) ∧ ∀ j, fpN (kd (T a)) ≤ j → j < fpN (kd (T a) + 1) → v' (34, 0, 0) (j - fpN (kd (T a))) = nI ((OR T len a).2.2 j)) := by
  have hlen := hT.1
  have hk3 : ∀ x : Int32, OF v (up v (32, 0, 0) 3 x) := fun x => ⟨fun z a _ => funext fun j => by rw [up_r, if_neg (fun q => a q.1)], by rw [up_r, if_neg (fun q => absurd q.2 (by decide))]⟩
  have h33 : ∀ x : Int32, up v (32, 0, 0) 3 x (32, 0, 0) 3 = x := fun x => by rw [up_r, if_pos ⟨rfl, rfl⟩]
  have h32 : ∀ x : Int32, up v (32, 0, 0) 3 x (32, 0, 0) 2 = nI a := fun x => by rw [up_r, if_neg (fun q => absurd q.2 (by decide))]; exact h2
  unfold f_X2_readOrder
  simp only [jn_e, s_atEnd hT.2.1 h2 (show len ≤ 1000 by omega) (show a ≤ 1000 by omega), bnd_s, b2_if, lt_e, h33, h2]
  by_cases p : a < len
  · obtain ⟨t1, t2⟩ := hT.2.2 a p
    rw [if_neg (show ¬ len ≤ a by omega), qi_inb (show a < 80 by omega) (by omega), ck_t, qi_ix (by omega), t1, s_kind t2]
    by_cases p2 : kd (T a) < 7
    · obtain ⟨f1, f2, f3⟩ := pt_f (kd (T a)) p2
      rw [if_pos p2, OR_y ⟨p, p2⟩, if_pos (show (0 : Int32) ≤ nI (kd (T a)) from nI_le (a := 0) (by omega) (by omega)), qi_inb (show kd (T a) < 8 by omega) (by omega), ck_t, qi_ix (by omega), pt_fp _ (by omega)]
      obtain ⟨v', g1, g2, g3, g4, g5, g6⟩ := s_parts (w0 := up v (32, 0, 0) 3 (nI (kd (T a)))) p2 (h33 _) (fpN (kd (T a) + 1) - fpN (kd (T a))) (fpN (kd (T a))) a 8192 (up v (32, 0, 0) 3 (nI (kd (T a)))) (OF_TX (hk3 _) hT) (h32 _) ha (h33 _) (Nat.le_refl _) (by omega) (by omega)
      exact ⟨v', g1, OF_t (hk3 _) g2, g4, fun ok => ⟨g3, g6 ok⟩⟩
    · rw [if_neg p2, OR_n (fun q => p2 q.2), if_neg (show ¬ (0 : Int32) ≤ -1 by decide), zb_0, ck_t]
      exact ⟨_, by rw [b2_f Bool.false_ne_true], hk3 _, h32 _, fun ok => absurd ok Bool.false_ne_true⟩
  · rw [if_pos (show len ≤ a by omega), OR_n (fun q => p q.1), if_neg (show ¬ (0 : Int32) ≤ -1 by decide), zb_0, ck_t]
    exact ⟨_, by rw [b2_f Bool.false_ne_true], hk3 _, h32 _, fun ok => absurd ok Bool.false_ne_true⟩
