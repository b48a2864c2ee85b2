/-! the methods with an object of their own -/
set_option maxRecDepth 100000 in
set_option maxHeartbeats 4000000 in
theorem t_L_turns {l : Launch} (hfl : l.stackTraces = false) {r : Int32} (hr : f_L_turns = some r) : Tn l yL_turns wsL_turns rmL_turns r := by
  intro D g sz
  refine Met.ofW (cc := cL_turns) (maxL := 3) (ret := some .boolean) (by decide) rfl ?_
  intro p e s m args' below meth c s₁ B hml hv
  obtain ⟨rfl, hsz, hK, hW⟩ := hv
  subst hsz
  obtain ⟨⟨x0, w0⟩, hb, hx0⟩ := Option.map_eq_some_iff.mp hr
  cases hx0
  have hG : cO2 (p, l, e, rmL_turns, s, m, ([] : List Value).toArray, below, meth, c) 3 D g (fun q => s.heap.size ≤ q) cL_turns "ChoirRegisterLaw" wsL_turns rmL_turns := ⟨⟨B.exec, B.bytes, hml, findClass_of_methodNamed B.named, atoms_spec (ws := wsL_turns) B.pre⟩, ⟨hK, rfl, fun _ h => h, hW.1⟩, trivial⟩
  have key : Sc (p, l, e, rmL_turns, s, m, ([] : List Value).toArray, below, meth, c) 3 (MQ below (fun _ st o t => o = .returned (some (.int x0)) ∧ va_F (fun q => s.heap.size ≤ q) st t) ([] : List Value).toArray s rmL_turns.cells rmL_turns.slots (fun q => s.heap.size ≤ q)) D (fun q => s.heap.size ≤ q) (0, 0) 0 [] [] [] := by
    refine sd_new (ci := 6) (fs := [.null, .null, .null, .int 0, .null, .int 0, .null, .null]) hG tyX6 3 rfl rfl (fun w h => List.mem_cons_of_mem _ (List.mem_append_left _ (List.mem_append_left _ (List.mem_append_left _ (List.mem_append_left _ (List.mem_append_left _ (List.mem_append_left _ (List.mem_append_left _ (List.mem_append_left _ (List.mem_append_left _ (List.mem_append_right _ h))))))))))) tyX6_ok (by decide +kernel) (by decide +kernel) (by decide +kernel) (by decide) (1, 8) ⟨rfl, rfl⟩ ⟨Nat.le_of_ble_eq_true rfl, Nat.le_of_ble_eq_true rfl⟩ dL_turns_0 (fun x => ?_)
    refine sd_dup hG 4 rfl dL_turns_3 rfl ?_
    refine sd_call (wr := []) hG 7 rfl rfl (c_X6_init : Cn l _ _ _ _ _ _ _ _) (by decide +kernel) gL_turns_X6_init (by decide +kernel) (by decide +kernel) rfl (by decide) rfl (by decide) (Nat.le_of_ble_eq_true rfl) (753, 10921) ⟨rfl, rfl⟩ ⟨Nat.le_of_ble_eq_true rfl, Nat.le_of_ble_eq_true rfl⟩ dL_turns_4 (fun w1 hw1 => ?_)
    obtain ⟨q, B1, LL, LN, rfl⟩ := hw1
    refine sd_astore hG 8 rfl dL_turns_7 rfl (by decide) [(0, .ref x)] rfl ?_
    intro a H locs ha hP hD hS
    rw [List.nil_append] at hP hD
    obtain ⟨h1, h2, hR⟩ := start_Y hP hD
    have hC : LC (lY D g (adK x q B1 LL LN) s.heap.size) := lY_ok h1 h2
    have hG2 : jOk (((p, l, e, rmL_turns, s, m, ([] : List Value).toArray, below, meth, c), 3, fun (z : Int32 × mC) => MQ below (fun _ st o t => o = .returned (some (.int z.1)) ∧ Rp (lY D g (adK x q B1 LL LN) s.heap.size) z.2 t.heap ∧ va_F (fun q => s.heap.size ≤ q) st t) ([] : List Value).toArray s rmL_turns.cells rmL_turns.slots (fun q => s.heap.size ≤ q)) : jG (Int32 × mC)) (lY D g (adK x q B1 LL LN) s.heap.size) cL_turns "ChoirRegisterLaw" wsL_turns rmL_turns := ⟨B.exec, B.bytes, hml, findClass_of_methodNamed B.named, atoms_spec (ws := wsL_turns) B.pre, hK, hC.1, rfl, Nat.le_refl _, hW⟩
    have k := cb_L_turns hC hfl lY_nc hG2 ⟨fun _ => rfl, B.returns, B.notSynchronized⟩ rfl rfl _ hb a H locs ha hR hS
    intro T hT X
    obtain ⟨t, a1, o, b1, b2, b3, b4⟩ := k T hT X
    exact ⟨t, a1, o, b1, b2, ⟨b3.1, b3.2.2⟩, b4⟩
  have hl := lv_entry ([] : List Value) (n := 3) (Nat.le_of_ble_eq_true rfl)
  rw [lg_entry_eq]
  exact key _ s.heap [] hl (fun i x h => by simp at h) ⟨fun i j p q h => by simp at h, fun i x h => by simp at h⟩ va_S.rf
set_option maxRecDepth 100000 in
set_option maxHeartbeats 4000000 in
theorem t_L_limits {l : Launch} (hfl : l.stackTraces = false) {r : Int32} (hr : f_L_limits = some r) : Tn l yL_limits wsL_limits rmL_limits r := by
  intro D g sz
  refine Met.ofW (cc := cL_limits) (maxL := 2) (ret := some .boolean) (by decide) rfl ?_
  intro p e s m args' below meth c s₁ B hml hv
  obtain ⟨rfl, hsz, hK, hW⟩ := hv
  subst hsz
  obtain ⟨⟨x0, w0⟩, hb, hx0⟩ := Option.map_eq_some_iff.mp hr
  cases hx0
  have hG : cO2 (p, l, e, rmL_limits, s, m, ([] : List Value).toArray, below, meth, c) 2 D g (fun q => s.heap.size ≤ q) cL_limits "ChoirRegisterLaw" wsL_limits rmL_limits := ⟨⟨B.exec, B.bytes, hml, findClass_of_methodNamed B.named, atoms_spec (ws := wsL_limits) B.pre⟩, ⟨hK, rfl, fun _ h => h, hW.1⟩, trivial⟩
  have key : Sc (p, l, e, rmL_limits, s, m, ([] : List Value).toArray, below, meth, c) 2 (MQ below (fun _ st o t => o = .returned (some (.int x0)) ∧ va_F (fun q => s.heap.size ≤ q) st t) ([] : List Value).toArray s rmL_limits.cells rmL_limits.slots (fun q => s.heap.size ≤ q)) D (fun q => s.heap.size ≤ q) (0, 0) 0 [] [] [] := by
    refine sd_new (ci := 6) (fs := [.null, .null, .null, .int 0, .null, .int 0, .null, .null]) hG tyX6 3 rfl rfl (fun w h => List.mem_cons_of_mem _ (List.mem_append_left _ (List.mem_append_left _ (List.mem_append_left _ (List.mem_append_left _ (List.mem_append_left _ (List.mem_append_left _ (List.mem_append_left _ (List.mem_append_left _ (List.mem_append_left _ (List.mem_append_right _ h))))))))))) tyX6_ok (by decide +kernel) (by decide +kernel) (by decide +kernel) (by decide) (1, 8) ⟨rfl, rfl⟩ ⟨Nat.le_of_ble_eq_true rfl, Nat.le_of_ble_eq_true rfl⟩ dL_limits_0 (fun x => ?_)
    refine sd_dup hG 4 rfl dL_limits_3 rfl ?_
    refine sd_call (wr := []) hG 7 rfl rfl (c_X6_init : Cn l _ _ _ _ _ _ _ _) (by decide +kernel) gL_limits_X6_init (by decide +kernel) (by decide +kernel) rfl (by decide) rfl (by decide) (Nat.le_of_ble_eq_true rfl) (753, 10921) ⟨rfl, rfl⟩ ⟨Nat.le_of_ble_eq_true rfl, Nat.le_of_ble_eq_true rfl⟩ dL_limits_4 (fun w1 hw1 => ?_)
    obtain ⟨q, B1, LL, LN, rfl⟩ := hw1
    refine sd_astore hG 8 rfl dL_limits_7 rfl (by decide) [(0, .ref x)] rfl ?_
    intro a H locs ha hP hD hS
    rw [List.nil_append] at hP hD
    obtain ⟨h1, h2, hR⟩ := start_Y hP hD
    have hC : LC (lY D g (adK x q B1 LL LN) s.heap.size) := lY_ok h1 h2
    have hG2 : jOk (((p, l, e, rmL_limits, s, m, ([] : List Value).toArray, below, meth, c), 2, fun (z : Int32 × mC) => MQ below (fun _ st o t => o = .returned (some (.int z.1)) ∧ Rp (lY D g (adK x q B1 LL LN) s.heap.size) z.2 t.heap ∧ va_F (fun q => s.heap.size ≤ q) st t) ([] : List Value).toArray s rmL_limits.cells rmL_limits.slots (fun q => s.heap.size ≤ q)) : jG (Int32 × mC)) (lY D g (adK x q B1 LL LN) s.heap.size) cL_limits "ChoirRegisterLaw" wsL_limits rmL_limits := ⟨B.exec, B.bytes, hml, findClass_of_methodNamed B.named, atoms_spec (ws := wsL_limits) B.pre, hK, hC.1, rfl, Nat.le_refl _, hW⟩
    have k := cb_L_limits hC hfl lY_nc hG2 ⟨fun _ => rfl, B.returns, B.notSynchronized⟩ rfl rfl _ hb a H locs ha hR hS
    intro T hT X
    obtain ⟨t, a1, o, b1, b2, b3, b4⟩ := k T hT X
    exact ⟨t, a1, o, b1, b2, ⟨b3.1, b3.2.2⟩, b4⟩
  have hl := lv_entry ([] : List Value) (n := 2) (Nat.le_of_ble_eq_true rfl)
  rw [lg_entry_eq]
  exact key _ s.heap [] hl (fun i x h => by simp at h) ⟨fun i j p q h => by simp at h, fun i x h => by simp at h⟩ va_S.rf
set_option maxRecDepth 100000 in
set_option maxHeartbeats 4000000 in
theorem t_L_texts {l : Launch} (hfl : l.stackTraces = false) {r : Int32} (hr : f_L_texts = some r) : Tn l yL_texts wsL_texts rmL_texts r := by
  intro D g sz
  refine Met.ofW (cc := cL_texts) (maxL := 2) (ret := some .boolean) (by decide) rfl ?_
  intro p e s m args' below meth c s₁ B hml hv
  obtain ⟨rfl, hsz, hK, hW⟩ := hv
  subst hsz
  obtain ⟨⟨x0, w0⟩, hb, hx0⟩ := Option.map_eq_some_iff.mp hr
  cases hx0
  have hG : cO2 (p, l, e, rmL_texts, s, m, ([] : List Value).toArray, below, meth, c) 2 D g (fun q => s.heap.size ≤ q) cL_texts "ChoirRegisterLaw" wsL_texts rmL_texts := ⟨⟨B.exec, B.bytes, hml, findClass_of_methodNamed B.named, atoms_spec (ws := wsL_texts) B.pre⟩, ⟨hK, rfl, fun _ h => h, hW.1⟩, trivial⟩
  have key : Sc (p, l, e, rmL_texts, s, m, ([] : List Value).toArray, below, meth, c) 2 (MQ below (fun _ st o t => o = .returned (some (.int x0)) ∧ va_F (fun q => s.heap.size ≤ q) st t) ([] : List Value).toArray s rmL_texts.cells rmL_texts.slots (fun q => s.heap.size ≤ q)) D (fun q => s.heap.size ≤ q) (0, 0) 0 [] [] [] := by
    refine sd_new (ci := 6) (fs := [.null, .null, .null, .int 0, .null, .int 0, .null, .null]) hG tyX6 3 rfl rfl (fun w h => List.mem_cons_of_mem _ (List.mem_append_left _ (List.mem_append_left _ (List.mem_append_left _ (List.mem_append_left _ (List.mem_append_left _ (List.mem_append_left _ (List.mem_append_left _ (List.mem_append_left _ (List.mem_append_left _ (List.mem_append_right _ h))))))))))) tyX6_ok (by decide +kernel) (by decide +kernel) (by decide +kernel) (by decide) (1, 8) ⟨rfl, rfl⟩ ⟨Nat.le_of_ble_eq_true rfl, Nat.le_of_ble_eq_true rfl⟩ dL_texts_0 (fun x => ?_)
    refine sd_dup hG 4 rfl dL_texts_3 rfl ?_
    refine sd_call (wr := []) hG 7 rfl rfl (c_X6_init : Cn l _ _ _ _ _ _ _ _) (by decide +kernel) gL_texts_X6_init (by decide +kernel) (by decide +kernel) rfl (by decide) rfl (by decide) (Nat.le_of_ble_eq_true rfl) (753, 10921) ⟨rfl, rfl⟩ ⟨Nat.le_of_ble_eq_true rfl, Nat.le_of_ble_eq_true rfl⟩ dL_texts_4 (fun w1 hw1 => ?_)
    obtain ⟨q, B1, LL, LN, rfl⟩ := hw1
    refine sd_astore hG 8 rfl dL_texts_7 rfl (by decide) [(0, .ref x)] rfl ?_
    intro a H locs ha hP hD hS
    rw [List.nil_append] at hP hD
    obtain ⟨h1, h2, hR⟩ := start_Y hP hD
    have hC : LC (lY D g (adK x q B1 LL LN) s.heap.size) := lY_ok h1 h2
    have hG2 : jOk (((p, l, e, rmL_texts, s, m, ([] : List Value).toArray, below, meth, c), 2, fun (z : Int32 × mC) => MQ below (fun _ st o t => o = .returned (some (.int z.1)) ∧ Rp (lY D g (adK x q B1 LL LN) s.heap.size) z.2 t.heap ∧ va_F (fun q => s.heap.size ≤ q) st t) ([] : List Value).toArray s rmL_texts.cells rmL_texts.slots (fun q => s.heap.size ≤ q)) : jG (Int32 × mC)) (lY D g (adK x q B1 LL LN) s.heap.size) cL_texts "ChoirRegisterLaw" wsL_texts rmL_texts := ⟨B.exec, B.bytes, hml, findClass_of_methodNamed B.named, atoms_spec (ws := wsL_texts) B.pre, hK, hC.1, rfl, Nat.le_refl _, hW⟩
    have k := cb_L_texts hC hfl lY_nc hG2 ⟨fun _ => rfl, B.returns, B.notSynchronized⟩ rfl rfl _ hb a H locs ha hR hS
    intro T hT X
    obtain ⟨t, a1, o, b1, b2, b3, b4⟩ := k T hT X
    exact ⟨t, a1, o, b1, b2, ⟨b3.1, b3.2.2⟩, b4⟩
  have hl := lv_entry ([] : List Value) (n := 2) (Nat.le_of_ble_eq_true rfl)
  rw [lg_entry_eq]
  exact key _ s.heap [] hl (fun i x h => by simp at h) ⟨fun i j p q h => by simp at h, fun i x h => by simp at h⟩ va_S.rf
