/-! the method choirs -/
set_option maxRecDepth 100000 in
set_option maxHeartbeats 4000000 in
theorem t_L_choirs {l : Launch} (hfl : l.stackTraces = false) {r : Int32} (hr : f_L_choirs = some r) : Tn l yL_choirs wsL_choirs rmL_choirs r := by
  intro D g sz
  refine Met.ofW (cc := cL_choirs) (maxL := 2) (ret := some .boolean) (by decide) rfl ?_
  intro p e s m args' below meth c s₁ B hml hv
  obtain ⟨rfl, hsz, hK, hW⟩ := hv
  subst hsz
  obtain ⟨⟨x0, w0⟩, hb, hx0⟩ := Option.map_eq_some_iff.mp hr
  cases hx0
  have hG : cO2 (p, l, e, rmL_choirs, s, m, ([] : List Value).toArray, below, meth, c) 2 D g (fun q => s.heap.size ≤ q) cL_choirs "ChoirRegisterLaw" wsL_choirs rmL_choirs := ⟨⟨B.exec, B.bytes, hml, findClass_of_methodNamed B.named, atoms_spec (ws := wsL_choirs) B.pre⟩, ⟨hK, rfl, fun _ h => h, hW.1⟩, trivial⟩
  have key : Sc (p, l, e, rmL_choirs, s, m, ([] : List Value).toArray, below, meth, c) 2 (MQ below (fun _ st o t => o = .returned (some (.int x0)) ∧ va_F (fun q => s.heap.size ≤ q) st t) ([] : List Value).toArray s rmL_choirs.cells rmL_choirs.slots (fun q => s.heap.size ≤ q)) D (fun q => s.heap.size ≤ q) (0, 0) 0 [] [] [] := by
    refine sd_new (ci := 6) (fs := [.null, .null, .null, .int 0, .null, .int 0, .null, .null]) hG tyX6 3 rfl rfl (fun w h => List.mem_cons_of_mem _ (List.mem_append_left _ (List.mem_append_left _ (List.mem_append_left _ (List.mem_append_left _ (List.mem_append_left _ (List.mem_append_left _ (List.mem_append_left _ (List.mem_append_left _ (List.mem_append_left _ (List.mem_append_right _ h))))))))))) tyX6_ok (by decide +kernel) (by decide +kernel) (by decide +kernel) (by decide) (1, 8) ⟨rfl, rfl⟩ ⟨Nat.le_of_ble_eq_true rfl, Nat.le_of_ble_eq_true rfl⟩ dL_choirs_0 (fun x => ?_)
    refine sd_dup hG 4 rfl dL_choirs_3 rfl ?_
    refine sd_call (wr := []) hG 7 rfl rfl (c_X6_init : Cn l _ _ _ _ _ _ _ _) (by decide +kernel) gL_choirs_X6_init (by decide +kernel) (by decide +kernel) rfl (by decide) rfl (by decide) (Nat.le_of_ble_eq_true rfl) (753, 10921) ⟨rfl, rfl⟩ ⟨Nat.le_of_ble_eq_true rfl, Nat.le_of_ble_eq_true rfl⟩ dL_choirs_4 (fun w1 hw1 => ?_)
    obtain ⟨q, B1, LL, LN, rfl⟩ := hw1
    refine sd_astore hG 8 rfl dL_choirs_7 rfl (by decide) [(0, .ref x)] rfl ?_
    intro a H locs ha hP hD hS
    rw [List.nil_append] at hP hD
    obtain ⟨h1, h2, hR⟩ := start_Y hP hD
    have hC : LC (lY D g (adK x q B1 LL LN) s.heap.size) := lY_ok h1 h2
    have hG2 : jOk (((p, l, e, rmL_choirs, s, m, ([] : List Value).toArray, below, meth, c), 2, fun (z : Int32 × mC) => MQ below (fun _ st o t => o = .returned (some (.int z.1)) ∧ Rp (lY D g (adK x q B1 LL LN) s.heap.size) z.2 t.heap ∧ va_F (fun q => s.heap.size ≤ q) st t) ([] : List Value).toArray s rmL_choirs.cells rmL_choirs.slots (fun q => s.heap.size ≤ q)) : jG (Int32 × mC)) (lY D g (adK x q B1 LL LN) s.heap.size) cL_choirs "ChoirRegisterLaw" wsL_choirs rmL_choirs := ⟨B.exec, B.bytes, hml, findClass_of_methodNamed B.named, atoms_spec (ws := wsL_choirs) B.pre, hK, hC.1, rfl, Nat.le_refl _, hW⟩
    have k := cb_L_choirs hC hfl lY_nc hG2 ⟨fun _ => rfl, B.returns, B.notSynchronized⟩ rfl rfl _ hb a H locs ha hR hS
    intro T hT X
    obtain ⟨t, a1, o, b1, b2, b3, b4⟩ := k T hT X
    exact ⟨t, a1, o, b1, b2, ⟨b3.1, b3.2.2⟩, b4⟩
  have hl := lv_entry ([] : List Value) (n := 2) (Nat.le_of_ble_eq_true rfl)
  rw [lg_entry_eq]
  exact key _ s.heap [] hl (fun i x h => by simp at h) ⟨fun i j p q h => by simp at h, fun i x h => by simp at h⟩ va_S.rf
