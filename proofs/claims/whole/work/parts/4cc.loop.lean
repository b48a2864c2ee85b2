/-! THE LAW'S LOOP -/
theorem swt_all {x : Int32} {lo : Int} {es : List (Option Unit)} (h : ∀ e ∈ es, e = some ()) : swt x lo es (some ()) = some () := by
  unfold swt
  split
  · rfl
  · rw [List.getD_eq_getElem?_getD]
    cases hq : es[(x.toInt - lo).toNat]? with
    | none => rfl
    | some e => exact h e (List.mem_of_getElem? hq)
theorem lt_L {t L : Nat} (hL : L ≤ 3584) (ht : t ≤ 4000) (h : ¬ nI L - 7 < nI t) : t + 7 ≤ L := by
  by_cases q : 7 ≤ L
  · rw [show (7 : Int32) = nI 7 from rfl, qi_sub q] at h
    have h2 : ¬ (nI (L - 7)).toInt < (nI t).toInt := fun z => h (Int32.lt_iff_toInt_lt.mpr z)
    rw [qi_I (by omega), qi_I (by omega)] at h2
    omega
  · exfalso
    apply h
    apply Int32.lt_iff_toInt_lt.mpr
    rw [qi_I (show t < 2147483648 by omega)]
    have h3 : (nI L - 7).toInt < 0 := by
      rcases (show L = 0 ∨ L = 1 ∨ L = 2 ∨ L = 3 ∨ L = 4 ∨ L = 5 ∨ L = 6 by omega) with e | e | e | e | e | e | e <;> subst e <;> decide
    omega
set_option maxRecDepth 100000 in
set_option maxHeartbeats 4000000 in
theorem law_turn {P : pS} (hP : Ap P) {Γ : jG Unit} (hG : jOk Γ (lS P) cL_law RL wsL_law room_1) (hN : Γ.2.1 = 7) (hfl : Γ.1.2.1.stackTraces = false) {cs : Nat × Nat} (hcs : cs.1 + 4 ≤ 601024 ∧ cs.2 + 24 ≤ 7293034) {t : Nat} (ht : t + 7 ≤ P.2.2.2.2.2.2.2.1) (hL : P.2.2.2.2.2.2.2.1 ≤ 3584) {v : mC} {w : mM} {o : Nat → Int32} (h : IV v w) (k : ∀ v' w' o', IV v' w' → Sm Γ (lS P) (cs.1 + 4, cs.2 + 24) 2743 (lsB P t) [] (m3 v' w' o') (some ())) : Sm Γ (lS P) cs 33 (lsB P t) [] (m3 v w o) (some ()) := by
  refine sl_arg0 hG (t := t) 34 36 37 rfl rfl rfl 0 4 rfl rfl (by omega) hL dL_law_33 dL_law_34 dL_law_36 ?_
  refine sm_bipush (x := 63) hG 39 rfl dL_law_37 rfl ?_
  refine sm_iand hG 40 rfl dL_law_39 ?_
  have hl : ∀ e ∈ [(some () : Option Unit), (some () : Option Unit), (some () : Option Unit), (some () : Option Unit), (some () : Option Unit), (some () : Option Unit), (some () : Option Unit), (some () : Option Unit), (some () : Option Unit), (some () : Option Unit), (some () : Option Unit), (some () : Option Unit), (some () : Option Unit), (some () : Option Unit), (some () : Option Unit), (some () : Option Unit), (some () : Option Unit), (some () : Option Unit), (some () : Option Unit), (some () : Option Unit), (some () : Option Unit), (some () : Option Unit), (some () : Option Unit), (some () : Option Unit), (some () : Option Unit), (some () : Option Unit), (some () : Option Unit), (some () : Option Unit), (some () : Option Unit), (some () : Option Unit), (some () : Option Unit), (some () : Option Unit), (some () : Option Unit), (some () : Option Unit), (some () : Option Unit), (some () : Option Unit), (some () : Option Unit), (some () : Option Unit), (some () : Option Unit), (some () : Option Unit), (some () : Option Unit), (some () : Option Unit), (some () : Option Unit), (some () : Option Unit), (some () : Option Unit), (some () : Option Unit), (some () : Option Unit), (some () : Option Unit), (some () : Option Unit), (some () : Option Unit)], e = some () := fun e he => by
    simp only [List.mem_cons, List.not_mem_nil, or_false, or_self] at he
    exact he
  rw [← swt_all (x := P.2.2.2.2.2.2.2.2 t &&& 63) (lo := 0) hl]
  refine sm_tsw hG dL_law_40 ⟨rfl, rfl⟩ ?_ (tgt := 2743) rfl (sl_wide ⟨Nat.le_add_right _ _, Nat.le_add_right _ _⟩ (k v w o h))
  refine List.forall_mem_cons.mpr ⟨⟨256, rfl, law_0 hP hG hN hfl hcs ht hL h k⟩, List.forall_mem_cons.mpr ⟨⟨360, rfl, law_1 hP hG hN hfl hcs ht hL h k⟩, List.forall_mem_cons.mpr ⟨⟨416, rfl, law_2 hP hG hN hfl hcs ht hL h k⟩, List.forall_mem_cons.mpr ⟨⟨534, rfl, law_3 hP hG hN hfl hcs ht hL h k⟩, List.forall_mem_cons.mpr ⟨⟨614, rfl, law_4 hP hG hN hfl hcs ht hL h k⟩, List.forall_mem_cons.mpr ⟨⟨694, rfl, law_5 hP hG hN hfl hcs ht hL h k⟩, List.forall_mem_cons.mpr ⟨⟨762, rfl, law_6 hP hG hN hfl hcs ht hL h k⟩, List.forall_mem_cons.mpr ⟨⟨866, rfl, law_7 hP hG hN hfl hcs ht hL h k⟩, List.forall_mem_cons.mpr ⟨⟨922, rfl, law_8 hP hG hN hfl hcs ht hL h k⟩, List.forall_mem_cons.mpr ⟨⟨980, rfl, law_9 hP hG hN hfl hcs ht hL h k⟩, List.forall_mem_cons.mpr ⟨⟨993, rfl, law_10 hP hG hN hfl hcs ht hL h k⟩, List.forall_mem_cons.mpr ⟨⟨1006, rfl, law_11 hP hG hN hfl hcs ht hL h k⟩, List.forall_mem_cons.mpr ⟨⟨1050, rfl, law_12 hP hG hN hfl hcs ht hL h k⟩, List.forall_mem_cons.mpr ⟨⟨1094, rfl, law_13 hP hG hN hfl hcs ht hL h k⟩, List.forall_mem_cons.mpr ⟨⟨1138, rfl, law_14 hP hG hN hfl hcs ht hL h k⟩, List.forall_mem_cons.mpr ⟨⟨1151, rfl, law_15 hP hG hN hfl hcs ht hL h k⟩, List.forall_mem_cons.mpr ⟨⟨1195, rfl, law_16 hP hG hN hfl hcs ht hL h k⟩, List.forall_mem_cons.mpr ⟨⟨1208, rfl, law_17 hP hG hN hfl hcs ht hL h k⟩, List.forall_mem_cons.mpr ⟨⟨1271, rfl, law_18 hP hG hN hfl hcs ht hL h k⟩, List.forall_mem_cons.mpr ⟨⟨1327, rfl, law_19 hP hG hN hfl hcs ht hL h k⟩, List.forall_mem_cons.mpr ⟨⟨1383, rfl, law_20 hP hG hN hfl hcs ht hL h k⟩, List.forall_mem_cons.mpr ⟨⟨1439, rfl, law_21 hP hG hN hfl hcs ht hL h k⟩, List.forall_mem_cons.mpr ⟨⟨1495, rfl, law_22 hP hG hN hfl hcs ht hL h k⟩, List.forall_mem_cons.mpr ⟨⟨1508, rfl, law_23 hP hG hN hfl hcs ht hL h k⟩, List.forall_mem_cons.mpr ⟨⟨1564, rfl, law_24 hP hG hN hfl hcs ht hL h k⟩, List.forall_mem_cons.mpr ⟨⟨1620, rfl, law_25 hP hG hN hfl hcs ht hL h k⟩, List.forall_mem_cons.mpr ⟨⟨1695, rfl, law_26 hP hG hN hfl hcs ht hL h k⟩, List.forall_mem_cons.mpr ⟨⟨1751, rfl, law_27 hP hG hN hfl hcs ht hL h k⟩, List.forall_mem_cons.mpr ⟨⟨1807, rfl, law_28 hP hG hN hfl hcs ht hL h k⟩, List.forall_mem_cons.mpr ⟨⟨1820, rfl, law_29 hP hG hN hfl hcs ht hL h k⟩, List.forall_mem_cons.mpr ⟨⟨1876, rfl, law_30 hP hG hN hfl hcs ht hL h k⟩, List.forall_mem_cons.mpr ⟨⟨1939, rfl, law_31 hP hG hN hfl hcs ht hL h k⟩, List.forall_mem_cons.mpr ⟨⟨2007, rfl, law_32 hP hG hN hfl hcs ht hL h k⟩, List.forall_mem_cons.mpr ⟨⟨2087, rfl, law_33 hP hG hN hfl hcs ht hL h k⟩, List.forall_mem_cons.mpr ⟨⟨2155, rfl, law_34 hP hG hN hfl hcs ht hL h k⟩, List.forall_mem_cons.mpr ⟨⟨2223, rfl, law_35 hP hG hN hfl hcs ht hL h k⟩, List.forall_mem_cons.mpr ⟨⟨2279, rfl, law_36 hP hG hN hfl hcs ht hL h k⟩, List.forall_mem_cons.mpr ⟨⟨2335, rfl, law_37 hP hG hN hfl hcs ht hL h k⟩, List.forall_mem_cons.mpr ⟨⟨2391, rfl, law_38 hP hG hN hfl hcs ht hL h k⟩, List.forall_mem_cons.mpr ⟨⟨2447, rfl, law_39 hP hG hN hfl hcs ht hL h k⟩, List.forall_mem_cons.mpr ⟨⟨2515, rfl, law_40 hP hG hN hfl hcs ht hL h k⟩, List.forall_mem_cons.mpr ⟨⟨2583, rfl, law_41 hP hG hN hfl hcs ht hL h k⟩, List.forall_mem_cons.mpr ⟨⟨2596, rfl, law_42 hP hG hN hfl hcs ht hL h k⟩, List.forall_mem_cons.mpr ⟨⟨2652, rfl, law_43 hP hG hN hfl hcs ht hL h k⟩, List.forall_mem_cons.mpr ⟨⟨2665, rfl, law_44 hP hG hN hfl hcs ht hL h k⟩, List.forall_mem_cons.mpr ⟨⟨2678, rfl, law_45 hP hG hN hfl hcs ht hL h k⟩, List.forall_mem_cons.mpr ⟨⟨2691, rfl, law_46 hP hG hN hfl hcs ht hL h k⟩, List.forall_mem_cons.mpr ⟨⟨2704, rfl, law_47 hP hG hN hfl hcs ht hL h k⟩, List.forall_mem_cons.mpr ⟨⟨2717, rfl, law_48 hP hG hN hfl hcs ht hL h k⟩, List.forall_mem_cons.mpr ⟨⟨2730, rfl, law_49 hP hG hN hfl hcs ht hL h k⟩, fun _ h => nomatch h⟩⟩⟩⟩⟩⟩⟩⟩⟩⟩⟩⟩⟩⟩⟩⟩⟩⟩⟩⟩⟩⟩⟩⟩⟩⟩⟩⟩⟩⟩⟩⟩⟩⟩⟩⟩⟩⟩⟩⟩⟩⟩⟩⟩⟩⟩⟩⟩⟩⟩
theorem law_loop {P : pS} (hP : Ap P) {Γ : jG Unit} (hG : jOk Γ (lS P) cL_law RL wsL_law room_1) (hN : Γ.2.1 = 7) (hfl : Γ.1.2.1.stackTraces = false) (hL : P.2.2.2.2.2.2.2.1 ≤ 3584) (hE : ∀ (cs : Nat × Nat) (ls : List (Nat × Value)) (v : mS), cs.1 ≤ 601024 → cs.2 ≤ 7293034 → Sm Γ (lS P) cs 2749 ls [] v (some ())) : ∀ (n t : Nat) (cs : Nat × Nat) (v : mC) (w : mM) (o : Nat → Int32), IV v w → cs.1 + 4 * n ≤ 601024 → cs.2 + 24 * n ≤ 7293034 → P.2.2.2.2.2.2.2.1 < t + 7 * n + 7 → t ≤ 3584 → Sm Γ (lS P) cs 23 (lsB P t) [] (m3 v w o) (some ()) := by
  intro n
  induction n with
  | zero =>
    intro t cs v w o h hc1 hc2 hn ht
    refine sm_iload hG 25 rfl dL_law_23 4 rfl ?_
    refine sm_aload_n hG 26 rfl dL_law_25 rfl 0 rfl ?_
    refine sl_slen hG 27 rfl dL_law_26 ?_
    refine sm_bipush (x := 7) hG 29 rfl dL_law_27 rfl ?_
    refine sm_isub hG 30 rfl dL_law_29 ?_
    refine sl_igt hG 2749 33 rfl dL_law_30 (by decide) (fun _ => hE _ _ _ (by omega) (by omega)) (fun hle => ?_)
    have := lt_L hL (by omega) hle
    omega
  | succ n ih =>
    intro t cs v w o h hc1 hc2 hn ht
    refine sm_iload hG 25 rfl dL_law_23 4 rfl ?_
    refine sm_aload_n hG 26 rfl dL_law_25 rfl 0 rfl ?_
    refine sl_slen hG 27 rfl dL_law_26 ?_
    refine sm_bipush (x := 7) hG 29 rfl dL_law_27 rfl ?_
    refine sm_isub hG 30 rfl dL_law_29 ?_
    refine sl_igt hG 2749 33 rfl dL_law_30 (by decide) (fun _ => hE _ _ _ (by omega) (by omega)) (fun hle => ?_)
    have h7 := lt_L hL (by omega) hle
    refine law_turn hP hG hN hfl ⟨by omega, by omega⟩ h7 hL h (fun v' w' o' h' => ?_)
    refine sm_iinc hG (x := nI t) (y := nI (t + 7)) 2746 rfl dL_law_2743 (j := 4) rfl (by rw [show Int32.ofInt 7 = nI 7 from rfl, qi_add]) (jlt hN rfl) [(4, .int (nI (t + 7))), (0, .ref P.2.2.2.2.2.2.1), (1, .ref (P.2.2.1 (0, 0, 0))), (2, .ref (P.2.2.2.1 0)), (3, .ref P.2.2.2.2.1)] rfl ?_
    refine sm_goto hG 23 dL_law_2746 (by decide) ?_
    refine sm_loc [1, 2, 3, 4, 0] (lsB P (t + 7)) rfl ?_
    exact ih (t + 7) (cs.1 + 4, cs.2 + 24) v' w' o' h' (by show cs.1 + 4 + 4 * n ≤ _; omega) (by show cs.2 + 24 + 24 * n ≤ _; omega) (by omega) (by omega)
