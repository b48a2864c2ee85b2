/-! CONSTRUCTORS, walked (printed by wip/whole/genctor.py) -/
/-- fresh rows -/
def arI (g : Nat → ClassId) (n : Nat) : va_E := .inl (g 0, n, .inl (fun _ => 0))
def outI (g : Nat → ClassId) (r : Nat → Nat) : va_E := .inl (g 2, 20, .inr (.inr (.inr (.inr (fun i => if i < 20 then some (r i) else none)))))
def rowL (g : Nat → ClassId) (r : Nat → Nat) (n : Nat) : va_W := (List.range 20).map (fun i => (r i, arI g n))
def rosL (g : Nat → ClassId) (L : Nat → Nat) : va_W := [(L 0, .inr (5, [.int 0, .ref (L 1), .ref (L 2), .ref (L 3), .ref (L 4), .ref (L 5), .ref (L 6), .ref (L 7), .ref (L 8), .ref (L 9), .ref (L 10), .ref (L 11)])), (L 1, arI g 30), (L 2, arI g 30), (L 3, arI g 30), (L 4, arI g 30), (L 5, arI g 30), (L 6, arI g 30), (L 7, arI g 30), (L 8, arI g 30), (L 9, arI g 30), (L 10, arI g 30), (L 11, arI g 30)]
def notL (g : Nat → ClassId) (L : Nat → Nat) : va_W := [(L 0, .inr (4, [.int 0, .ref (L 1), .ref (L 2), .ref (L 3)])), (L 1, arI g 60), (L 2, arI g 60), (L 3, arI g 60)]
def calL (g : Nat → ClassId) (B : Nat → Nat → Nat) : va_W := [(B 3 0, .inr (1, [.int 0, .ref (B 3 1), .ref (B 3 2), .ref (B 3 3), .ref (B 3 4), .ref (B 3 5), .ref (B 3 6), .ref (B 3 7)])), (B 3 1, arI g 20), (B 3 2, arI g 20), (B 3 3, arI g 20)] ++ [(B 3 4, outI g (B 4))] ++ rowL g (B 4) 4 ++ [(B 3 5, outI g (B 5))] ++ rowL g (B 5) 4 ++ [(B 3 6, outI g (B 6))] ++ rowL g (B 6) 4 ++ [(B 3 7, outI g (B 7))] ++ rowL g (B 7) 30
def bokL (g : Nat → ClassId) (B : Nat → Nat → Nat) : va_W := [(B 0 0, .inr (0, [.int 0, .ref (B 1 0), .ref (B 2 0), .ref (B 3 0), .ref (B 0 1), .int 50, .int 0, .int 0, .int 0, .int 0]))] ++ rosL g (B 1) ++ notL g (B 2) ++ calL g B ++ [(B 0 1, arI g 5)]
def letL (g : Nat → ClassId) (L : Nat → Nat) : va_W := [(L 0, .inr (2, [.ref (L 1), .int 0, .int 0, .int (-1), .ref (L 2), .int 0])), (L 1, .inl (g 1, 80, .inl (fun _ => 0))), (L 2, arI g 5)]
def linL (g : Nat → ClassId) (L : Nat → Nat) : va_W := [(L 0, .inr (3, [.ref (L 1), .ref (L 2), .ref (L 3), .ref (L 4), .ref (L 5)])), (L 1, arI g 30), (L 2, arI g 30), (L 3, arI g 4), (L 4, arI g 16), (L 5, arI g 30)]
def refL (g : Nat → ClassId) (L : Nat → Nat) : va_W := [(L 0, .inr (7, [.ref (L 1), .ref (L 2), .int 0, .ref (L 3), .int 0, .ref (L 4), .ref (L 5), .ref (L 6), .ref (L 7), .ref (L 8), .ref (L 9), .int 0, .int 0, .int 0, .ref (L 10), .int 0])), (L 1, arI g 1483), (L 2, arI g 5932), (L 3, arI g 1483), (L 4, arI g 1483), (L 5, arI g 30), (L 6, arI g 4), (L 7, arI g 16), (L 8, arI g 30), (L 9, arI g 80), (L 10, arI g 168)]
def recF (B : Nat → Nat → Nat → Nat) : Nat → Option Nat := va_up (va_up (va_up (va_up (fun _ => none) 0 (some (B 3 0 0))) 1 (some (B 4 0 0))) 2 (some (B 5 0 0))) 3 (some (B 6 0 0))
def regL (g : Nat → ClassId) (h q : Nat) (B : Nat → Nat → Nat → Nat) (LL LN : Nat → Nat) : va_W := (h, .inr (6, [.ref (B 0 0 0), .ref (B 1 0 0), .ref (B 2 0 0), .int 0, .ref q, .int 0, .ref (LL 0), .ref (LN 0)])) :: (q, .inl (g 3, 4, .inr (.inr (.inr (.inr (recF B)))))) :: (bokL g (B 0) ++ bokL g (B 1) ++ bokL g (B 2) ++ letL g LL ++ linL g LN ++ bokL g (B 3) ++ bokL g (B 4) ++ bokL g (B 5) ++ bokL g (B 6))
theorem pd_iff {A : Nat → Prop} {ws : va_W} : va_D A ws ↔ (ws.map Prod.fst).Nodup ∧ ∀ x ∈ ws, A x.1 := by
  constructor
  · intro h
    refine ⟨?_, fun x hx => by
      obtain ⟨i, hi⟩ := List.getElem?_of_mem hx
      exact h.2 i x hi⟩
    refine List.pairwise_iff_getElem.mpr (fun i j hi hj hij e => ?_)
    rw [List.length_map] at hi hj
    rw [List.getElem_map, List.getElem_map] at e
    have := h.1 i j _ _ (List.getElem?_eq_getElem hi) (List.getElem?_eq_getElem hj) e
    omega
  · intro ⟨h1, h2⟩
    refine ⟨fun i j a b hi hj e => ?_, fun i x hi => h2 x (List.mem_of_getElem? hi)⟩
    refine nd_inj h1 (x := a.1) (by rw [List.getElem?_map, hi]; rfl) (by rw [List.getElem?_map, hj, e]; rfl)
theorem pp_iff {D : va_G} {ws : va_W} {H : Heap} : va_P D vwCl ws H ↔ ∀ x ∈ ws, va_at D vwCl x H :=
  ⟨fun h x hx => by
    obtain ⟨i, hi⟩ := List.getElem?_of_mem hx
    exact h i x hi, fun h i x hi => h x (List.mem_of_getElem? hi)⟩
theorem sc_perm {E : jE} {mL : Nat} {Q : State → Prop} {D : va_G} {A : Nat → Prop} {cs : Nat × Nat} {pc : Nat} {ls : List (Nat × Value)} {st : List Value} {ws ws2 : va_W} (h : ws.Perm ws2) (k : Sc E mL Q D A cs pc ls st ws2) : Sc E mL Q D A cs pc ls st ws := fun a H locs ha hP hD hS =>
  k a H locs ha (pp_iff.mpr fun x hx => pp_iff.mp hP x (h.mem_iff.mpr hx)) (pd_iff.mpr ⟨((h.map Prod.fst).nodup_iff).mp (pd_iff.mp hD).1, fun x hx => (pd_iff.mp hD).2 x (h.mem_iff.mpr hx)⟩) hS
abbrev rmX5_init : Room := { frames := 1, cells := 11, slots := 330, locals := 12 }
set_option maxRecDepth 100000 in
set_option maxHeartbeats 8000000 in
theorem c_X5_init {l : Launch} {D : va_G} {g : Nat → ClassId} : Cn l yX5_init wsX5_init rmX5_init D g 5 [.int 0, .null, .null, .null, .null, .null, .null, .null, .null, .null, .null, .null] (fun h ws => ∃ L : Nat → Nat, L 0 = h ∧ ws = rosL g L) := by
  refine cn_of (cc := cX5_init) (maxL := 1) (by decide) rfl (by decide) rfl (fun E h Q hG hl hQ => ?_)
  refine sc_aload hG 1 rfl dX5_init_0 rfl 0 rfl ?_
  refine sc_obj hG 4 rfl (by decide +kernel) (by decide +kernel) (by decide +kernel) dX5_init_1 (by decide) (by decide) ?_
  refine sc_aload hG 5 rfl dX5_init_4 rfl 0 rfl ?_
  refine sc_iconst (x := (0 : Int32)) hG 6 rfl dX5_init_5 rfl ?_
  refine sc_put (q0 := 0) (ci := 5) (j := 0) (ty0 := tyX5) hG 9 rfl rfl rfl (by decide +kernel) tyX5_ok nmX5 (by decide) rfl rfl (by decide +kernel) rfl rfl (Nat.le_of_ble_eq_true rfl) dX5_init_6 ((h, .inr (5, [.int 0, .null, .null, .null, .null, .null, .null, .null, .null, .null, .null, .null])) :: ([])) rfl ?_
  refine sc_aload hG 10 rfl dX5_init_9 rfl 0 rfl ?_
  refine sc_bipush (x := (30 : Int32)) hG 12 rfl dX5_init_10 rfl ?_
  refine sc_newi (N := 30) hG 14 rfl (by decide +kernel) (by decide) rfl (Nat.le_of_ble_eq_true rfl) (1, 30) ⟨rfl, rfl⟩ ⟨Nat.le_of_ble_eq_true rfl, Nat.le_of_ble_eq_true rfl⟩ dX5_init_12 (fun q1 => ?_)
  refine sc_putF (q0 := 0) (ci := 5) (j := 1) (ty0 := tyX5) hG 17 rfl rfl rfl (by decide +kernel) tyX5_ok nmX5 (by decide) rfl rfl rfl (by decide +kernel) rfl rfl (Nat.le_of_ble_eq_true rfl) dX5_init_14 ((h, .inr (5, [.int 0, .ref q1, .null, .null, .null, .null, .null, .null, .null, .null, .null, .null])) :: ([(q1, arI g 30)])) rfl ?_
  refine sc_aload hG 18 rfl dX5_init_17 rfl 0 rfl ?_
  refine sc_bipush (x := (30 : Int32)) hG 20 rfl dX5_init_18 rfl ?_
  refine sc_newi (N := 30) hG 22 rfl (by decide +kernel) (by decide) rfl (Nat.le_of_ble_eq_true rfl) (2, 60) ⟨rfl, rfl⟩ ⟨Nat.le_of_ble_eq_true rfl, Nat.le_of_ble_eq_true rfl⟩ dX5_init_20 (fun q2 => ?_)
  refine sc_putF (q0 := 0) (ci := 5) (j := 2) (ty0 := tyX5) hG 25 rfl rfl rfl (by decide +kernel) tyX5_ok nmX5 (by decide) rfl rfl rfl (by decide +kernel) rfl rfl (Nat.le_of_ble_eq_true rfl) dX5_init_22 ((h, .inr (5, [.int 0, .ref q1, .ref q2, .null, .null, .null, .null, .null, .null, .null, .null, .null])) :: ([(q1, arI g 30)] ++ [(q2, arI g 30)])) rfl ?_
  refine sc_aload hG 26 rfl dX5_init_25 rfl 0 rfl ?_
  refine sc_bipush (x := (30 : Int32)) hG 28 rfl dX5_init_26 rfl ?_
  refine sc_newi (N := 30) hG 30 rfl (by decide +kernel) (by decide) rfl (Nat.le_of_ble_eq_true rfl) (3, 90) ⟨rfl, rfl⟩ ⟨Nat.le_of_ble_eq_true rfl, Nat.le_of_ble_eq_true rfl⟩ dX5_init_28 (fun q3 => ?_)
  refine sc_putF (q0 := 0) (ci := 5) (j := 3) (ty0 := tyX5) hG 33 rfl rfl rfl (by decide +kernel) tyX5_ok nmX5 (by decide) rfl rfl rfl (by decide +kernel) rfl rfl (Nat.le_of_ble_eq_true rfl) dX5_init_30 ((h, .inr (5, [.int 0, .ref q1, .ref q2, .ref q3, .null, .null, .null, .null, .null, .null, .null, .null])) :: ([(q1, arI g 30)] ++ [(q2, arI g 30)] ++ [(q3, arI g 30)])) rfl ?_
  refine sc_aload hG 34 rfl dX5_init_33 rfl 0 rfl ?_
  refine sc_bipush (x := (30 : Int32)) hG 36 rfl dX5_init_34 rfl ?_
  refine sc_newi (N := 30) hG 38 rfl (by decide +kernel) (by decide) rfl (Nat.le_of_ble_eq_true rfl) (4, 120) ⟨rfl, rfl⟩ ⟨Nat.le_of_ble_eq_true rfl, Nat.le_of_ble_eq_true rfl⟩ dX5_init_36 (fun q4 => ?_)
  refine sc_putF (q0 := 0) (ci := 5) (j := 4) (ty0 := tyX5) hG 41 rfl rfl rfl (by decide +kernel) tyX5_ok nmX5 (by decide) rfl rfl rfl (by decide +kernel) rfl rfl (Nat.le_of_ble_eq_true rfl) dX5_init_38 ((h, .inr (5, [.int 0, .ref q1, .ref q2, .ref q3, .ref q4, .null, .null, .null, .null, .null, .null, .null])) :: ([(q1, arI g 30)] ++ [(q2, arI g 30)] ++ [(q3, arI g 30)] ++ [(q4, arI g 30)])) rfl ?_
  refine sc_aload hG 42 rfl dX5_init_41 rfl 0 rfl ?_
  refine sc_bipush (x := (30 : Int32)) hG 44 rfl dX5_init_42 rfl ?_
  refine sc_newi (N := 30) hG 46 rfl (by decide +kernel) (by decide) rfl (Nat.le_of_ble_eq_true rfl) (5, 150) ⟨rfl, rfl⟩ ⟨Nat.le_of_ble_eq_true rfl, Nat.le_of_ble_eq_true rfl⟩ dX5_init_44 (fun q5 => ?_)
  refine sc_putF (q0 := 0) (ci := 5) (j := 5) (ty0 := tyX5) hG 49 rfl rfl rfl (by decide +kernel) tyX5_ok nmX5 (by decide) rfl rfl rfl (by decide +kernel) rfl rfl (Nat.le_of_ble_eq_true rfl) dX5_init_46 ((h, .inr (5, [.int 0, .ref q1, .ref q2, .ref q3, .ref q4, .ref q5, .null, .null, .null, .null, .null, .null])) :: ([(q1, arI g 30)] ++ [(q2, arI g 30)] ++ [(q3, arI g 30)] ++ [(q4, arI g 30)] ++ [(q5, arI g 30)])) rfl ?_
  refine sc_aload hG 50 rfl dX5_init_49 rfl 0 rfl ?_
  refine sc_bipush (x := (30 : Int32)) hG 52 rfl dX5_init_50 rfl ?_
  refine sc_newi (N := 30) hG 54 rfl (by decide +kernel) (by decide) rfl (Nat.le_of_ble_eq_true rfl) (6, 180) ⟨rfl, rfl⟩ ⟨Nat.le_of_ble_eq_true rfl, Nat.le_of_ble_eq_true rfl⟩ dX5_init_52 (fun q6 => ?_)
  refine sc_putF (q0 := 0) (ci := 5) (j := 6) (ty0 := tyX5) hG 57 rfl rfl rfl (by decide +kernel) tyX5_ok nmX5 (by decide) rfl rfl rfl (by decide +kernel) rfl rfl (Nat.le_of_ble_eq_true rfl) dX5_init_54 ((h, .inr (5, [.int 0, .ref q1, .ref q2, .ref q3, .ref q4, .ref q5, .ref q6, .null, .null, .null, .null, .null])) :: ([(q1, arI g 30)] ++ [(q2, arI g 30)] ++ [(q3, arI g 30)] ++ [(q4, arI g 30)] ++ [(q5, arI g 30)] ++ [(q6, arI g 30)])) rfl ?_
  refine sc_aload hG 58 rfl dX5_init_57 rfl 0 rfl ?_
  refine sc_bipush (x := (30 : Int32)) hG 60 rfl dX5_init_58 rfl ?_
  refine sc_newi (N := 30) hG 62 rfl (by decide +kernel) (by decide) rfl (Nat.le_of_ble_eq_true rfl) (7, 210) ⟨rfl, rfl⟩ ⟨Nat.le_of_ble_eq_true rfl, Nat.le_of_ble_eq_true rfl⟩ dX5_init_60 (fun q7 => ?_)
  refine sc_putF (q0 := 0) (ci := 5) (j := 7) (ty0 := tyX5) hG 65 rfl rfl rfl (by decide +kernel) tyX5_ok nmX5 (by decide) rfl rfl rfl (by decide +kernel) rfl rfl (Nat.le_of_ble_eq_true rfl) dX5_init_62 ((h, .inr (5, [.int 0, .ref q1, .ref q2, .ref q3, .ref q4, .ref q5, .ref q6, .ref q7, .null, .null, .null, .null])) :: ([(q1, arI g 30)] ++ [(q2, arI g 30)] ++ [(q3, arI g 30)] ++ [(q4, arI g 30)] ++ [(q5, arI g 30)] ++ [(q6, arI g 30)] ++ [(q7, arI g 30)])) rfl ?_
  refine sc_aload hG 66 rfl dX5_init_65 rfl 0 rfl ?_
  refine sc_bipush (x := (30 : Int32)) hG 68 rfl dX5_init_66 rfl ?_
  refine sc_newi (N := 30) hG 70 rfl (by decide +kernel) (by decide) rfl (Nat.le_of_ble_eq_true rfl) (8, 240) ⟨rfl, rfl⟩ ⟨Nat.le_of_ble_eq_true rfl, Nat.le_of_ble_eq_true rfl⟩ dX5_init_68 (fun q8 => ?_)
  refine sc_putF (q0 := 0) (ci := 5) (j := 8) (ty0 := tyX5) hG 73 rfl rfl rfl (by decide +kernel) tyX5_ok nmX5 (by decide) rfl rfl rfl (by decide +kernel) rfl rfl (Nat.le_of_ble_eq_true rfl) dX5_init_70 ((h, .inr (5, [.int 0, .ref q1, .ref q2, .ref q3, .ref q4, .ref q5, .ref q6, .ref q7, .ref q8, .null, .null, .null])) :: ([(q1, arI g 30)] ++ [(q2, arI g 30)] ++ [(q3, arI g 30)] ++ [(q4, arI g 30)] ++ [(q5, arI g 30)] ++ [(q6, arI g 30)] ++ [(q7, arI g 30)] ++ [(q8, arI g 30)])) rfl ?_
  refine sc_aload hG 74 rfl dX5_init_73 rfl 0 rfl ?_
  refine sc_bipush (x := (30 : Int32)) hG 76 rfl dX5_init_74 rfl ?_
  refine sc_newi (N := 30) hG 78 rfl (by decide +kernel) (by decide) rfl (Nat.le_of_ble_eq_true rfl) (9, 270) ⟨rfl, rfl⟩ ⟨Nat.le_of_ble_eq_true rfl, Nat.le_of_ble_eq_true rfl⟩ dX5_init_76 (fun q9 => ?_)
  refine sc_putF (q0 := 0) (ci := 5) (j := 9) (ty0 := tyX5) hG 81 rfl rfl rfl (by decide +kernel) tyX5_ok nmX5 (by decide) rfl rfl rfl (by decide +kernel) rfl rfl (Nat.le_of_ble_eq_true rfl) dX5_init_78 ((h, .inr (5, [.int 0, .ref q1, .ref q2, .ref q3, .ref q4, .ref q5, .ref q6, .ref q7, .ref q8, .ref q9, .null, .null])) :: ([(q1, arI g 30)] ++ [(q2, arI g 30)] ++ [(q3, arI g 30)] ++ [(q4, arI g 30)] ++ [(q5, arI g 30)] ++ [(q6, arI g 30)] ++ [(q7, arI g 30)] ++ [(q8, arI g 30)] ++ [(q9, arI g 30)])) rfl ?_
  refine sc_aload hG 82 rfl dX5_init_81 rfl 0 rfl ?_
  refine sc_bipush (x := (30 : Int32)) hG 84 rfl dX5_init_82 rfl ?_
  refine sc_newi (N := 30) hG 86 rfl (by decide +kernel) (by decide) rfl (Nat.le_of_ble_eq_true rfl) (10, 300) ⟨rfl, rfl⟩ ⟨Nat.le_of_ble_eq_true rfl, Nat.le_of_ble_eq_true rfl⟩ dX5_init_84 (fun q10 => ?_)
  refine sc_putF (q0 := 0) (ci := 5) (j := 10) (ty0 := tyX5) hG 89 rfl rfl rfl (by decide +kernel) tyX5_ok nmX5 (by decide) rfl rfl rfl (by decide +kernel) rfl rfl (Nat.le_of_ble_eq_true rfl) dX5_init_86 ((h, .inr (5, [.int 0, .ref q1, .ref q2, .ref q3, .ref q4, .ref q5, .ref q6, .ref q7, .ref q8, .ref q9, .ref q10, .null])) :: ([(q1, arI g 30)] ++ [(q2, arI g 30)] ++ [(q3, arI g 30)] ++ [(q4, arI g 30)] ++ [(q5, arI g 30)] ++ [(q6, arI g 30)] ++ [(q7, arI g 30)] ++ [(q8, arI g 30)] ++ [(q9, arI g 30)] ++ [(q10, arI g 30)])) rfl ?_
  refine sc_aload hG 90 rfl dX5_init_89 rfl 0 rfl ?_
  refine sc_bipush (x := (30 : Int32)) hG 92 rfl dX5_init_90 rfl ?_
  refine sc_newi (N := 30) hG 94 rfl (by decide +kernel) (by decide) rfl (Nat.le_of_ble_eq_true rfl) (11, 330) ⟨rfl, rfl⟩ ⟨Nat.le_of_ble_eq_true rfl, Nat.le_of_ble_eq_true rfl⟩ dX5_init_92 (fun q11 => ?_)
  refine sc_putF (q0 := 0) (ci := 5) (j := 11) (ty0 := tyX5) hG 97 rfl rfl rfl (by decide +kernel) tyX5_ok nmX5 (by decide) rfl rfl rfl (by decide +kernel) rfl rfl (Nat.le_of_ble_eq_true rfl) dX5_init_94 ((h, .inr (5, [.int 0, .ref q1, .ref q2, .ref q3, .ref q4, .ref q5, .ref q6, .ref q7, .ref q8, .ref q9, .ref q10, .ref q11])) :: ([(q1, arI g 30)] ++ [(q2, arI g 30)] ++ [(q3, arI g 30)] ++ [(q4, arI g 30)] ++ [(q5, arI g 30)] ++ [(q6, arI g 30)] ++ [(q7, arI g 30)] ++ [(q8, arI g 30)] ++ [(q9, arI g 30)] ++ [(q10, arI g 30)] ++ [(q11, arI g 30)])) rfl ?_
  exact sc_ret hG hQ ⟨Nat.le_of_ble_eq_true rfl, Nat.le_of_ble_eq_true rfl⟩ dX5_init_97 ⟨(fun i => [h, q1, q2, q3, q4, q5, q6, q7, q8, q9, q10, q11].getD i 0), rfl, rfl⟩
abbrev rmX4_init : Room := { frames := 1, cells := 3, slots := 180, locals := 12 }
set_option maxRecDepth 100000 in
set_option maxHeartbeats 8000000 in
theorem c_X4_init {l : Launch} {D : va_G} {g : Nat → ClassId} : Cn l yX4_init wsX4_init rmX4_init D g 4 [.int 0, .null, .null, .null] (fun h ws => ∃ L : Nat → Nat, L 0 = h ∧ ws = notL g L) := by
  refine cn_of (cc := cX4_init) (maxL := 1) (by decide) rfl (by decide) rfl (fun E h Q hG hl hQ => ?_)
  refine sc_aload hG 1 rfl dX4_init_0 rfl 0 rfl ?_
  refine sc_obj hG 4 rfl (by decide +kernel) (by decide +kernel) (by decide +kernel) dX4_init_1 (by decide) (by decide) ?_
  refine sc_aload hG 5 rfl dX4_init_4 rfl 0 rfl ?_
  refine sc_iconst (x := (0 : Int32)) hG 6 rfl dX4_init_5 rfl ?_
  refine sc_put (q0 := 0) (ci := 4) (j := 0) (ty0 := tyX4) hG 9 rfl rfl rfl (by decide +kernel) tyX4_ok nmX4 (by decide) rfl rfl (by decide +kernel) rfl rfl (Nat.le_of_ble_eq_true rfl) dX4_init_6 ((h, .inr (4, [.int 0, .null, .null, .null])) :: ([])) rfl ?_
  refine sc_aload hG 10 rfl dX4_init_9 rfl 0 rfl ?_
  refine sc_bipush (x := (60 : Int32)) hG 12 rfl dX4_init_10 rfl ?_
  refine sc_newi (N := 60) hG 14 rfl (by decide +kernel) (by decide) rfl (Nat.le_of_ble_eq_true rfl) (1, 60) ⟨rfl, rfl⟩ ⟨Nat.le_of_ble_eq_true rfl, Nat.le_of_ble_eq_true rfl⟩ dX4_init_12 (fun q1 => ?_)
  refine sc_putF (q0 := 0) (ci := 4) (j := 1) (ty0 := tyX4) hG 17 rfl rfl rfl (by decide +kernel) tyX4_ok nmX4 (by decide) rfl rfl rfl (by decide +kernel) rfl rfl (Nat.le_of_ble_eq_true rfl) dX4_init_14 ((h, .inr (4, [.int 0, .ref q1, .null, .null])) :: ([(q1, arI g 60)])) rfl ?_
  refine sc_aload hG 18 rfl dX4_init_17 rfl 0 rfl ?_
  refine sc_bipush (x := (60 : Int32)) hG 20 rfl dX4_init_18 rfl ?_
  refine sc_newi (N := 60) hG 22 rfl (by decide +kernel) (by decide) rfl (Nat.le_of_ble_eq_true rfl) (2, 120) ⟨rfl, rfl⟩ ⟨Nat.le_of_ble_eq_true rfl, Nat.le_of_ble_eq_true rfl⟩ dX4_init_20 (fun q2 => ?_)
  refine sc_putF (q0 := 0) (ci := 4) (j := 2) (ty0 := tyX4) hG 25 rfl rfl rfl (by decide +kernel) tyX4_ok nmX4 (by decide) rfl rfl rfl (by decide +kernel) rfl rfl (Nat.le_of_ble_eq_true rfl) dX4_init_22 ((h, .inr (4, [.int 0, .ref q1, .ref q2, .null])) :: ([(q1, arI g 60)] ++ [(q2, arI g 60)])) rfl ?_
  refine sc_aload hG 26 rfl dX4_init_25 rfl 0 rfl ?_
  refine sc_bipush (x := (60 : Int32)) hG 28 rfl dX4_init_26 rfl ?_
  refine sc_newi (N := 60) hG 30 rfl (by decide +kernel) (by decide) rfl (Nat.le_of_ble_eq_true rfl) (3, 180) ⟨rfl, rfl⟩ ⟨Nat.le_of_ble_eq_true rfl, Nat.le_of_ble_eq_true rfl⟩ dX4_init_28 (fun q3 => ?_)
  refine sc_putF (q0 := 0) (ci := 4) (j := 3) (ty0 := tyX4) hG 33 rfl rfl rfl (by decide +kernel) tyX4_ok nmX4 (by decide) rfl rfl rfl (by decide +kernel) rfl rfl (Nat.le_of_ble_eq_true rfl) dX4_init_30 ((h, .inr (4, [.int 0, .ref q1, .ref q2, .ref q3])) :: ([(q1, arI g 60)] ++ [(q2, arI g 60)] ++ [(q3, arI g 60)])) rfl ?_
  exact sc_ret hG hQ ⟨Nat.le_of_ble_eq_true rfl, Nat.le_of_ble_eq_true rfl⟩ dX4_init_33 ⟨(fun i => [h, q1, q2, q3].getD i 0), rfl, rfl⟩
abbrev rmX1_init : Room := { frames := 1, cells := 87, slots := 980, locals := 12 }
set_option maxRecDepth 100000 in
set_option maxHeartbeats 8000000 in
theorem c_X1_init {l : Launch} {D : va_G} {g : Nat → ClassId} : Cn l yX1_init wsX1_init rmX1_init D g 1 [.int 0, .null, .null, .null, .null, .null, .null, .null] (fun h ws => ∃ B : Nat → Nat → Nat, B 3 0 = h ∧ ws = calL g B) := by
  refine cn_of (cc := cX1_init) (maxL := 1) (by decide) rfl (by decide) rfl (fun E h Q hG hl hQ => ?_)
  refine sc_aload hG 1 rfl dX1_init_0 rfl 0 rfl ?_
  refine sc_obj hG 4 rfl (by decide +kernel) (by decide +kernel) (by decide +kernel) dX1_init_1 (by decide) (by decide) ?_
  refine sc_aload hG 5 rfl dX1_init_4 rfl 0 rfl ?_
  refine sc_iconst (x := (0 : Int32)) hG 6 rfl dX1_init_5 rfl ?_
  refine sc_put (q0 := 0) (ci := 1) (j := 0) (ty0 := tyX1) hG 9 rfl rfl rfl (by decide +kernel) tyX1_ok nmX1 (by decide) rfl rfl (by decide +kernel) rfl rfl (Nat.le_of_ble_eq_true rfl) dX1_init_6 ((h, .inr (1, [.int 0, .null, .null, .null, .null, .null, .null, .null])) :: ([])) rfl ?_
  refine sc_aload hG 10 rfl dX1_init_9 rfl 0 rfl ?_
  refine sc_bipush (x := (20 : Int32)) hG 12 rfl dX1_init_10 rfl ?_
  refine sc_newi (N := 20) hG 14 rfl (by decide +kernel) (by decide) rfl (Nat.le_of_ble_eq_true rfl) (1, 20) ⟨rfl, rfl⟩ ⟨Nat.le_of_ble_eq_true rfl, Nat.le_of_ble_eq_true rfl⟩ dX1_init_12 (fun q1 => ?_)
  refine sc_putF (q0 := 0) (ci := 1) (j := 1) (ty0 := tyX1) hG 17 rfl rfl rfl (by decide +kernel) tyX1_ok nmX1 (by decide) rfl rfl rfl (by decide +kernel) rfl rfl (Nat.le_of_ble_eq_true rfl) dX1_init_14 ((h, .inr (1, [.int 0, .ref q1, .null, .null, .null, .null, .null, .null])) :: ([(q1, arI g 20)])) rfl ?_
  refine sc_aload hG 18 rfl dX1_init_17 rfl 0 rfl ?_
  refine sc_bipush (x := (20 : Int32)) hG 20 rfl dX1_init_18 rfl ?_
  refine sc_newi (N := 20) hG 22 rfl (by decide +kernel) (by decide) rfl (Nat.le_of_ble_eq_true rfl) (2, 40) ⟨rfl, rfl⟩ ⟨Nat.le_of_ble_eq_true rfl, Nat.le_of_ble_eq_true rfl⟩ dX1_init_20 (fun q2 => ?_)
  refine sc_putF (q0 := 0) (ci := 1) (j := 2) (ty0 := tyX1) hG 25 rfl rfl rfl (by decide +kernel) tyX1_ok nmX1 (by decide) rfl rfl rfl (by decide +kernel) rfl rfl (Nat.le_of_ble_eq_true rfl) dX1_init_22 ((h, .inr (1, [.int 0, .ref q1, .ref q2, .null, .null, .null, .null, .null])) :: ([(q1, arI g 20)] ++ [(q2, arI g 20)])) rfl ?_
  refine sc_aload hG 26 rfl dX1_init_25 rfl 0 rfl ?_
  refine sc_bipush (x := (20 : Int32)) hG 28 rfl dX1_init_26 rfl ?_
  refine sc_newi (N := 20) hG 30 rfl (by decide +kernel) (by decide) rfl (Nat.le_of_ble_eq_true rfl) (3, 60) ⟨rfl, rfl⟩ ⟨Nat.le_of_ble_eq_true rfl, Nat.le_of_ble_eq_true rfl⟩ dX1_init_28 (fun q3 => ?_)
  refine sc_putF (q0 := 0) (ci := 1) (j := 3) (ty0 := tyX1) hG 33 rfl rfl rfl (by decide +kernel) tyX1_ok nmX1 (by decide) rfl rfl rfl (by decide +kernel) rfl rfl (Nat.le_of_ble_eq_true rfl) dX1_init_30 ((h, .inr (1, [.int 0, .ref q1, .ref q2, .ref q3, .null, .null, .null, .null])) :: ([(q1, arI g 20)] ++ [(q2, arI g 20)] ++ [(q3, arI g 20)])) rfl ?_
  refine sc_aload hG 34 rfl dX1_init_33 rfl 0 rfl ?_
  refine sc_bipush (x := (20 : Int32)) hG 36 rfl dX1_init_34 rfl ?_
  refine sc_iconst (x := (4 : Int32)) hG 37 rfl dX1_init_36 rfl ?_
  refine sc_mna (N := 20) (K := 4) hG 41 rfl (by decide +kernel) (by decide +kernel) (by decide) (by decide) rfl rfl (Nat.le_of_ble_eq_true rfl) (Nat.le_of_ble_eq_true rfl) (Nat.le_of_ble_eq_true rfl) (24, 160) ⟨rfl, rfl⟩ ⟨Nat.le_of_ble_eq_true rfl, Nat.le_of_ble_eq_true rfl⟩ dX1_init_37 (fun q4 r4 => ?_)
  refine sc_putF (q0 := 0) (ci := 1) (j := 4) (ty0 := tyX1) hG 44 rfl rfl rfl (by decide +kernel) tyX1_ok nmX1 (by decide) rfl rfl rfl (by decide +kernel) rfl rfl (Nat.le_of_ble_eq_true rfl) dX1_init_41 ((h, .inr (1, [.int 0, .ref q1, .ref q2, .ref q3, .ref q4, .null, .null, .null])) :: ([(q1, arI g 20)] ++ [(q2, arI g 20)] ++ [(q3, arI g 20)] ++ [(q4, outI g r4)] ++ rowL g r4 4)) rfl ?_
  refine sc_aload hG 45 rfl dX1_init_44 rfl 0 rfl ?_
  refine sc_bipush (x := (20 : Int32)) hG 47 rfl dX1_init_45 rfl ?_
  refine sc_iconst (x := (4 : Int32)) hG 48 rfl dX1_init_47 rfl ?_
  refine sc_mna (N := 20) (K := 4) hG 52 rfl (by decide +kernel) (by decide +kernel) (by decide) (by decide) rfl rfl (Nat.le_of_ble_eq_true rfl) (Nat.le_of_ble_eq_true rfl) (Nat.le_of_ble_eq_true rfl) (45, 260) ⟨rfl, rfl⟩ ⟨Nat.le_of_ble_eq_true rfl, Nat.le_of_ble_eq_true rfl⟩ dX1_init_48 (fun q5 r5 => ?_)
  refine sc_putF (q0 := 0) (ci := 1) (j := 5) (ty0 := tyX1) hG 55 rfl rfl rfl (by decide +kernel) tyX1_ok nmX1 (by decide) rfl rfl rfl (by decide +kernel) rfl rfl (Nat.le_of_ble_eq_true rfl) dX1_init_52 ((h, .inr (1, [.int 0, .ref q1, .ref q2, .ref q3, .ref q4, .ref q5, .null, .null])) :: ([(q1, arI g 20)] ++ [(q2, arI g 20)] ++ [(q3, arI g 20)] ++ [(q4, outI g r4)] ++ rowL g r4 4 ++ [(q5, outI g r5)] ++ rowL g r5 4)) rfl ?_
  refine sc_aload hG 56 rfl dX1_init_55 rfl 0 rfl ?_
  refine sc_bipush (x := (20 : Int32)) hG 58 rfl dX1_init_56 rfl ?_
  refine sc_iconst (x := (4 : Int32)) hG 59 rfl dX1_init_58 rfl ?_
  refine sc_mna (N := 20) (K := 4) hG 63 rfl (by decide +kernel) (by decide +kernel) (by decide) (by decide) rfl rfl (Nat.le_of_ble_eq_true rfl) (Nat.le_of_ble_eq_true rfl) (Nat.le_of_ble_eq_true rfl) (66, 360) ⟨rfl, rfl⟩ ⟨Nat.le_of_ble_eq_true rfl, Nat.le_of_ble_eq_true rfl⟩ dX1_init_59 (fun q6 r6 => ?_)
  refine sc_putF (q0 := 0) (ci := 1) (j := 6) (ty0 := tyX1) hG 66 rfl rfl rfl (by decide +kernel) tyX1_ok nmX1 (by decide) rfl rfl rfl (by decide +kernel) rfl rfl (Nat.le_of_ble_eq_true rfl) dX1_init_63 ((h, .inr (1, [.int 0, .ref q1, .ref q2, .ref q3, .ref q4, .ref q5, .ref q6, .null])) :: ([(q1, arI g 20)] ++ [(q2, arI g 20)] ++ [(q3, arI g 20)] ++ [(q4, outI g r4)] ++ rowL g r4 4 ++ [(q5, outI g r5)] ++ rowL g r5 4 ++ [(q6, outI g r6)] ++ rowL g r6 4)) rfl ?_
  refine sc_aload hG 67 rfl dX1_init_66 rfl 0 rfl ?_
  refine sc_bipush (x := (20 : Int32)) hG 69 rfl dX1_init_67 rfl ?_
  refine sc_bipush (x := (30 : Int32)) hG 71 rfl dX1_init_69 rfl ?_
  refine sc_mna (N := 20) (K := 30) hG 75 rfl (by decide +kernel) (by decide +kernel) (by decide) (by decide) rfl rfl (Nat.le_of_ble_eq_true rfl) (Nat.le_of_ble_eq_true rfl) (Nat.le_of_ble_eq_true rfl) (87, 980) ⟨rfl, rfl⟩ ⟨Nat.le_of_ble_eq_true rfl, Nat.le_of_ble_eq_true rfl⟩ dX1_init_71 (fun q7 r7 => ?_)
  refine sc_putF (q0 := 0) (ci := 1) (j := 7) (ty0 := tyX1) hG 78 rfl rfl rfl (by decide +kernel) tyX1_ok nmX1 (by decide) rfl rfl rfl (by decide +kernel) rfl rfl (Nat.le_of_ble_eq_true rfl) dX1_init_75 ((h, .inr (1, [.int 0, .ref q1, .ref q2, .ref q3, .ref q4, .ref q5, .ref q6, .ref q7])) :: ([(q1, arI g 20)] ++ [(q2, arI g 20)] ++ [(q3, arI g 20)] ++ [(q4, outI g r4)] ++ rowL g r4 4 ++ [(q5, outI g r5)] ++ rowL g r5 4 ++ [(q6, outI g r6)] ++ rowL g r6 4 ++ [(q7, outI g r7)] ++ rowL g r7 30)) rfl ?_
  exact sc_ret hG hQ ⟨Nat.le_of_ble_eq_true rfl, Nat.le_of_ble_eq_true rfl⟩ dX1_init_78 ⟨fun a => match a with | 3 => (fun i => [h, q1, q2, q3, q4, q5, q6, q7].getD i 0) | 4 => r4 | 5 => r5 | 6 => r6 | _ => r7, rfl, rfl⟩
abbrev rmX0_init : Room := { frames := 2, cells := 105, slots := 1519, locals := 32 }
set_option maxRecDepth 100000 in
set_option maxHeartbeats 8000000 in
theorem c_X0_init {l : Launch} {D : va_G} {g : Nat → ClassId} : Cn l yX0_init wsX0_init rmX0_init D g 0 [.int 0, .null, .null, .null, .null, .int 0, .int 0, .int 0, .int 0, .int 0] (fun h ws => ∃ B : Nat → Nat → Nat, B 0 0 = h ∧ ws = bokL g B) := by
  refine cn_of (cc := cX0_init) (maxL := 1) (by decide) rfl (by decide) rfl (fun E h Q hG hl hQ => ?_)
  refine sc_aload hG 1 rfl dX0_init_0 rfl 0 rfl ?_
  refine sc_obj hG 4 rfl (by decide +kernel) (by decide +kernel) (by decide +kernel) dX0_init_1 (by decide) (by decide) ?_
  refine sc_aload hG 5 rfl dX0_init_4 rfl 0 rfl ?_
  refine sc_iconst (x := (0 : Int32)) hG 6 rfl dX0_init_5 rfl ?_
  refine sc_put (q0 := 0) (ci := 0) (j := 0) (ty0 := tyX0) hG 9 rfl rfl rfl (by decide +kernel) tyX0_ok nmX0 (by decide) rfl rfl (by decide +kernel) rfl rfl (Nat.le_of_ble_eq_true rfl) dX0_init_6 ((h, .inr (0, [.int 0, .null, .null, .null, .null, .int 0, .int 0, .int 0, .int 0, .int 0])) :: ([])) rfl ?_
  refine sc_aload hG 10 rfl dX0_init_9 rfl 0 rfl ?_
  refine sc_new (ci := 5) (fs := [.int 0, .null, .null, .null, .null, .null, .null, .null, .null, .null, .null, .null]) hG tyX5 13 rfl rfl (by decide +kernel) tyX5_ok (by decide +kernel) (by decide +kernel) (by decide +kernel) (by decide) (1, 12) ⟨rfl, rfl⟩ ⟨Nat.le_of_ble_eq_true rfl, Nat.le_of_ble_eq_true rfl⟩ dX0_init_10 (fun q1 => ?_)
  refine sc_dup hG 14 rfl dX0_init_13 rfl ?_
  refine sc_call (host := "ChoirRegister") (wr := ((h, .inr (0, [.int 0, .null, .null, .null, .null, .int 0, .int 0, .int 0, .int 0, .int 0])) :: ([]))) hG 17 rfl rfl (hl ▸ (c_X5_init : Cn l _ _ _ _ _ _ _ _)) (by decide +kernel) gX0_init_X5_init_n17 (by decide +kernel) (by decide +kernel) rfl (by decide) rfl (by decide) (Nat.le_of_ble_eq_true rfl) (12, 342) ⟨rfl, rfl⟩ ⟨Nat.le_of_ble_eq_true rfl, Nat.le_of_ble_eq_true rfl⟩ dX0_init_14 (fun w1 hw1 => ?_)
  obtain ⟨B0, eB0, rfl⟩ := hw1
  subst eB0
  refine sc_putF (q0 := 0) (ci := 0) (j := 1) (ty0 := tyX0) hG 20 rfl rfl rfl (by decide +kernel) tyX0_ok nmX0 (by decide) rfl rfl rfl (by decide +kernel) rfl rfl (Nat.le_of_ble_eq_true rfl) dX0_init_17 ((h, .inr (0, [.int 0, .ref (B0 0), .null, .null, .null, .int 0, .int 0, .int 0, .int 0, .int 0])) :: (rosL g B0)) rfl ?_
  refine sc_aload hG 21 rfl dX0_init_20 rfl 0 rfl ?_
  refine sc_new (ci := 4) (fs := [.int 0, .null, .null, .null]) hG tyX4 24 rfl rfl (by decide +kernel) tyX4_ok (by decide +kernel) (by decide +kernel) (by decide +kernel) (by decide) (13, 346) ⟨rfl, rfl⟩ ⟨Nat.le_of_ble_eq_true rfl, Nat.le_of_ble_eq_true rfl⟩ dX0_init_21 (fun q2 => ?_)
  refine sc_dup hG 25 rfl dX0_init_24 rfl ?_
  refine sc_call (host := "ChoirRegister") (wr := ((h, .inr (0, [.int 0, .ref (B0 0), .null, .null, .null, .int 0, .int 0, .int 0, .int 0, .int 0])) :: (rosL g B0))) hG 28 rfl rfl (hl ▸ (c_X4_init : Cn l _ _ _ _ _ _ _ _)) (by decide +kernel) gX0_init_X4_init_n24 (by decide +kernel) (by decide +kernel) rfl (by decide) rfl (by decide) (Nat.le_of_ble_eq_true rfl) (16, 526) ⟨rfl, rfl⟩ ⟨Nat.le_of_ble_eq_true rfl, Nat.le_of_ble_eq_true rfl⟩ dX0_init_25 (fun w1 hw1 => ?_)
  obtain ⟨B1, eB1, rfl⟩ := hw1
  subst eB1
  refine sc_putF (q0 := 0) (ci := 0) (j := 2) (ty0 := tyX0) hG 31 rfl rfl rfl (by decide +kernel) tyX0_ok nmX0 (by decide) rfl rfl rfl (by decide +kernel) rfl rfl (Nat.le_of_ble_eq_true rfl) dX0_init_28 ((h, .inr (0, [.int 0, .ref (B0 0), .ref (B1 0), .null, .null, .int 0, .int 0, .int 0, .int 0, .int 0])) :: (rosL g B0 ++ notL g B1)) rfl ?_
  refine sc_aload hG 32 rfl dX0_init_31 rfl 0 rfl ?_
  refine sc_new (ci := 1) (fs := [.int 0, .null, .null, .null, .null, .null, .null, .null]) hG tyX1 35 rfl rfl (by decide +kernel) tyX1_ok (by decide +kernel) (by decide +kernel) (by decide +kernel) (by decide) (17, 534) ⟨rfl, rfl⟩ ⟨Nat.le_of_ble_eq_true rfl, Nat.le_of_ble_eq_true rfl⟩ dX0_init_32 (fun q3 => ?_)
  refine sc_dup hG 36 rfl dX0_init_35 rfl ?_
  refine sc_call (host := "ChoirRegister") (wr := ((h, .inr (0, [.int 0, .ref (B0 0), .ref (B1 0), .null, .null, .int 0, .int 0, .int 0, .int 0, .int 0])) :: (rosL g B0 ++ notL g B1))) hG 39 rfl rfl (hl ▸ (c_X1_init : Cn l _ _ _ _ _ _ _ _)) (by decide +kernel) gX0_init_X1_init_n31 (by decide +kernel) (by decide +kernel) rfl (by decide) rfl (by decide) (Nat.le_of_ble_eq_true rfl) (104, 1514) ⟨rfl, rfl⟩ ⟨Nat.le_of_ble_eq_true rfl, Nat.le_of_ble_eq_true rfl⟩ dX0_init_36 (fun w1 hw1 => ?_)
  obtain ⟨B2, eB2, rfl⟩ := hw1
  subst eB2
  refine sc_putF (q0 := 0) (ci := 0) (j := 3) (ty0 := tyX0) hG 42 rfl rfl rfl (by decide +kernel) tyX0_ok nmX0 (by decide) rfl rfl rfl (by decide +kernel) rfl rfl (Nat.le_of_ble_eq_true rfl) dX0_init_39 ((h, .inr (0, [.int 0, .ref (B0 0), .ref (B1 0), .ref (B2 3 0), .null, .int 0, .int 0, .int 0, .int 0, .int 0])) :: (rosL g B0 ++ notL g B1 ++ calL g B2)) rfl ?_
  refine sc_aload hG 43 rfl dX0_init_42 rfl 0 rfl ?_
  refine sc_iconst (x := (5 : Int32)) hG 44 rfl dX0_init_43 rfl ?_
  refine sc_newi (N := 5) hG 46 rfl (by decide +kernel) (by decide) rfl (Nat.le_of_ble_eq_true rfl) (105, 1519) ⟨rfl, rfl⟩ ⟨Nat.le_of_ble_eq_true rfl, Nat.le_of_ble_eq_true rfl⟩ dX0_init_44 (fun q4 => ?_)
  refine sc_putF (q0 := 0) (ci := 0) (j := 4) (ty0 := tyX0) hG 49 rfl rfl rfl (by decide +kernel) tyX0_ok nmX0 (by decide) rfl rfl rfl (by decide +kernel) rfl rfl (Nat.le_of_ble_eq_true rfl) dX0_init_46 ((h, .inr (0, [.int 0, .ref (B0 0), .ref (B1 0), .ref (B2 3 0), .ref q4, .int 0, .int 0, .int 0, .int 0, .int 0])) :: (rosL g B0 ++ notL g B1 ++ calL g B2 ++ [(q4, arI g 5)])) rfl ?_
  refine sc_aload hG 50 rfl dX0_init_49 rfl 0 rfl ?_
  refine sc_bipush (x := (50 : Int32)) hG 52 rfl dX0_init_50 rfl ?_
  refine sc_put (q0 := 0) (ci := 0) (j := 5) (ty0 := tyX0) hG 55 rfl rfl rfl (by decide +kernel) tyX0_ok nmX0 (by decide) rfl rfl (by decide +kernel) rfl rfl (Nat.le_of_ble_eq_true rfl) dX0_init_52 ((h, .inr (0, [.int 0, .ref (B0 0), .ref (B1 0), .ref (B2 3 0), .ref q4, .int 50, .int 0, .int 0, .int 0, .int 0])) :: (rosL g B0 ++ notL g B1 ++ calL g B2 ++ [(q4, arI g 5)])) rfl ?_
  refine sc_aload hG 56 rfl dX0_init_55 rfl 0 rfl ?_
  refine sc_iconst (x := (0 : Int32)) hG 57 rfl dX0_init_56 rfl ?_
  refine sc_put (q0 := 0) (ci := 0) (j := 6) (ty0 := tyX0) hG 60 rfl rfl rfl (by decide +kernel) tyX0_ok nmX0 (by decide) rfl rfl (by decide +kernel) rfl rfl (Nat.le_of_ble_eq_true rfl) dX0_init_57 ((h, .inr (0, [.int 0, .ref (B0 0), .ref (B1 0), .ref (B2 3 0), .ref q4, .int 50, .int 0, .int 0, .int 0, .int 0])) :: (rosL g B0 ++ notL g B1 ++ calL g B2 ++ [(q4, arI g 5)])) rfl ?_
  refine sc_aload hG 61 rfl dX0_init_60 rfl 0 rfl ?_
  refine sc_iconst (x := (0 : Int32)) hG 62 rfl dX0_init_61 rfl ?_
  refine sc_put (q0 := 0) (ci := 0) (j := 7) (ty0 := tyX0) hG 65 rfl rfl rfl (by decide +kernel) tyX0_ok nmX0 (by decide) rfl rfl (by decide +kernel) rfl rfl (Nat.le_of_ble_eq_true rfl) dX0_init_62 ((h, .inr (0, [.int 0, .ref (B0 0), .ref (B1 0), .ref (B2 3 0), .ref q4, .int 50, .int 0, .int 0, .int 0, .int 0])) :: (rosL g B0 ++ notL g B1 ++ calL g B2 ++ [(q4, arI g 5)])) rfl ?_
  refine sc_aload hG 66 rfl dX0_init_65 rfl 0 rfl ?_
  refine sc_iconst (x := (0 : Int32)) hG 67 rfl dX0_init_66 rfl ?_
  refine sc_put (q0 := 0) (ci := 0) (j := 8) (ty0 := tyX0) hG 70 rfl rfl rfl (by decide +kernel) tyX0_ok nmX0 (by decide) rfl rfl (by decide +kernel) rfl rfl (Nat.le_of_ble_eq_true rfl) dX0_init_67 ((h, .inr (0, [.int 0, .ref (B0 0), .ref (B1 0), .ref (B2 3 0), .ref q4, .int 50, .int 0, .int 0, .int 0, .int 0])) :: (rosL g B0 ++ notL g B1 ++ calL g B2 ++ [(q4, arI g 5)])) rfl ?_
  refine sc_aload hG 71 rfl dX0_init_70 rfl 0 rfl ?_
  refine sc_iconst (x := (0 : Int32)) hG 72 rfl dX0_init_71 rfl ?_
  refine sc_put (q0 := 0) (ci := 0) (j := 9) (ty0 := tyX0) hG 75 rfl rfl rfl (by decide +kernel) tyX0_ok nmX0 (by decide) rfl rfl (by decide +kernel) rfl rfl (Nat.le_of_ble_eq_true rfl) dX0_init_72 ((h, .inr (0, [.int 0, .ref (B0 0), .ref (B1 0), .ref (B2 3 0), .ref q4, .int 50, .int 0, .int 0, .int 0, .int 0])) :: (rosL g B0 ++ notL g B1 ++ calL g B2 ++ [(q4, arI g 5)])) rfl ?_
  exact sc_ret hG hQ ⟨Nat.le_of_ble_eq_true rfl, Nat.le_of_ble_eq_true rfl⟩ dX0_init_75 ⟨fun a => match a with | 0 => (fun i => [h, q4].getD i 0) | 1 => B0 | 2 => B1 | k => B2 k, rfl, rfl⟩
abbrev rmX2_init : Room := { frames := 1, cells := 2, slots := 85, locals := 12 }
set_option maxRecDepth 100000 in
set_option maxHeartbeats 8000000 in
theorem c_X2_init {l : Launch} {D : va_G} {g : Nat → ClassId} : Cn l yX2_init wsX2_init rmX2_init D g 2 [.null, .int 0, .int 0, .int 0, .null, .int 0] (fun h ws => ∃ L : Nat → Nat, L 0 = h ∧ ws = letL g L) := by
  refine cn_of (cc := cX2_init) (maxL := 1) (by decide) rfl (by decide) rfl (fun E h Q hG hl hQ => ?_)
  refine sc_aload hG 1 rfl dX2_init_0 rfl 0 rfl ?_
  refine sc_obj hG 4 rfl (by decide +kernel) (by decide +kernel) (by decide +kernel) dX2_init_1 (by decide) (by decide) ?_
  refine sc_aload hG 5 rfl dX2_init_4 rfl 0 rfl ?_
  refine sc_bipush (x := (80 : Int32)) hG 7 rfl dX2_init_5 rfl ?_
  refine sc_newc (N := 80) hG 9 rfl (by decide +kernel) (by decide) rfl (Nat.le_of_ble_eq_true rfl) (1, 80) ⟨rfl, rfl⟩ ⟨Nat.le_of_ble_eq_true rfl, Nat.le_of_ble_eq_true rfl⟩ dX2_init_7 (fun q1 => ?_)
  refine sc_putF (q0 := 0) (ci := 2) (j := 0) (ty0 := tyX2) hG 12 rfl rfl rfl (by decide +kernel) tyX2_ok nmX2 (by decide) rfl rfl rfl (by decide +kernel) rfl rfl (Nat.le_of_ble_eq_true rfl) dX2_init_9 ((h, .inr (2, [.ref q1, .int 0, .int 0, .int 0, .null, .int 0])) :: ([(q1, .inl (g 1, 80, .inl (fun _ => 0)))])) rfl ?_
  refine sc_aload hG 13 rfl dX2_init_12 rfl 0 rfl ?_
  refine sc_iconst (x := (0 : Int32)) hG 14 rfl dX2_init_13 rfl ?_
  refine sc_put (q0 := 0) (ci := 2) (j := 1) (ty0 := tyX2) hG 17 rfl rfl rfl (by decide +kernel) tyX2_ok nmX2 (by decide) rfl rfl (by decide +kernel) rfl rfl (Nat.le_of_ble_eq_true rfl) dX2_init_14 ((h, .inr (2, [.ref q1, .int 0, .int 0, .int 0, .null, .int 0])) :: ([(q1, .inl (g 1, 80, .inl (fun _ => 0)))])) rfl ?_
  refine sc_aload hG 18 rfl dX2_init_17 rfl 0 rfl ?_
  refine sc_iconst (x := (0 : Int32)) hG 19 rfl dX2_init_18 rfl ?_
  refine sc_put (q0 := 0) (ci := 2) (j := 2) (ty0 := tyX2) hG 22 rfl rfl rfl (by decide +kernel) tyX2_ok nmX2 (by decide) rfl rfl (by decide +kernel) rfl rfl (Nat.le_of_ble_eq_true rfl) dX2_init_19 ((h, .inr (2, [.ref q1, .int 0, .int 0, .int 0, .null, .int 0])) :: ([(q1, .inl (g 1, 80, .inl (fun _ => 0)))])) rfl ?_
  refine sc_aload hG 23 rfl dX2_init_22 rfl 0 rfl ?_
  refine sc_iconst (x := (-1 : Int32)) hG 24 rfl dX2_init_23 rfl ?_
  refine sc_put (q0 := 0) (ci := 2) (j := 3) (ty0 := tyX2) hG 27 rfl rfl rfl (by decide +kernel) tyX2_ok nmX2 (by decide) rfl rfl (by decide +kernel) rfl rfl (Nat.le_of_ble_eq_true rfl) dX2_init_24 ((h, .inr (2, [.ref q1, .int 0, .int 0, .int (-1), .null, .int 0])) :: ([(q1, .inl (g 1, 80, .inl (fun _ => 0)))])) rfl ?_
  refine sc_aload hG 28 rfl dX2_init_27 rfl 0 rfl ?_
  refine sc_iconst (x := (5 : Int32)) hG 29 rfl dX2_init_28 rfl ?_
  refine sc_newi (N := 5) hG 31 rfl (by decide +kernel) (by decide) rfl (Nat.le_of_ble_eq_true rfl) (2, 85) ⟨rfl, rfl⟩ ⟨Nat.le_of_ble_eq_true rfl, Nat.le_of_ble_eq_true rfl⟩ dX2_init_29 (fun q2 => ?_)
  refine sc_putF (q0 := 0) (ci := 2) (j := 4) (ty0 := tyX2) hG 34 rfl rfl rfl (by decide +kernel) tyX2_ok nmX2 (by decide) rfl rfl rfl (by decide +kernel) rfl rfl (Nat.le_of_ble_eq_true rfl) dX2_init_31 ((h, .inr (2, [.ref q1, .int 0, .int 0, .int (-1), .ref q2, .int 0])) :: ([(q1, .inl (g 1, 80, .inl (fun _ => 0)))] ++ [(q2, arI g 5)])) rfl ?_
  refine sc_aload hG 35 rfl dX2_init_34 rfl 0 rfl ?_
  refine sc_iconst (x := (0 : Int32)) hG 36 rfl dX2_init_35 rfl ?_
  refine sc_put (q0 := 0) (ci := 2) (j := 5) (ty0 := tyX2) hG 39 rfl rfl rfl (by decide +kernel) tyX2_ok nmX2 (by decide) rfl rfl (by decide +kernel) rfl rfl (Nat.le_of_ble_eq_true rfl) dX2_init_36 ((h, .inr (2, [.ref q1, .int 0, .int 0, .int (-1), .ref q2, .int 0])) :: ([(q1, .inl (g 1, 80, .inl (fun _ => 0)))] ++ [(q2, arI g 5)])) rfl ?_
  exact sc_ret hG hQ ⟨Nat.le_of_ble_eq_true rfl, Nat.le_of_ble_eq_true rfl⟩ dX2_init_39 ⟨(fun i => [h, q1, q2].getD i 0), rfl, rfl⟩
abbrev rmX3_init : Room := { frames := 1, cells := 5, slots := 110, locals := 12 }
set_option maxRecDepth 100000 in
set_option maxHeartbeats 8000000 in
theorem c_X3_init {l : Launch} {D : va_G} {g : Nat → ClassId} : Cn l yX3_init wsX3_init rmX3_init D g 3 [.null, .null, .null, .null, .null] (fun h ws => ∃ L : Nat → Nat, L 0 = h ∧ ws = linL g L) := by
  refine cn_of (cc := cX3_init) (maxL := 1) (by decide) rfl (by decide) rfl (fun E h Q hG hl hQ => ?_)
  refine sc_aload hG 1 rfl dX3_init_0 rfl 0 rfl ?_
  refine sc_obj hG 4 rfl (by decide +kernel) (by decide +kernel) (by decide +kernel) dX3_init_1 (by decide) (by decide) ?_
  refine sc_aload hG 5 rfl dX3_init_4 rfl 0 rfl ?_
  refine sc_bipush (x := (30 : Int32)) hG 7 rfl dX3_init_5 rfl ?_
  refine sc_newi (N := 30) hG 9 rfl (by decide +kernel) (by decide) rfl (Nat.le_of_ble_eq_true rfl) (1, 30) ⟨rfl, rfl⟩ ⟨Nat.le_of_ble_eq_true rfl, Nat.le_of_ble_eq_true rfl⟩ dX3_init_7 (fun q1 => ?_)
  refine sc_putF (q0 := 0) (ci := 3) (j := 0) (ty0 := tyX3) hG 12 rfl rfl rfl (by decide +kernel) tyX3_ok nmX3 (by decide) rfl rfl rfl (by decide +kernel) rfl rfl (Nat.le_of_ble_eq_true rfl) dX3_init_9 ((h, .inr (3, [.ref q1, .null, .null, .null, .null])) :: ([(q1, arI g 30)])) rfl ?_
  refine sc_aload hG 13 rfl dX3_init_12 rfl 0 rfl ?_
  refine sc_bipush (x := (30 : Int32)) hG 15 rfl dX3_init_13 rfl ?_
  refine sc_newi (N := 30) hG 17 rfl (by decide +kernel) (by decide) rfl (Nat.le_of_ble_eq_true rfl) (2, 60) ⟨rfl, rfl⟩ ⟨Nat.le_of_ble_eq_true rfl, Nat.le_of_ble_eq_true rfl⟩ dX3_init_15 (fun q2 => ?_)
  refine sc_putF (q0 := 0) (ci := 3) (j := 1) (ty0 := tyX3) hG 20 rfl rfl rfl (by decide +kernel) tyX3_ok nmX3 (by decide) rfl rfl rfl (by decide +kernel) rfl rfl (Nat.le_of_ble_eq_true rfl) dX3_init_17 ((h, .inr (3, [.ref q1, .ref q2, .null, .null, .null])) :: ([(q1, arI g 30)] ++ [(q2, arI g 30)])) rfl ?_
  refine sc_aload hG 21 rfl dX3_init_20 rfl 0 rfl ?_
  refine sc_iconst (x := (4 : Int32)) hG 22 rfl dX3_init_21 rfl ?_
  refine sc_newi (N := 4) hG 24 rfl (by decide +kernel) (by decide) rfl (Nat.le_of_ble_eq_true rfl) (3, 64) ⟨rfl, rfl⟩ ⟨Nat.le_of_ble_eq_true rfl, Nat.le_of_ble_eq_true rfl⟩ dX3_init_22 (fun q3 => ?_)
  refine sc_putF (q0 := 0) (ci := 3) (j := 2) (ty0 := tyX3) hG 27 rfl rfl rfl (by decide +kernel) tyX3_ok nmX3 (by decide) rfl rfl rfl (by decide +kernel) rfl rfl (Nat.le_of_ble_eq_true rfl) dX3_init_24 ((h, .inr (3, [.ref q1, .ref q2, .ref q3, .null, .null])) :: ([(q1, arI g 30)] ++ [(q2, arI g 30)] ++ [(q3, arI g 4)])) rfl ?_
  refine sc_aload hG 28 rfl dX3_init_27 rfl 0 rfl ?_
  refine sc_bipush (x := (16 : Int32)) hG 30 rfl dX3_init_28 rfl ?_
  refine sc_newi (N := 16) hG 32 rfl (by decide +kernel) (by decide) rfl (Nat.le_of_ble_eq_true rfl) (4, 80) ⟨rfl, rfl⟩ ⟨Nat.le_of_ble_eq_true rfl, Nat.le_of_ble_eq_true rfl⟩ dX3_init_30 (fun q4 => ?_)
  refine sc_putF (q0 := 0) (ci := 3) (j := 3) (ty0 := tyX3) hG 35 rfl rfl rfl (by decide +kernel) tyX3_ok nmX3 (by decide) rfl rfl rfl (by decide +kernel) rfl rfl (Nat.le_of_ble_eq_true rfl) dX3_init_32 ((h, .inr (3, [.ref q1, .ref q2, .ref q3, .ref q4, .null])) :: ([(q1, arI g 30)] ++ [(q2, arI g 30)] ++ [(q3, arI g 4)] ++ [(q4, arI g 16)])) rfl ?_
  refine sc_aload hG 36 rfl dX3_init_35 rfl 0 rfl ?_
  refine sc_bipush (x := (30 : Int32)) hG 38 rfl dX3_init_36 rfl ?_
  refine sc_newi (N := 30) hG 40 rfl (by decide +kernel) (by decide) rfl (Nat.le_of_ble_eq_true rfl) (5, 110) ⟨rfl, rfl⟩ ⟨Nat.le_of_ble_eq_true rfl, Nat.le_of_ble_eq_true rfl⟩ dX3_init_38 (fun q5 => ?_)
  refine sc_putF (q0 := 0) (ci := 3) (j := 4) (ty0 := tyX3) hG 43 rfl rfl rfl (by decide +kernel) tyX3_ok nmX3 (by decide) rfl rfl rfl (by decide +kernel) rfl rfl (Nat.le_of_ble_eq_true rfl) dX3_init_40 ((h, .inr (3, [.ref q1, .ref q2, .ref q3, .ref q4, .ref q5])) :: ([(q1, arI g 30)] ++ [(q2, arI g 30)] ++ [(q3, arI g 4)] ++ [(q4, arI g 16)] ++ [(q5, arI g 30)])) rfl ?_
  exact sc_ret hG hQ ⟨Nat.le_of_ble_eq_true rfl, Nat.le_of_ble_eq_true rfl⟩ dX3_init_43 ⟨(fun i => [h, q1, q2, q3, q4, q5].getD i 0), rfl, rfl⟩
abbrev rmX6_init : Room := { frames := 3, cells := 752, slots := 10913, locals := 53 }
set_option maxRecDepth 100000 in
set_option maxHeartbeats 8000000 in
theorem c_X6_init {l : Launch} {D : va_G} {g : Nat → ClassId} : Cn l yX6_init wsX6_init rmX6_init D g 6 [.null, .null, .null, .int 0, .null, .int 0, .null, .null] (fun h ws => ∃ (q : Nat) (B : Nat → Nat → Nat → Nat) (LL LN : Nat → Nat), ws = regL g h q B LL LN) := by
  refine cn_of (cc := cX6_init) (maxL := 2) (by decide) rfl (by decide) rfl (fun E h Q hG hl hQ => ?_)
  refine sc_aload hG 1 rfl dX6_init_0 rfl 0 rfl ?_
  refine sc_obj hG 4 rfl (by decide +kernel) (by decide +kernel) (by decide +kernel) dX6_init_1 (by decide) (by decide) ?_
  refine sc_aload hG 5 rfl dX6_init_4 rfl 0 rfl ?_
  refine sc_new (ci := 0) (fs := [.int 0, .null, .null, .null, .null, .int 0, .int 0, .int 0, .int 0, .int 0]) hG tyX0 8 rfl rfl (by decide +kernel) tyX0_ok (by decide +kernel) (by decide +kernel) (by decide +kernel) (by decide) (1, 10) ⟨rfl, rfl⟩ ⟨Nat.le_of_ble_eq_true rfl, Nat.le_of_ble_eq_true rfl⟩ dX6_init_5 (fun pB0 => ?_)
  refine sc_dup hG 9 rfl dX6_init_8 rfl ?_
  refine sc_call (host := "ChoirRegister") (wr := ((h, .inr (6, [.null, .null, .null, .int 0, .null, .int 0, .null, .null])) :: ([]))) hG 12 rfl rfl (hl ▸ (c_X0_init : Cn l _ _ _ _ _ _ _ _)) (by decide +kernel) gX6_init_X0_init_n9 (by decide +kernel) (by decide +kernel) rfl (by decide) rfl (by decide) (Nat.le_of_ble_eq_true rfl) (106, 1529) ⟨rfl, rfl⟩ ⟨Nat.le_of_ble_eq_true rfl, Nat.le_of_ble_eq_true rfl⟩ dX6_init_9 (fun w1 hw1 => ?_)
  obtain ⟨B0, eB0, rfl⟩ := hw1
  subst eB0
  refine sc_putF (q0 := 0) (ci := 6) (j := 0) (ty0 := tyX6) hG 15 rfl rfl rfl (by decide +kernel) tyX6_ok nmX6 (by decide) rfl rfl rfl (by decide +kernel) rfl rfl (Nat.le_of_ble_eq_true rfl) dX6_init_12 ((h, .inr (6, [.ref (B0 0 0), .null, .null, .int 0, .null, .int 0, .null, .null])) :: (bokL g B0)) rfl ?_
  refine sc_aload hG 16 rfl dX6_init_15 rfl 0 rfl ?_
  refine sc_new (ci := 0) (fs := [.int 0, .null, .null, .null, .null, .int 0, .int 0, .int 0, .int 0, .int 0]) hG tyX0 19 rfl rfl (by decide +kernel) tyX0_ok (by decide +kernel) (by decide +kernel) (by decide +kernel) (by decide) (107, 1539) ⟨rfl, rfl⟩ ⟨Nat.le_of_ble_eq_true rfl, Nat.le_of_ble_eq_true rfl⟩ dX6_init_16 (fun pB1 => ?_)
  refine sc_dup hG 20 rfl dX6_init_19 rfl ?_
  refine sc_call (host := "ChoirRegister") (wr := ((h, .inr (6, [.ref (B0 0 0), .null, .null, .int 0, .null, .int 0, .null, .null])) :: (bokL g B0))) hG 23 rfl rfl (hl ▸ (c_X0_init : Cn l _ _ _ _ _ _ _ _)) (by decide +kernel) gX6_init_X0_init_n9 (by decide +kernel) (by decide +kernel) rfl (by decide) rfl (by decide) (Nat.le_of_ble_eq_true rfl) (212, 3058) ⟨rfl, rfl⟩ ⟨Nat.le_of_ble_eq_true rfl, Nat.le_of_ble_eq_true rfl⟩ dX6_init_20 (fun w1 hw1 => ?_)
  obtain ⟨B1, eB1, rfl⟩ := hw1
  subst eB1
  refine sc_putF (q0 := 0) (ci := 6) (j := 1) (ty0 := tyX6) hG 26 rfl rfl rfl (by decide +kernel) tyX6_ok nmX6 (by decide) rfl rfl rfl (by decide +kernel) rfl rfl (Nat.le_of_ble_eq_true rfl) dX6_init_23 ((h, .inr (6, [.ref (B0 0 0), .ref (B1 0 0), .null, .int 0, .null, .int 0, .null, .null])) :: (bokL g B0 ++ bokL g B1)) rfl ?_
  refine sc_aload hG 27 rfl dX6_init_26 rfl 0 rfl ?_
  refine sc_new (ci := 0) (fs := [.int 0, .null, .null, .null, .null, .int 0, .int 0, .int 0, .int 0, .int 0]) hG tyX0 30 rfl rfl (by decide +kernel) tyX0_ok (by decide +kernel) (by decide +kernel) (by decide +kernel) (by decide) (213, 3068) ⟨rfl, rfl⟩ ⟨Nat.le_of_ble_eq_true rfl, Nat.le_of_ble_eq_true rfl⟩ dX6_init_27 (fun pB2 => ?_)
  refine sc_dup hG 31 rfl dX6_init_30 rfl ?_
  refine sc_call (host := "ChoirRegister") (wr := ((h, .inr (6, [.ref (B0 0 0), .ref (B1 0 0), .null, .int 0, .null, .int 0, .null, .null])) :: (bokL g B0 ++ bokL g B1))) hG 34 rfl rfl (hl ▸ (c_X0_init : Cn l _ _ _ _ _ _ _ _)) (by decide +kernel) gX6_init_X0_init_n9 (by decide +kernel) (by decide +kernel) rfl (by decide) rfl (by decide) (Nat.le_of_ble_eq_true rfl) (318, 4587) ⟨rfl, rfl⟩ ⟨Nat.le_of_ble_eq_true rfl, Nat.le_of_ble_eq_true rfl⟩ dX6_init_31 (fun w1 hw1 => ?_)
  obtain ⟨B2, eB2, rfl⟩ := hw1
  subst eB2
  refine sc_putF (q0 := 0) (ci := 6) (j := 2) (ty0 := tyX6) hG 37 rfl rfl rfl (by decide +kernel) tyX6_ok nmX6 (by decide) rfl rfl rfl (by decide +kernel) rfl rfl (Nat.le_of_ble_eq_true rfl) dX6_init_34 ((h, .inr (6, [.ref (B0 0 0), .ref (B1 0 0), .ref (B2 0 0), .int 0, .null, .int 0, .null, .null])) :: (bokL g B0 ++ bokL g B1 ++ bokL g B2)) rfl ?_
  refine sc_aload hG 38 rfl dX6_init_37 rfl 0 rfl ?_
  refine sc_iconst (x := (0 : Int32)) hG 39 rfl dX6_init_38 rfl ?_
  refine sc_put (q0 := 0) (ci := 6) (j := 3) (ty0 := tyX6) hG 42 rfl rfl rfl (by decide +kernel) tyX6_ok nmX6 (by decide) rfl rfl (by decide +kernel) rfl rfl (Nat.le_of_ble_eq_true rfl) dX6_init_39 ((h, .inr (6, [.ref (B0 0 0), .ref (B1 0 0), .ref (B2 0 0), .int 0, .null, .int 0, .null, .null])) :: (bokL g B0 ++ bokL g B1 ++ bokL g B2)) rfl ?_
  refine sc_aload hG 43 rfl dX6_init_42 rfl 0 rfl ?_
  refine sc_iconst (x := (4 : Int32)) hG 44 rfl dX6_init_43 rfl ?_
  refine sc_newb (N := 4) hG 47 rfl (by decide +kernel) (by decide) rfl (Nat.le_of_ble_eq_true rfl) (319, 4591) ⟨rfl, rfl⟩ ⟨Nat.le_of_ble_eq_true rfl, Nat.le_of_ble_eq_true rfl⟩ dX6_init_44 (fun q => ?_)
  refine sc_perm (ws2 := ((h, .inr (6, [.ref (B0 0 0), .ref (B1 0 0), .ref (B2 0 0), .int 0, .null, .int 0, .null, .null])) :: (q, .inl (g 3, 4, .inr (.inr (.inr (.inr (fun _ => none)))))) :: (bokL g B0 ++ bokL g B1 ++ bokL g B2))) (List.Perm.cons _ List.perm_append_comm) ?_
  refine sc_putF (q0 := 0) (ci := 6) (j := 4) (ty0 := tyX6) hG 50 rfl rfl rfl (by decide +kernel) tyX6_ok nmX6 (by decide) rfl rfl rfl (by decide +kernel) rfl rfl (Nat.le_of_ble_eq_true rfl) dX6_init_47 ((h, .inr (6, [.ref (B0 0 0), .ref (B1 0 0), .ref (B2 0 0), .int 0, .ref q, .int 0, .null, .null])) :: (q, .inl (g 3, 4, .inr (.inr (.inr (.inr (fun _ => none)))))) :: (bokL g B0 ++ bokL g B1 ++ bokL g B2)) rfl ?_
  refine sc_aload hG 51 rfl dX6_init_50 rfl 0 rfl ?_
  refine sc_iconst (x := (0 : Int32)) hG 52 rfl dX6_init_51 rfl ?_
  refine sc_put (q0 := 0) (ci := 6) (j := 5) (ty0 := tyX6) hG 55 rfl rfl rfl (by decide +kernel) tyX6_ok nmX6 (by decide) rfl rfl (by decide +kernel) rfl rfl (Nat.le_of_ble_eq_true rfl) dX6_init_52 ((h, .inr (6, [.ref (B0 0 0), .ref (B1 0 0), .ref (B2 0 0), .int 0, .ref q, .int 0, .null, .null])) :: (q, .inl (g 3, 4, .inr (.inr (.inr (.inr (fun _ => none)))))) :: (bokL g B0 ++ bokL g B1 ++ bokL g B2)) rfl ?_
  refine sc_aload hG 56 rfl dX6_init_55 rfl 0 rfl ?_
  refine sc_new (ci := 2) (fs := [.null, .int 0, .int 0, .int 0, .null, .int 0]) hG tyX2 59 rfl rfl (by decide +kernel) tyX2_ok (by decide +kernel) (by decide +kernel) (by decide +kernel) (by decide) (320, 4597) ⟨rfl, rfl⟩ ⟨Nat.le_of_ble_eq_true rfl, Nat.le_of_ble_eq_true rfl⟩ dX6_init_56 (fun pLL => ?_)
  refine sc_dup hG 60 rfl dX6_init_59 rfl ?_
  refine sc_call (host := "ChoirRegister") (wr := ((h, .inr (6, [.ref (B0 0 0), .ref (B1 0 0), .ref (B2 0 0), .int 0, .ref q, .int 0, .null, .null])) :: (q, .inl (g 3, 4, .inr (.inr (.inr (.inr (fun _ => none)))))) :: (bokL g B0 ++ bokL g B1 ++ bokL g B2))) hG 63 rfl rfl (hl ▸ (c_X2_init : Cn l _ _ _ _ _ _ _ _)) (by decide +kernel) gX6_init_X2_init_n36 (by decide +kernel) (by decide +kernel) rfl (by decide) rfl (by decide) (Nat.le_of_ble_eq_true rfl) (322, 4682) ⟨rfl, rfl⟩ ⟨Nat.le_of_ble_eq_true rfl, Nat.le_of_ble_eq_true rfl⟩ dX6_init_60 (fun w1 hw1 => ?_)
  obtain ⟨LL, eLL, rfl⟩ := hw1
  subst eLL
  refine sc_putF (q0 := 0) (ci := 6) (j := 6) (ty0 := tyX6) hG 66 rfl rfl rfl (by decide +kernel) tyX6_ok nmX6 (by decide) rfl rfl rfl (by decide +kernel) rfl rfl (Nat.le_of_ble_eq_true rfl) dX6_init_63 ((h, .inr (6, [.ref (B0 0 0), .ref (B1 0 0), .ref (B2 0 0), .int 0, .ref q, .int 0, .ref (LL 0), .null])) :: (q, .inl (g 3, 4, .inr (.inr (.inr (.inr (fun _ => none)))))) :: (bokL g B0 ++ bokL g B1 ++ bokL g B2 ++ letL g LL)) rfl ?_
  refine sc_aload hG 67 rfl dX6_init_66 rfl 0 rfl ?_
  refine sc_new (ci := 3) (fs := [.null, .null, .null, .null, .null]) hG tyX3 70 rfl rfl (by decide +kernel) tyX3_ok (by decide +kernel) (by decide +kernel) (by decide +kernel) (by decide) (323, 4687) ⟨rfl, rfl⟩ ⟨Nat.le_of_ble_eq_true rfl, Nat.le_of_ble_eq_true rfl⟩ dX6_init_67 (fun pLN => ?_)
  refine sc_dup hG 71 rfl dX6_init_70 rfl ?_
  refine sc_call (host := "ChoirRegister") (wr := ((h, .inr (6, [.ref (B0 0 0), .ref (B1 0 0), .ref (B2 0 0), .int 0, .ref q, .int 0, .ref (LL 0), .null])) :: (q, .inl (g 3, 4, .inr (.inr (.inr (.inr (fun _ => none)))))) :: (bokL g B0 ++ bokL g B1 ++ bokL g B2 ++ letL g LL))) hG 74 rfl rfl (hl ▸ (c_X3_init : Cn l _ _ _ _ _ _ _ _)) (by decide +kernel) gX6_init_X3_init_n43 (by decide +kernel) (by decide +kernel) rfl (by decide) rfl (by decide) (Nat.le_of_ble_eq_true rfl) (328, 4797) ⟨rfl, rfl⟩ ⟨Nat.le_of_ble_eq_true rfl, Nat.le_of_ble_eq_true rfl⟩ dX6_init_71 (fun w1 hw1 => ?_)
  obtain ⟨LN, eLN, rfl⟩ := hw1
  subst eLN
  refine sc_putF (q0 := 0) (ci := 6) (j := 7) (ty0 := tyX6) hG 77 rfl rfl rfl (by decide +kernel) tyX6_ok nmX6 (by decide) rfl rfl rfl (by decide +kernel) rfl rfl (Nat.le_of_ble_eq_true rfl) dX6_init_74 ((h, .inr (6, [.ref (B0 0 0), .ref (B1 0 0), .ref (B2 0 0), .int 0, .ref q, .int 0, .ref (LL 0), .ref (LN 0)])) :: (q, .inl (g 3, 4, .inr (.inr (.inr (.inr (fun _ => none)))))) :: (bokL g B0 ++ bokL g B1 ++ bokL g B2 ++ letL g LL ++ linL g LN)) rfl ?_
  refine sc_iconst (x := (0 : Int32)) hG 78 rfl dX6_init_77 rfl ?_
  refine sc_istore hG 79 rfl dX6_init_78 rfl (by decide) [(1, .int 0), (0, .ref h)] rfl ?_
  refine sc_iload hG 80 rfl dX6_init_79 rfl 0 rfl ?_
  refine sc_iconst (x := (4 : Int32)) hG 81 rfl dX6_init_80 rfl ?_
  refine sc_geN hG 103 84 rfl dX6_init_81 (by decide) (by decide) ?_
  refine sc_aload hG 85 rfl dX6_init_84 rfl 1 rfl ?_
  refine sc_getr (q0 := 0) (ci := 6) (j := 4) (x := .ref q) hG 88 rfl rfl rfl (by decide +kernel) (by decide) rfl (by decide +kernel) rfl dX6_init_85 ?_
  refine sc_iload hG 89 rfl dX6_init_88 rfl 0 rfl ?_
  refine sc_new (ci := 0) (fs := [.int 0, .null, .null, .null, .null, .int 0, .int 0, .int 0, .int 0, .int 0]) hG tyX0 92 rfl rfl (by decide +kernel) tyX0_ok (by decide +kernel) (by decide +kernel) (by decide +kernel) (by decide) (329, 4807) ⟨rfl, rfl⟩ ⟨Nat.le_of_ble_eq_true rfl, Nat.le_of_ble_eq_true rfl⟩ dX6_init_89 (fun pB3 => ?_)
  refine sc_dup hG 93 rfl dX6_init_92 rfl ?_
  refine sc_call (host := "ChoirRegister") (wr := ((h, .inr (6, [.ref (B0 0 0), .ref (B1 0 0), .ref (B2 0 0), .int 0, .ref q, .int 0, .ref (LL 0), .ref (LN 0)])) :: (q, .inl (g 3, 4, .inr (.inr (.inr (.inr (fun _ => none)))))) :: (bokL g B0 ++ bokL g B1 ++ bokL g B2 ++ letL g LL ++ linL g LN))) hG 96 rfl rfl (hl ▸ (c_X0_init : Cn l _ _ _ _ _ _ _ _)) (by decide +kernel) gX6_init_X0_init_n9 (by decide +kernel) (by decide +kernel) rfl (by decide) rfl (by decide) (Nat.le_of_ble_eq_true rfl) (434, 6326) ⟨rfl, rfl⟩ ⟨Nat.le_of_ble_eq_true rfl, Nat.le_of_ble_eq_true rfl⟩ dX6_init_93 (fun w1 hw1 => ?_)
  obtain ⟨B3, eB3, rfl⟩ := hw1
  subst eB3
  refine sc_aast (q0 := 1) (q1 := (((h, .inr (6, [.ref (B0 0 0), .ref (B1 0 0), .ref (B2 0 0), .int 0, .ref q, .int 0, .ref (LL 0), .ref (LN 0)])) :: (q, .inl (g 3, 4, .inr (.inr (.inr (.inr (fun _ => none)))))) :: (bokL g B0 ++ bokL g B1 ++ bokL g B2 ++ letL g LL ++ linL g LN)) : va_W).length) (ci := 0) (N := 4) hG 97 rfl rfl (by rw [List.getElem?_append_right (Nat.le_refl _), Nat.sub_self]; rfl) rfl (by unfold vp_in; decide) dX6_init_96 ((h, .inr (6, [.ref (B0 0 0), .ref (B1 0 0), .ref (B2 0 0), .int 0, .ref q, .int 0, .ref (LL 0), .ref (LN 0)])) :: (q, .inl (g 3, 4, .inr (.inr (.inr (.inr (va_up (fun _ => none) 0 (some (B3 0 0)))))))) :: (bokL g B0 ++ bokL g B1 ++ bokL g B2 ++ letL g LL ++ linL g LN ++ bokL g B3)) rfl ?_
  refine sc_iinc hG 100 rfl dX6_init_97 (j := 0) rfl (y := (1 : Int32)) (by decide) (by decide) [(1, .int 1), (0, .ref h)] rfl ?_
  refine sc_goto hG 79 dX6_init_100 (by decide) ?_
  refine sc_iload hG 80 rfl dX6_init_79 rfl 0 rfl ?_
  refine sc_iconst (x := (4 : Int32)) hG 81 rfl dX6_init_80 rfl ?_
  refine sc_geN hG 103 84 rfl dX6_init_81 (by decide) (by decide) ?_
  refine sc_aload hG 85 rfl dX6_init_84 rfl 1 rfl ?_
  refine sc_getr (q0 := 0) (ci := 6) (j := 4) (x := .ref q) hG 88 rfl rfl rfl (by decide +kernel) (by decide) rfl (by decide +kernel) rfl dX6_init_85 ?_
  refine sc_iload hG 89 rfl dX6_init_88 rfl 0 rfl ?_
  refine sc_new (ci := 0) (fs := [.int 0, .null, .null, .null, .null, .int 0, .int 0, .int 0, .int 0, .int 0]) hG tyX0 92 rfl rfl (by decide +kernel) tyX0_ok (by decide +kernel) (by decide +kernel) (by decide +kernel) (by decide) (435, 6336) ⟨rfl, rfl⟩ ⟨Nat.le_of_ble_eq_true rfl, Nat.le_of_ble_eq_true rfl⟩ dX6_init_89 (fun pB4 => ?_)
  refine sc_dup hG 93 rfl dX6_init_92 rfl ?_
  refine sc_call (host := "ChoirRegister") (wr := ((h, .inr (6, [.ref (B0 0 0), .ref (B1 0 0), .ref (B2 0 0), .int 0, .ref q, .int 0, .ref (LL 0), .ref (LN 0)])) :: (q, .inl (g 3, 4, .inr (.inr (.inr (.inr (va_up (fun _ => none) 0 (some (B3 0 0)))))))) :: (bokL g B0 ++ bokL g B1 ++ bokL g B2 ++ letL g LL ++ linL g LN ++ bokL g B3))) hG 96 rfl rfl (hl ▸ (c_X0_init : Cn l _ _ _ _ _ _ _ _)) (by decide +kernel) gX6_init_X0_init_n9 (by decide +kernel) (by decide +kernel) rfl (by decide) rfl (by decide) (Nat.le_of_ble_eq_true rfl) (540, 7855) ⟨rfl, rfl⟩ ⟨Nat.le_of_ble_eq_true rfl, Nat.le_of_ble_eq_true rfl⟩ dX6_init_93 (fun w1 hw1 => ?_)
  obtain ⟨B4, eB4, rfl⟩ := hw1
  subst eB4
  refine sc_aast (q0 := 1) (q1 := (((h, .inr (6, [.ref (B0 0 0), .ref (B1 0 0), .ref (B2 0 0), .int 0, .ref q, .int 0, .ref (LL 0), .ref (LN 0)])) :: (q, .inl (g 3, 4, .inr (.inr (.inr (.inr (va_up (fun _ => none) 0 (some (B3 0 0)))))))) :: (bokL g B0 ++ bokL g B1 ++ bokL g B2 ++ letL g LL ++ linL g LN ++ bokL g B3)) : va_W).length) (ci := 0) (N := 4) hG 97 rfl rfl (by rw [List.getElem?_append_right (Nat.le_refl _), Nat.sub_self]; rfl) rfl (by unfold vp_in; decide) dX6_init_96 ((h, .inr (6, [.ref (B0 0 0), .ref (B1 0 0), .ref (B2 0 0), .int 0, .ref q, .int 0, .ref (LL 0), .ref (LN 0)])) :: (q, .inl (g 3, 4, .inr (.inr (.inr (.inr (va_up (va_up (fun _ => none) 0 (some (B3 0 0))) 1 (some (B4 0 0)))))))) :: (bokL g B0 ++ bokL g B1 ++ bokL g B2 ++ letL g LL ++ linL g LN ++ bokL g B3 ++ bokL g B4)) rfl ?_
  refine sc_iinc hG 100 rfl dX6_init_97 (j := 0) rfl (y := (2 : Int32)) (by decide) (by decide) [(1, .int 2), (0, .ref h)] rfl ?_
  refine sc_goto hG 79 dX6_init_100 (by decide) ?_
  refine sc_iload hG 80 rfl dX6_init_79 rfl 0 rfl ?_
  refine sc_iconst (x := (4 : Int32)) hG 81 rfl dX6_init_80 rfl ?_
  refine sc_geN hG 103 84 rfl dX6_init_81 (by decide) (by decide) ?_
  refine sc_aload hG 85 rfl dX6_init_84 rfl 1 rfl ?_
  refine sc_getr (q0 := 0) (ci := 6) (j := 4) (x := .ref q) hG 88 rfl rfl rfl (by decide +kernel) (by decide) rfl (by decide +kernel) rfl dX6_init_85 ?_
  refine sc_iload hG 89 rfl dX6_init_88 rfl 0 rfl ?_
  refine sc_new (ci := 0) (fs := [.int 0, .null, .null, .null, .null, .int 0, .int 0, .int 0, .int 0, .int 0]) hG tyX0 92 rfl rfl (by decide +kernel) tyX0_ok (by decide +kernel) (by decide +kernel) (by decide +kernel) (by decide) (541, 7865) ⟨rfl, rfl⟩ ⟨Nat.le_of_ble_eq_true rfl, Nat.le_of_ble_eq_true rfl⟩ dX6_init_89 (fun pB5 => ?_)
  refine sc_dup hG 93 rfl dX6_init_92 rfl ?_
  refine sc_call (host := "ChoirRegister") (wr := ((h, .inr (6, [.ref (B0 0 0), .ref (B1 0 0), .ref (B2 0 0), .int 0, .ref q, .int 0, .ref (LL 0), .ref (LN 0)])) :: (q, .inl (g 3, 4, .inr (.inr (.inr (.inr (va_up (va_up (fun _ => none) 0 (some (B3 0 0))) 1 (some (B4 0 0)))))))) :: (bokL g B0 ++ bokL g B1 ++ bokL g B2 ++ letL g LL ++ linL g LN ++ bokL g B3 ++ bokL g B4))) hG 96 rfl rfl (hl ▸ (c_X0_init : Cn l _ _ _ _ _ _ _ _)) (by decide +kernel) gX6_init_X0_init_n9 (by decide +kernel) (by decide +kernel) rfl (by decide) rfl (by decide) (Nat.le_of_ble_eq_true rfl) (646, 9384) ⟨rfl, rfl⟩ ⟨Nat.le_of_ble_eq_true rfl, Nat.le_of_ble_eq_true rfl⟩ dX6_init_93 (fun w1 hw1 => ?_)
  obtain ⟨B5, eB5, rfl⟩ := hw1
  subst eB5
  refine sc_aast (q0 := 1) (q1 := (((h, .inr (6, [.ref (B0 0 0), .ref (B1 0 0), .ref (B2 0 0), .int 0, .ref q, .int 0, .ref (LL 0), .ref (LN 0)])) :: (q, .inl (g 3, 4, .inr (.inr (.inr (.inr (va_up (va_up (fun _ => none) 0 (some (B3 0 0))) 1 (some (B4 0 0)))))))) :: (bokL g B0 ++ bokL g B1 ++ bokL g B2 ++ letL g LL ++ linL g LN ++ bokL g B3 ++ bokL g B4)) : va_W).length) (ci := 0) (N := 4) hG 97 rfl rfl (by rw [List.getElem?_append_right (Nat.le_refl _), Nat.sub_self]; rfl) rfl (by unfold vp_in; decide) dX6_init_96 ((h, .inr (6, [.ref (B0 0 0), .ref (B1 0 0), .ref (B2 0 0), .int 0, .ref q, .int 0, .ref (LL 0), .ref (LN 0)])) :: (q, .inl (g 3, 4, .inr (.inr (.inr (.inr (va_up (va_up (va_up (fun _ => none) 0 (some (B3 0 0))) 1 (some (B4 0 0))) 2 (some (B5 0 0)))))))) :: (bokL g B0 ++ bokL g B1 ++ bokL g B2 ++ letL g LL ++ linL g LN ++ bokL g B3 ++ bokL g B4 ++ bokL g B5)) rfl ?_
  refine sc_iinc hG 100 rfl dX6_init_97 (j := 0) rfl (y := (3 : Int32)) (by decide) (by decide) [(1, .int 3), (0, .ref h)] rfl ?_
  refine sc_goto hG 79 dX6_init_100 (by decide) ?_
  refine sc_iload hG 80 rfl dX6_init_79 rfl 0 rfl ?_
  refine sc_iconst (x := (4 : Int32)) hG 81 rfl dX6_init_80 rfl ?_
  refine sc_geN hG 103 84 rfl dX6_init_81 (by decide) (by decide) ?_
  refine sc_aload hG 85 rfl dX6_init_84 rfl 1 rfl ?_
  refine sc_getr (q0 := 0) (ci := 6) (j := 4) (x := .ref q) hG 88 rfl rfl rfl (by decide +kernel) (by decide) rfl (by decide +kernel) rfl dX6_init_85 ?_
  refine sc_iload hG 89 rfl dX6_init_88 rfl 0 rfl ?_
  refine sc_new (ci := 0) (fs := [.int 0, .null, .null, .null, .null, .int 0, .int 0, .int 0, .int 0, .int 0]) hG tyX0 92 rfl rfl (by decide +kernel) tyX0_ok (by decide +kernel) (by decide +kernel) (by decide +kernel) (by decide) (647, 9394) ⟨rfl, rfl⟩ ⟨Nat.le_of_ble_eq_true rfl, Nat.le_of_ble_eq_true rfl⟩ dX6_init_89 (fun pB6 => ?_)
  refine sc_dup hG 93 rfl dX6_init_92 rfl ?_
  refine sc_call (host := "ChoirRegister") (wr := ((h, .inr (6, [.ref (B0 0 0), .ref (B1 0 0), .ref (B2 0 0), .int 0, .ref q, .int 0, .ref (LL 0), .ref (LN 0)])) :: (q, .inl (g 3, 4, .inr (.inr (.inr (.inr (va_up (va_up (va_up (fun _ => none) 0 (some (B3 0 0))) 1 (some (B4 0 0))) 2 (some (B5 0 0)))))))) :: (bokL g B0 ++ bokL g B1 ++ bokL g B2 ++ letL g LL ++ linL g LN ++ bokL g B3 ++ bokL g B4 ++ bokL g B5))) hG 96 rfl rfl (hl ▸ (c_X0_init : Cn l _ _ _ _ _ _ _ _)) (by decide +kernel) gX6_init_X0_init_n9 (by decide +kernel) (by decide +kernel) rfl (by decide) rfl (by decide) (Nat.le_of_ble_eq_true rfl) (752, 10913) ⟨rfl, rfl⟩ ⟨Nat.le_of_ble_eq_true rfl, Nat.le_of_ble_eq_true rfl⟩ dX6_init_93 (fun w1 hw1 => ?_)
  obtain ⟨B6, eB6, rfl⟩ := hw1
  subst eB6
  refine sc_aast (q0 := 1) (q1 := (((h, .inr (6, [.ref (B0 0 0), .ref (B1 0 0), .ref (B2 0 0), .int 0, .ref q, .int 0, .ref (LL 0), .ref (LN 0)])) :: (q, .inl (g 3, 4, .inr (.inr (.inr (.inr (va_up (va_up (va_up (fun _ => none) 0 (some (B3 0 0))) 1 (some (B4 0 0))) 2 (some (B5 0 0)))))))) :: (bokL g B0 ++ bokL g B1 ++ bokL g B2 ++ letL g LL ++ linL g LN ++ bokL g B3 ++ bokL g B4 ++ bokL g B5)) : va_W).length) (ci := 0) (N := 4) hG 97 rfl rfl (by rw [List.getElem?_append_right (Nat.le_refl _), Nat.sub_self]; rfl) rfl (by unfold vp_in; decide) dX6_init_96 ((h, .inr (6, [.ref (B0 0 0), .ref (B1 0 0), .ref (B2 0 0), .int 0, .ref q, .int 0, .ref (LL 0), .ref (LN 0)])) :: (q, .inl (g 3, 4, .inr (.inr (.inr (.inr (va_up (va_up (va_up (va_up (fun _ => none) 0 (some (B3 0 0))) 1 (some (B4 0 0))) 2 (some (B5 0 0))) 3 (some (B6 0 0)))))))) :: (bokL g B0 ++ bokL g B1 ++ bokL g B2 ++ letL g LL ++ linL g LN ++ bokL g B3 ++ bokL g B4 ++ bokL g B5 ++ bokL g B6)) rfl ?_
  refine sc_iinc hG 100 rfl dX6_init_97 (j := 0) rfl (y := (4 : Int32)) (by decide) (by decide) [(1, .int 4), (0, .ref h)] rfl ?_
  refine sc_goto hG 79 dX6_init_100 (by decide) ?_
  refine sc_iload hG 80 rfl dX6_init_79 rfl 0 rfl ?_
  refine sc_iconst (x := (4 : Int32)) hG 81 rfl dX6_init_80 rfl ?_
  refine sc_geY hG 103 dX6_init_81 (by decide) (by decide) ?_
  exact sc_ret hG hQ ⟨Nat.le_of_ble_eq_true rfl, Nat.le_of_ble_eq_true rfl⟩ dX6_init_103 ⟨q, (fun o => match o with | 0 => B0 | 1 => B1 | 2 => B2 | 3 => B3 | 4 => B4 | 5 => B5 | _ => B6), LL, LN, rfl⟩
