/-! THE LAW'S FIRST CALLS -/
theorem init_all : ∃ v1 v2 v3 v4 v5 w5 u h, nn (f_X6_register 12 150 10 30 13 v0) = some (0, v1) ∧ nn (f_X6_register 30 170 0 20 0 v1) = some (1, v2) ∧ nn (f_X6_announce 30 2 v2) = some (0, v3) ∧ nn (f_X6_setLine 0 0 2 12 18 v3) = some (2, v4) ∧ f_X6_takeSnapshot v4 = some (0, v5) ∧ f_L_seen v5 = some (h, u) ∧ ∀ o, LI u w5 o 0 h := by
  obtain ⟨v1, v2, v3, v4, e1, e2, e3, e4, hR, w, hI⟩ := init_ok
  have a5 : v4 (0, 0, 0) 5 = nI 4 := hR (0, 0, 0) 5 0 5 5 4 (Or.inl ⟨⟨Or.inl rfl, rfl, rfl⟩, rfl, rfl, rfl⟩) (by decide +kernel)
  have a0 : v4 (1, 0, 0) 0 = nI 0 := hR (1, 0, 0) 0 1 10 0 0 (Or.inr (Or.inl ⟨Or.inl (by decide), rfl, rfl, rfl, rfl⟩)) (by decide +kernel)
  have al : v4 (32, 0, 0) 1 = nI 0 := hR (32, 0, 0) 1 0 7 1 0 (Or.inl ⟨⟨Or.inr (by decide), rfl, rfl⟩, rfl, rfl, rfl⟩) (by decide +kernel)
  obtain ⟨D, v5, w5, e5, d5, i5, c3, c1, c4, c2, c11⟩ := ts_ok hI
  have hI0 := hI
  obtain ⟨⟨D', n, m, f, dd, R⟩, ⟨k, bk, b1, b2, b3, -⟩, -, len, l1, l2, l3, -⟩ := hI0
  have h2 : w 0 2 = nI 4 := b3.trans (b2.symm.trans a5)
  have h11 : w 0 11 = 0 := l3.trans (l2.symm.trans al)
  have h10 : w 1 0 = 0 := R.2.1.2.1.trans (R.2.1.1.symm.trans a0)
  have eD : (nI D : Int32) = 0 := d5.symm.trans h10
  obtain ⟨h, u, e6, c6, hs⟩ := sn_new i5
  refine ⟨v1, v2, v3, v4, v5, w5, u, h, e1, e2, e3, e4, by rw [e5, eD], e6, fun o => ⟨IV_CL i5 c6, c2.trans h2, c4, c11.trans h11, (c3 0 (by omega)).trans h10, SNr_x (fun i hi => ?_) hs, fun d a b c => absurd c (by omega)⟩⟩
  rw [c1, c3 i hi]
set_option maxRecDepth 100000 in
set_option maxHeartbeats 4000000 in
theorem law_init {P : pS} (hP : Ap P) {Γ : jG Unit} (hG : jOk Γ (lS P) cL_law RL wsL_law room_1) (hN : Γ.2.1 = 14) (hfl : Γ.1.2.1.stackTraces = false) (hL : P.2.2.2.2.2.2.1 ≤ 260) {cs : Nat × Nat} (h1 : cs.1 + 104 ≤ 10000) (h2 : cs.2 + 624 ≤ 100000) {o : Nat → Int32}
    (hE : ∀ (cs : Nat × Nat) (ls : List (Nat × Value)) (v' : mS), cs.1 ≤ 600074 → cs.2 ≤ 7301550 → Sm Γ (lS P) cs 600 ls [.int 1] v' (some ())) : Sm Γ (lS P) cs 29 [(3, .int 0), (2, .ref P.2.2.2.1), (1, .ref (P.2.2.1 (0, 0, 0))), (0, .ref P.2.2.2.2.2.1)] [] (m2 v0 o) (some ()) := by
  have hcs : cs.1 ≤ 600074 ∧ cs.2 ≤ 7301550 := ⟨by omega, by omega⟩
  obtain ⟨v1, v2, v3, v4, v5, w5, u, h, e1, e2, e3, e4, e5, e6, hI⟩ := init_all
  refine sm_aload_n hG 30 rfl dL_law_29 rfl 2 rfl ?_
  refine sm_bipush (x := 12) hG 32 rfl dL_law_30 rfl ?_
  refine sm_sipush (x := 150) hG 35 rfl dL_law_32 rfl ?_
  refine sm_bipush (x := 10) hG 37 rfl dL_law_35 rfl ?_
  refine sm_bipush (x := 30) hG 39 rfl dL_law_37 rfl ?_
  refine sm_bipush (x := 13) hG 41 rfl dL_law_39 rfl ?_
  refine sl_callV hG (.inl (0, 0, 0)) [.int 12, .int 150, .int 10, .int 30, .int 13] 44 rfl okS_0 ceS_0 (ci := 6) rfl (lift_C hP (c0n_X6_register (lC_ok hP) e1)) gL_law_X6_register rfl (by decide) (by decide) (n := 5) rfl (Nat.le_of_ble_eq_true rfl) ⟨rfl, rfl⟩ hcs rfl dL_law_41 ?_
  refine sl_ne hG 96 47 rfl dL_law_44 (by decide) (fun z => absurd rfl z) (fun _ => ?_)
  refine sm_aload_n hG 48 rfl dL_law_47 rfl 2 rfl ?_
  refine sm_bipush (x := 30) hG 50 rfl dL_law_48 rfl ?_
  refine sm_sipush (x := 170) hG 53 rfl dL_law_50 rfl ?_
  refine sm_iconst (x := 0) hG 54 rfl dL_law_53 rfl ?_
  refine sm_bipush (x := 20) hG 56 rfl dL_law_54 rfl ?_
  refine sm_iconst (x := 0) hG 57 rfl dL_law_56 rfl ?_
  refine sl_callV hG (.inl (0, 0, 0)) [.int 30, .int 170, .int 0, .int 20, .int 0] 60 rfl okS_0 ceS_0 (ci := 6) rfl (lift_C hP (c0n_X6_register (lC_ok hP) e2)) gL_law_X6_register rfl (by decide) (by decide) (n := 5) rfl (Nat.le_of_ble_eq_true rfl) ⟨rfl, rfl⟩ hcs rfl dL_law_57 ?_
  refine sm_iconst (x := 1) hG 61 rfl dL_law_60 rfl ?_
  refine sl_ine hG 96 64 rfl dL_law_61 (by decide) (fun z => absurd rfl z) (fun _ => ?_)
  refine sm_aload_n hG 65 rfl dL_law_64 rfl 2 rfl ?_
  refine sm_bipush (x := 30) hG 67 rfl dL_law_65 rfl ?_
  refine sm_iconst (x := 2) hG 68 rfl dL_law_67 rfl ?_
  refine sl_callV hG (.inl (0, 0, 0)) [.int 30, .int 2] 71 rfl okS_0 ceS_0 (ci := 6) rfl (lift_C hP (c0n_X6_announce (lC_ok hP) e3)) gL_law_X6_announce rfl (by decide) (by decide) (n := 2) rfl (Nat.le_of_ble_eq_true rfl) ⟨rfl, rfl⟩ hcs rfl dL_law_68 ?_
  refine sl_ne hG 96 74 rfl dL_law_71 (by decide) (fun z => absurd rfl z) (fun _ => ?_)
  refine sm_aload_n hG 75 rfl dL_law_74 rfl 2 rfl ?_
  refine sm_iconst (x := 0) hG 76 rfl dL_law_75 rfl ?_
  refine sm_iconst (x := 0) hG 77 rfl dL_law_76 rfl ?_
  refine sm_iconst (x := 2) hG 78 rfl dL_law_77 rfl ?_
  refine sm_bipush (x := 12) hG 80 rfl dL_law_78 rfl ?_
  refine sm_bipush (x := 18) hG 82 rfl dL_law_80 rfl ?_
  refine sl_callV hG (.inl (0, 0, 0)) [.int 0, .int 0, .int 2, .int 12, .int 18] 85 rfl okS_0 ceS_0 (ci := 6) rfl (lift_C hP (c0n_X6_setLine (lC_ok hP) e4)) gL_law_X6_setLine rfl (by decide) (by decide) (n := 5) rfl (Nat.le_of_ble_eq_true rfl) ⟨rfl, rfl⟩ hcs rfl dL_law_82 ?_
  refine sm_iconst (x := 2) hG 86 rfl dL_law_85 rfl ?_
  refine sl_ine hG 96 89 rfl dL_law_86 (by decide) (fun z => absurd rfl z) (fun _ => ?_)
  refine sm_aload_n hG 90 rfl dL_law_89 rfl 2 rfl ?_
  refine sl_callV hG (.inl (0, 0, 0)) [] 93 rfl okS_0 ceS_0 (ci := 6) rfl (lift_C hP (c_X6_takeSnapshot (lC_ok hP) e5)) gL_law_X6_takeSnapshot rfl (by decide) (by decide) (n := 0) rfl (Nat.le_of_ble_eq_true rfl) ⟨rfl, rfl⟩ hcs rfl dL_law_90 ?_
  refine sl_eq hG 98 96 rfl dL_law_93 (by decide) (fun _ => ?_) (fun z => absurd rfl z)
  refine sm_aload_n hG 99 rfl dL_law_98 rfl 2 rfl ?_
  refine sl_callS hG [.ref (P.2.2.1 (0, 0, 0))] 102 rfl (lift_C hP (c_L_seen (lC_ok hP) e6)) gL_law_L_seen rfl (by decide) (by decide) (n := 1) rfl (Nat.le_of_ble_eq_true rfl) (cs.1, cs.2) ⟨rfl, rfl⟩ hcs rfl dL_law_99 ?_
  refine sl_lstore hG 104 rfl dL_law_102 (jlt hN rfl) [(4, .long h), (3, .int 0), (2, .ref P.2.2.2.1), (1, .ref (P.2.2.1 (0, 0, 0))), (0, .ref P.2.2.2.2.2.1)] rfl ?_
  refine sm_iconst (x := 0) hG 105 rfl dL_law_104 rfl ?_
  refine sm_istore hG 107 rfl dL_law_105 (jlt hN rfl) [(6, .int 0), (4, .long h), (3, .int 0), (2, .ref P.2.2.2.1), (1, .ref (P.2.2.1 (0, 0, 0))), (0, .ref P.2.2.2.2.2.1)] rfl ?_
  refine sm_loc [5, 4, 3, 2, 1, 0] (lsA P 0 h 0) rfl ?_
  exact law_turns hP hG hN hfl hL (fun cs n v w o a1 a2 hn hI => law_after hP hG hN hfl a1 a2 hn hI hE) 26 0 cs 0 u w5 o rfl (Nat.le_refl _) (by omega) (by omega) (hI o)
