/-! WHAT THE LAW SEES HANGS ON THE BOOK: two worlds with one book are seen alike, and seeing changes the lineup alone -/
def T2 {α : Type} (v1 v2 : mC) (F1 F2 : Option (α × mC)) : Prop := ∃ x u1 u2, F1 = some (x, u1) ∧ F2 = some (x, u2) ∧ CF v1 u1 ∧ CF v2 u2
theorem CF_tr {u v w : mC} (h1 : CF u v) (h2 : CF v w) : CF u w := fun z hz => (h2 z hz).trans (h1 z hz)
section T2s
variable {w : mM} {D n m f : Nat} {dd : Nat → Nat} {v1 v2 : mC}
theorem t2_oa {P : Prop} {F1 F2 : Option (Int32 × Nat × mC)} {G : Option (Int32 × mM)} (h1 : OA P v1 F1 G) (h2 : OA P v2 F2 G) (hp : P) : T2 v1 v2 (nn F1) (nn F2) := by
  obtain ⟨x, u1, w1, a1, a2, a3⟩ := h1.1 hp
  obtain ⟨y, u2, w2, b1, b2, b3⟩ := h2.1 hp
  rw [a2] at b2
  cases b2
  exact ⟨x, u1, u2, by rw [a1]; rfl, by rw [b1]; rfl, a3, b3⟩
theorem t2_b {α β : Type} {F1 F2 : Option (α × mC)} {f1 f2 : α × mC → Option (β × mC)} (R1 : Rl v1 0 (w 1) D n m f dd) (R2 : Rl v2 0 (w 1) D n m f dd) (h : T2 v1 v2 F1 F2) (k : ∀ x u1 u2, Rl u1 0 (w 1) D n m f dd → Rl u2 0 (w 1) D n m f dd → T2 u1 u2 (f1 (x, u1)) (f2 (x, u2))) : T2 v1 v2 (F1.bind f1) (F2.bind f2) := by
  obtain ⟨x, u1, u2, e1, e2, c1, c2⟩ := h
  obtain ⟨y, t1, t2, g1, g2, d1, d2⟩ := k x u1 u2 (Rl_F (w' := w) R1 c1 rfl) (Rl_F (w' := w) R2 c2 rfl)
  exact ⟨y, t1, t2, by rw [e1]; exact g1, by rw [e2]; exact g2, CF_tr c1 d1, CF_tr c2 d2⟩
theorem t2_i {α β : Type} {F1 F2 : Option α} {f1 f2 : α → Option (β × mC)} {x : α} (h1 : F1 = some x) (h2 : F2 = some x) (k : T2 v1 v2 (f1 x) (f2 x)) : T2 v1 v2 (F1.bind f1) (F2.bind f2) := by
  rw [h1, h2]
  exact k
theorem t2_lt {α X : Type} {x : X} {f1 f2 : X → Option (α × mC)} (k : ∀ y, T2 v1 v2 (f1 y) (f2 y)) : T2 v1 v2 (lt x f1) (lt x f2) := k x
theorem t2_p {α : Type} {P : Prop} [Decidable P] {A A' B B' : Option (α × mC)} (h : P) (k : T2 v1 v2 A A') : T2 v1 v2 (if P then A else B) (if P then A' else B') := by rw [if_pos h, if_pos h]; exact k
theorem t2_n {α : Type} {P : Prop} [Decidable P] {A A' B B' : Option (α × mC)} (h : ¬ P) (k : T2 v1 v2 B B') : T2 v1 v2 (if P then A else B) (if P then A' else B') := by rw [if_neg h, if_neg h]; exact k
theorem t2_c {α : Type} {P : Prop} [Decidable P] {A A' B B' : Option (α × mC)} (k1 : T2 v1 v2 A A') (k2 : T2 v1 v2 B B') : T2 v1 v2 (if P then A else B) (if P then A' else B') := by
  by_cases h : P
  · exact t2_p h k1
  · exact t2_n h k2
theorem t2_s {α : Type} {x : α} : T2 v1 v2 (some (x, v1)) (some (x, v2)) := ⟨x, v1, v2, rfl, rfl, CF_rf v1, CF_rf v2⟩
theorem gi_0 {k n : Nat} (h : k ≤ n) (hn : n < 2147483648) : 0 ≤ nI k ∧ nI k ≤ nI n := ⟨nI_le (a := 0) (Nat.zero_le _) (by omega), nI_le h hn⟩
theorem sn_279 : ∀ (d c fuel : Nat), c + d = 5 → d < fuel → ∀ (h : Int64) (v1 v2 : mC), Rl v1 0 (w 1) D n m f dd → Rl v2 0 (w 1) D n m f dd → T2 v1 v2 (lp (fun _ _ _ => none) L_L_seen_279 fuel h (nI c) v1) (lp (fun _ _ _ => none) L_L_seen_279 fuel h (nI c) v2)
  | _, _, 0, _, hf, _, _, _, _, _ => absurd hf (Nat.not_lt_zero _)
  | 0, c, fuel + 1, hc, _, h, v1, v2, R1, R2 => by
    obtain rfl : c = 5 := by omega
    show T2 v1 v2 (L_L_seen_279 _ h (nI 5) v1) (L_L_seen_279 _ h (nI 5) v2)
    unfold L_L_seen_279
    exact t2_p (by decide) t2_s
  | d + 1, c, fuel + 1, hc, hf, h, v1, v2, R1, R2 => by
    show T2 v1 v2 (L_L_seen_279 (lp (fun _ _ _ => none) L_L_seen_279 fuel) h (nI c) v1) (L_L_seen_279 (lp (fun _ _ _ => none) L_L_seen_279 fuel) h (nI c) v2)
    generalize hs : lp (fun _ _ _ => none) L_L_seen_279 fuel = self
    unfold L_L_seen_279
    refine t2_n (show ¬ (5 : Int32) ≤ nI c from nI_ge (b := 5) (by omega) (by omega)) ?_
    refine t2_b R1 R2 (t2_oa (oa_favoursOf R1 (nI c)) (oa_favoursOf R2 (nI c)) (gi_0 (n := 4) (by omega) (by omega))) (fun x u1 u2 R1 R2 => ?_)
    have k := sn_279 d (c + 1) fuel (by omega) (by omega) (31 * h + x.toInt64) u1 u2 R1 R2
    rw [hs, ← qi_add c 1] at k
    exact k
theorem sn_231 {x3 : Int32} {s : Nat} (hs3 : x3 = nI s) (hs : s < f) {self : Int64 → Int32 → mC → Option (Int64 × mC)} (hself : ∀ (h : Int64) (v1 v2 : mC), Rl v1 0 (w 1) D n m f dd → Rl v2 0 (w 1) D n m f dd → T2 v1 v2 (self h (x3 + 1) v1) (self h (x3 + 1) v2)) (hf20 : f ≤ 20) : ∀ (d c fuel : Nat), c + d = 4 → d < fuel → ∀ (h : Int64) (v1 v2 : mC), Rl v1 0 (w 1) D n m f dd → Rl v2 0 (w 1) D n m f dd → T2 v1 v2 (lp (fun _ _ _ => none) (L_L_seen_231 x3 self) fuel h (nI c) v1) (lp (fun _ _ _ => none) (L_L_seen_231 x3 self) fuel h (nI c) v2)
  | _, _, 0, _, hf, _, _, _, _, _ => absurd hf (Nat.not_lt_zero _)
  | 0, c, fuel + 1, hc, _, h, v1, v2, R1, R2 => by
    obtain rfl : c = 4 := by omega
    show T2 v1 v2 (L_L_seen_231 x3 self _ h (nI 4) v1) (L_L_seen_231 x3 self _ h (nI 4) v2)
    unfold L_L_seen_231
    exact t2_p (by decide) (hself h v1 v2 R1 R2)
  | d + 1, c, fuel + 1, hc, hf, h, v1, v2, R1, R2 => by
    show T2 v1 v2 (L_L_seen_231 x3 self (lp (fun _ _ _ => none) (L_L_seen_231 x3 self) fuel) h (nI c) v1) (L_L_seen_231 x3 self (lp (fun _ _ _ => none) (L_L_seen_231 x3 self) fuel) h (nI c) v2)
    generalize hg : lp (fun _ _ _ => none) (L_L_seen_231 x3 self) fuel = self2
    unfold L_L_seen_231
    have p : isI x3 f ∧ (0 ≤ nI c ∧ nI c ≤ 3) := ⟨by rw [hs3]; exact isI_n hs (by omega), gi_0 (n := 3) (by omega) (by omega)⟩
    refine t2_n (show ¬ (4 : Int32) ≤ nI c from nI_ge (b := 4) (by omega) (by omega)) ?_
    refine t2_b R1 R2 (t2_oa (oa_placesIn R1 x3 (nI c)) (oa_placesIn R2 x3 (nI c)) p) (fun x u1 u2 R1 R2 => ?_)
    refine t2_lt (fun y => ?_)
    refine t2_b R1 R2 (t2_oa (oa_singersIn R1 x3 (nI c)) (oa_singersIn R2 x3 (nI c)) p) (fun x u1 u2 R1 R2 => ?_)
    have k := sn_231 hs3 hs hself hf20 d (c + 1) fuel (by omega) (by omega) (y + x.toInt64) u1 u2 R1 R2
    rw [hg, ← qi_add c 1] at k
    exact k
theorem feasts_e {v : mC} (R : Rl v 0 (w 1) D n m f dd) : f_X6_feasts v = some (nI f) := congrArg some R.2.1.2.2.2.2.2.2.1
theorem singers_e {v : mC} (R : Rl v 0 (w 1) D n m f dd) : f_X6_singers v = some (nI n) := congrArg some R.2.1.2.2.1
theorem sn_185 : ∀ (d c fuel : Nat), c + d = f → d < fuel → ∀ (h : Int64) (v1 v2 : mC), Rl v1 0 (w 1) D n m f dd → Rl v2 0 (w 1) D n m f dd → T2 v1 v2 (lp (fun _ _ _ => none) L_L_seen_185 fuel h (nI c) v1) (lp (fun _ _ _ => none) L_L_seen_185 fuel h (nI c) v2)
  | _, _, 0, _, hf, _, _, _, _, _ => absurd hf (Nat.not_lt_zero _)
  | 0, c, fuel + 1, hc, _, h, v1, v2, R1, R2 => by
    have hf20 := R1.1.2.2.2
    obtain rfl : c = f := by omega
    show T2 v1 v2 (L_L_seen_185 _ h (nI c) v1) (L_L_seen_185 _ h (nI c) v2)
    unfold L_L_seen_185
    refine t2_i (feasts_e R1) (feasts_e R2) ?_
    exact t2_p (nI_le (Nat.le_refl _) (by omega)) (sn_279 5 0 8192 rfl (by omega) h v1 v2 R1 R2)
  | d + 1, c, fuel + 1, hc, hf, h, v1, v2, R1, R2 => by
    have hf20 := R1.1.2.2.2
    show T2 v1 v2 (L_L_seen_185 (lp (fun _ _ _ => none) L_L_seen_185 fuel) h (nI c) v1) (L_L_seen_185 (lp (fun _ _ _ => none) L_L_seen_185 fuel) h (nI c) v2)
    generalize hg : lp (fun _ _ _ => none) L_L_seen_185 fuel = self
    unfold L_L_seen_185
    have p : isI (nI c) f := isI_n (by omega) (by omega)
    refine t2_i (feasts_e R1) (feasts_e R2) ?_
    refine t2_n (show ¬ nI f ≤ nI c from nI_ge (by omega) (by omega)) ?_
    refine t2_b R1 R2 (t2_oa (oa_dayOf R1 (nI c)) (oa_dayOf R2 (nI c)) p) (fun x u1 u2 R1 R2 => ?_)
    refine t2_lt (fun y => ?_)
    refine t2_b R1 R2 (t2_oa (oa_shortfall R1 (nI c)) (oa_shortfall R2 (nI c)) p) (fun x u1 u2 R1 R2 => ?_)
    refine t2_b R1 R2 (t2_oa (oa_descantIn R1 (nI c)) (oa_descantIn R2 (nI c)) p) (fun x u1 u2 R1 R2 => ?_)
    refine t2_lt (fun y => ?_)
    refine sn_231 rfl (show c < f by omega) (fun h v1 v2 R1 R2 => ?_) hf20 4 0 8192 rfl (by omega) y u1 u2 R1 R2
    have k := sn_185 d (c + 1) fuel (by omega) (by omega) h v1 v2 R1 R2
    rw [hg, ← qi_add c 1] at k
    exact k
theorem sn_80 : ∀ (d c fuel : Nat), c + d = n → d < fuel → ∀ (h : Int64) (v1 v2 : mC), Rl v1 0 (w 1) D n m f dd → Rl v2 0 (w 1) D n m f dd → T2 v1 v2 (lp (fun _ _ _ => none) L_L_seen_80 fuel h (nI c) v1) (lp (fun _ _ _ => none) L_L_seen_80 fuel h (nI c) v2)
  | _, _, 0, _, hf, _, _, _, _, _ => absurd hf (Nat.not_lt_zero _)
  | 0, c, fuel + 1, hc, _, h, v1, v2, R1, R2 => by
    have hn30 := R1.1.2.1
    have hf20 := R1.1.2.2.2
    obtain rfl : c = n := by omega
    show T2 v1 v2 (L_L_seen_80 _ h (nI c) v1) (L_L_seen_80 _ h (nI c) v2)
    unfold L_L_seen_80
    refine t2_i (singers_e R1) (singers_e R2) ?_
    exact t2_p (nI_le (Nat.le_refl _) (by omega)) (sn_185 f 0 8192 (by omega) (by omega) h v1 v2 R1 R2)
  | d + 1, c, fuel + 1, hc, hf, h, v1, v2, R1, R2 => by
    have hn30 := R1.1.2.1
    show T2 v1 v2 (L_L_seen_80 (lp (fun _ _ _ => none) L_L_seen_80 fuel) h (nI c) v1) (L_L_seen_80 (lp (fun _ _ _ => none) L_L_seen_80 fuel) h (nI c) v2)
    generalize hg : lp (fun _ _ _ => none) L_L_seen_80 fuel = self
    unfold L_L_seen_80
    have p : isI (nI c) n := isI_n (by omega) (by omega)
    refine t2_i (singers_e R1) (singers_e R2) ?_
    refine t2_n (show ¬ nI n ≤ nI c from nI_ge (by omega) (by omega)) ?_
    rw [jn_e, jn_e]
    refine t2_b R1 R2 (t2_oa (oa_lowestNoteOf R1 (nI c)) (oa_lowestNoteOf R2 (nI c)) p) (fun x u1 u2 R1 R2 => ?_)
    refine t2_lt (fun y => ?_)
    refine t2_b R1 R2 (t2_oa (oa_breakDayOf R1 (nI c)) (oa_breakDayOf R2 (nI c)) p) (fun x u1 u2 R1 R2 => ?_)
    refine t2_b R1 R2 (t2_oa (oa_isInChoir R1 (nI c)) (oa_isInChoir R2 (nI c)) p) (fun x u1 u2 R1 R2 => ?_)
    have J : ∀ (s0 : Int32) (s1 : Int64), T2 u1 u2 ((nn (f_X6_choirOf (nI c) u1)).bind fun r_147 => (lt (((31 : Int64) * (s1 + s0.toInt64)) + r_147.1.toInt64) fun y151_10 => ((nn (f_X6_awayUntil (nI c) r_147.2)).bind fun r_155 => (lt ((31 : Int64) * (((31 : Int64) * y151_10) + r_155.1.toInt64)) fun y160_11 => ((nn (f_X6_feastsOf (nI c) r_155.2)).bind fun r_163 => ((nn (f_X6_descantsOf (nI c) r_163.2)).bind fun r_171 => (lt (((31 : Int64) * (y160_11 + r_163.1.toInt64)) + r_171.1.toInt64) fun y175_12 => (self y175_12 (nI c + (1 : Int32)) r_171.2)))))))) ((nn (f_X6_choirOf (nI c) u2)).bind fun r_147 => (lt (((31 : Int64) * (s1 + s0.toInt64)) + r_147.1.toInt64) fun y151_10 => ((nn (f_X6_awayUntil (nI c) r_147.2)).bind fun r_155 => (lt ((31 : Int64) * (((31 : Int64) * y151_10) + r_155.1.toInt64)) fun y160_11 => ((nn (f_X6_feastsOf (nI c) r_155.2)).bind fun r_163 => ((nn (f_X6_descantsOf (nI c) r_163.2)).bind fun r_171 => (lt (((31 : Int64) * (y160_11 + r_163.1.toInt64)) + r_171.1.toInt64) fun y175_12 => (self y175_12 (nI c + (1 : Int32)) r_171.2)))))))) := fun s0 s1 => by
      refine t2_b R1 R2 (t2_oa (oa_choirOf R1 (nI c)) (oa_choirOf R2 (nI c)) p) (fun x u1 u2 R1 R2 => ?_)
      refine t2_lt (fun y => ?_)
      refine t2_b R1 R2 (t2_oa (oa_awayUntil R1 (nI c)) (oa_awayUntil R2 (nI c)) p) (fun x u1 u2 R1 R2 => ?_)
      refine t2_lt (fun y => ?_)
      refine t2_b R1 R2 (t2_oa (oa_feastsOf R1 (nI c)) (oa_feastsOf R2 (nI c)) p) (fun x u1 u2 R1 R2 => ?_)
      refine t2_b R1 R2 (t2_oa (oa_descantsOf R1 (nI c)) (oa_descantsOf R2 (nI c)) p) (fun x u1 u2 R1 R2 => ?_)
      refine t2_lt (fun y => ?_)
      have k := sn_80 d (c + 1) fuel (by omega) (by omega) y u1 u2 R1 R2
      rw [hg, ← qi_add c 1] at k
      exact k
    exact t2_c (J _ _) (J _ _)
theorem seen2 (R1 : Rl v1 0 (w 1) D n m f dd) (R2 : Rl v2 0 (w 1) D n m f dd) : T2 v1 v2 (f_L_seen v1) (f_L_seen v2) := by
  have hn30 := R1.1.2.1
  obtain ⟨p1, p2, p3, p4, p5⟩ := R1.2.2.2.2.2.2.1
  obtain ⟨q1, q2, q3, q4, q5⟩ := R2.2.2.2.2.2.2.1
  unfold f_L_seen
  refine t2_i (x := nI D) (congrArg some R1.2.1.1) (congrArg some R2.2.1.1) ?_
  refine t2_lt (fun y => ?_)
  refine t2_i (singers_e R1) (singers_e R2) ?_
  refine t2_lt (fun y => ?_)
  refine t2_i (feasts_e R1) (feasts_e R2) ?_
  refine t2_i (congrArg some p5) (congrArg some q5) ?_
  refine t2_lt (fun y => ?_)
  refine t2_i (congrArg some p1.symm) (congrArg some q1.symm) ?_
  refine t2_lt (fun y => ?_)
  refine t2_i (congrArg some p3.symm) (congrArg some q3.symm) ?_
  refine t2_i (congrArg some p4.symm) (congrArg some q4.symm) ?_
  refine t2_lt (fun y => ?_)
  exact sn_80 n 0 8192 (by omega) (by omega) y v1 v2 R1 R2
end T2s
/-- the number that the law sees of a book -/
theorem seen_one {v : mC} {a : Nat → Int32} (h : BR v 0 a) : ∃ x u, f_L_seen v = some (x, u) ∧ CF v u := by
  obtain ⟨D, n, m, f, dd, R⟩ := h
  obtain ⟨x, u1, u2, e1, -, c1, -⟩ := seen2 (w := fun _ => a) (v1 := v) (v2 := v) R R
  exact ⟨x, u1, e1, c1⟩
