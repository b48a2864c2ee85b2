/-! WHERE THE LAW'S OBJECTS LIE AT FIRST, AND WHAT THEY HOLD -/
def adK (h q : Nat) (B : Nat → Nat → Nat → Nat) (LL LN : Nat → Nat) : kC → Nat := fun z => match z.1 with
  | 0 => h
  | 1 => B z.2.1 0 0
  | 2 => B z.2.1 1 0
  | 3 => B z.2.1 1 1
  | 4 => B z.2.1 1 2
  | 5 => B z.2.1 1 3
  | 6 => B z.2.1 1 4
  | 7 => B z.2.1 1 5
  | 8 => B z.2.1 1 6
  | 9 => B z.2.1 1 7
  | 10 => B z.2.1 1 8
  | 11 => B z.2.1 1 9
  | 12 => B z.2.1 1 10
  | 13 => B z.2.1 1 11
  | 14 => B z.2.1 2 0
  | 15 => B z.2.1 2 1
  | 16 => B z.2.1 2 2
  | 17 => B z.2.1 2 3
  | 18 => B z.2.1 3 0
  | 19 => B z.2.1 3 1
  | 20 => B z.2.1 3 2
  | 21 => B z.2.1 3 3
  | 22 => B z.2.1 3 4
  | 23 => B z.2.1 3 5
  | 24 => B z.2.1 3 6
  | 25 => B z.2.1 3 7
  | 26 => B z.2.1 4 z.2.2
  | 27 => B z.2.1 5 z.2.2
  | 28 => B z.2.1 6 z.2.2
  | 29 => B z.2.1 7 z.2.2
  | 30 => B z.2.1 0 1
  | 31 => q
  | 32 => LL 0
  | 33 => LL 1
  | 34 => LL 2
  | 35 => LN 0
  | 36 => LN 1
  | 37 => LN 2
  | 38 => LN 3
  | 39 => LN 4
  | 40 => LN 5
  | _ => 0
def rkK (z i : Nat) : Nat := if z ≤ 21 then z - 1 else if z ≤ 25 then 21 * (z - 22) + 21 else if z ≤ 29 then 22 + 21 * (z - 26) + i else 105
def ofK (o : Nat) : Nat := if o < 3 then 2 + 106 * o else 11 + 106 * o
def psK (z : kC) : Nat := if z.1 = 0 then 0 else if z.1 ≤ 30 then ofK z.2.1 + rkK z.1 z.2.2 else if z.1 = 31 then 1 else if z.1 ≤ 34 then 320 + (z.1 - 32) else 323 + (z.1 - 35)
theorem rkK_s (z i : Nat) : (z ≤ 21 → rkK z i = z - 1) ∧ (22 ≤ z ∧ z ≤ 25 → rkK z i = 21 * (z - 22) + 21) ∧ (26 ≤ z ∧ z ≤ 29 → rkK z i = 22 + 21 * (z - 26) + i) ∧ (30 ≤ z → rkK z i = 105) := by
  unfold rkK
  by_cases h1 : z ≤ 21
  · rw [if_pos h1]; omega
  rw [if_neg h1]
  by_cases h2 : z ≤ 25
  · rw [if_pos h2]; omega
  rw [if_neg h2]
  by_cases h3 : z ≤ 29
  · rw [if_pos h3]; omega
  rw [if_neg h3]; omega
theorem ofK_s (o : Nat) : (o < 3 ∧ ofK o = 2 + 106 * o) ∨ (3 ≤ o ∧ ofK o = 11 + 106 * o) := by
  unfold ofK
  by_cases h1 : o < 3
  · rw [if_pos h1]; omega
  · rw [if_neg h1]; omega
/-- a place: none of the books', or a book's -/
theorem psK_s {z : kC} (h : okC z) : (z = (0, 0, 0) ∧ psK z = 0) ∨ (z = (31, 0, 0) ∧ psK z = 1) ∨ (32 ≤ z.1 ∧ z.1 ≤ 34 ∧ z.2 = (0, 0) ∧ psK z = 320 + (z.1 - 32)) ∨ (35 ≤ z.1 ∧ z.1 ≤ 40 ∧ z.2 = (0, 0) ∧ psK z = 323 + (z.1 - 35)) ∨ (1 ≤ z.1 ∧ z.1 ≤ 30 ∧ z.2.1 < 7 ∧ (26 ≤ z.1 ∧ z.1 ≤ 29 ∧ z.2.2 < 20 ∨ ¬ (26 ≤ z.1 ∧ z.1 ≤ 29) ∧ z.2.2 = 0) ∧ psK z = ofK z.2.1 + rkK z.1 z.2.2 ∧ rkK z.1 z.2.2 < 106) := by
  obtain ⟨z, o, i⟩ := z
  unfold okC at h
  dsimp only at h
  obtain ⟨r1, r2, r3, r4⟩ := rkK_s z i
  unfold psK
  dsimp only
  by_cases h0 : z = 0
  · rw [if_pos h0]; left
    exact ⟨by rw [h0, show o = 0 by omega, show i = 0 by omega], rfl⟩
  rw [if_neg h0]
  by_cases h1 : z ≤ 30
  · rw [if_pos h1]; right; right; right; right
    exact ⟨by omega, h1, by omega, by omega, rfl, by omega⟩
  rw [if_neg h1]
  by_cases h2 : z = 31
  · rw [if_pos h2]; right; left
    exact ⟨by rw [h2, show o = 0 by omega, show i = 0 by omega], rfl⟩
  rw [if_neg h2]
  by_cases h3 : z ≤ 34
  · rw [if_pos h3]; right; right; left
    exact ⟨by omega, h3, by rw [show o = 0 by omega, show i = 0 by omega], rfl⟩
  rw [if_neg h3]; right; right; right; left
  exact ⟨by omega, by omega, by rw [show o = 0 by omega, show i = 0 by omega], rfl⟩
theorem psK_lt {z : kC} (h : okC z) : psK z < 753 := by
  rcases psK_s h with ⟨-, e⟩ | ⟨-, e⟩ | ⟨a, b, -, e⟩ | ⟨a, b, -, e⟩ | ⟨a, b, c, -, e, f⟩
  · omega
  · omega
  · omega
  · omega
  · rcases ofK_s z.2.1 with ⟨g, e2⟩ | ⟨g, e2⟩ <;> omega
theorem psK_inj {a b : kC} (ha : okC a) (hb : okC b) (e : psK a = psK b) : a = b := by
  rcases psK_s ha with ⟨a1, e1⟩ | ⟨a1, e1⟩ | ⟨a1, a2, a3, e1⟩ | ⟨a1, a2, a3, e1⟩ | ⟨a1, a2, a3, a4, e1, a5⟩ <;>
  rcases psK_s hb with ⟨b1, e2⟩ | ⟨b1, e2⟩ | ⟨b1, b2, b3, e2⟩ | ⟨b1, b2, b3, e2⟩ | ⟨b1, b2, b3, b4, e2, b5⟩
  · rw [a1, b1]
  · omega
  · omega
  · omega
  · rcases ofK_s b.2.1 with ⟨g, e3⟩ | ⟨g, e3⟩ <;> omega
  · omega
  · rw [a1, b1]
  · omega
  · omega
  · rcases ofK_s b.2.1 with ⟨g, e3⟩ | ⟨g, e3⟩ <;> omega
  · omega
  · omega
  · exact Prod.ext (by omega) (a3.trans b3.symm)
  · omega
  · rcases ofK_s b.2.1 with ⟨g, e3⟩ | ⟨g, e3⟩ <;> omega
  · omega
  · omega
  · omega
  · exact Prod.ext (by omega) (a3.trans b3.symm)
  · rcases ofK_s b.2.1 with ⟨g, e3⟩ | ⟨g, e3⟩ <;> omega
  · rcases ofK_s a.2.1 with ⟨g, e3⟩ | ⟨g, e3⟩ <;> omega
  · rcases ofK_s a.2.1 with ⟨g, e3⟩ | ⟨g, e3⟩ <;> omega
  · rcases ofK_s a.2.1 with ⟨g, e3⟩ | ⟨g, e3⟩ <;> omega
  · rcases ofK_s a.2.1 with ⟨g, e3⟩ | ⟨g, e3⟩ <;> omega
  · have hoo : a.2.1 = b.2.1 ∧ rkK a.1 a.2.2 = rkK b.1 b.2.2 := by
      rcases ofK_s a.2.1 with ⟨g, e3⟩ | ⟨g, e3⟩ <;> rcases ofK_s b.2.1 with ⟨g2, e4⟩ | ⟨g2, e4⟩ <;> constructor <;> omega
    obtain ⟨p1, p2, p3, p4⟩ := rkK_s a.1 a.2.2
    obtain ⟨q1, q2, q3, q4⟩ := rkK_s b.1 b.2.2
    have hz : a.1 = b.1 := by omega
    have hi : a.2.2 = b.2.2 := by omega
    exact Prod.ext hz (Prod.ext hoo.1 hi)
def v0 : mC := fun z => match z.1 with
  | 1 => fun i => if i = 5 then 50 else 0
  | 31 => fun i => nI (3 + i)
  | 32 => fun i => if i = 3 then -1 else 0
  | _ => fun _ => 0
/-- what is told by one row holds as told by another -/
def CE (e e' : va_E) : Prop := ∀ (D : va_G) (x : Nat) (H : Heap), va_at D vwCl (x, e) H → va_at D vwCl (x, e') H
theorem CE_r {e : va_E} : CE e e := fun _ _ _ h => h
theorem CE_a {c : ClassId} {n : Nat} {f f' : Nat → Option Nat} (h : ∀ i, i < n → f i = f' i) : CE (.inl (c, n, .inr (.inr (.inr (.inr f))))) (.inl (c, n, .inr (.inr (.inr (.inr f'))))) := fun D x H hx => by
  have e : vp_cell c (n, .inr (.inr (.inr (.inr f)))) = vp_cell c (n, .inr (.inr (.inr (.inr f')))) := by
    show arrV c n (fun j => va_rf (f j)) = arrV c n (fun j => va_rf (f' j))
    unfold arrV
    have e2 : (fun j : Fin n => va_rf (f ↑j)) = (fun j : Fin n => va_rf (f' ↑j)) := funext fun j => by rw [h j j.isLt]
    rw [e2]
  show H[x]? = some (vp_cell c (n, .inr (.inr (.inr (.inr f')))))
  rw [← e]
  exact hx
section AT
variable {α : Type} {A C : List α}
theorem at_sk {n i : Nat} (h : A.length = n) : (A ++ C)[n + i]? = C[i]? := by
  subst h
  rw [List.getElem?_append_right (Nat.le_add_right _ _), Nat.add_sub_cancel_left]
theorem at_hd {i : Nat} {x : α} (h : A[i]? = some x) : (A ++ C)[i]? = some x := by
  rw [List.getElem?_append_left (List.getElem?_eq_some_iff.mp h).1]
  exact h
theorem at_c2 {x y : α} {i : Nat} : (x :: y :: A)[2 + i]? = A[i]? := by
  rw [show 2 + i = i + 1 + 1 by omega, List.getElem?_cons_succ, List.getElem?_cons_succ]
end AT
section BK
variable {g : Nat → ClassId}
theorem row_l {r : Nat → Nat} {n : Nat} : (rowL g r n).length = 20 := by unfold rowL; rw [List.length_map, List.length_range]
theorem row_at {r : Nat → Nat} {n i : Nat} (h : i < 20) : (rowL g r n)[i]? = some (r i, arI g n) := by
  unfold rowL
  rw [List.getElem?_map, List.getElem?_range h]
  rfl
theorem bok_e {B : Nat → Nat → Nat} : bokL g B = [(B 0 0, .inr (0, [.int 0, .ref (B 1 0), .ref (B 2 0), .ref (B 3 0), .ref (B 0 1), .int 50, .int 0, .int 0, .int 0, .int 0]))] ++ (rosL g (B 1) ++ (notL g (B 2) ++ ([(B 3 0, .inr (1, [.int 0, .ref (B 3 1), .ref (B 3 2), .ref (B 3 3), .ref (B 3 4), .ref (B 3 5), .ref (B 3 6), .ref (B 3 7)])), (B 3 1, arI g 20), (B 3 2, arI g 20), (B 3 3, arI g 20)] ++ ([(B 3 4, outI g (B 4))] ++ (rowL g (B 4) 4 ++ ([(B 3 5, outI g (B 5))] ++ (rowL g (B 5) 4 ++ ([(B 3 6, outI g (B 6))] ++ (rowL g (B 6) 4 ++ ([(B 3 7, outI g (B 7))] ++ (rowL g (B 7) 30 ++ [(B 0 1, arI g 5)]))))))))))) := by
  unfold bokL calL
  simp only [List.append_assoc]
theorem bok_l {B : Nat → Nat → Nat} : (bokL g B).length = 106 := by
  rw [bok_e]
  simp only [List.length_append, row_l]
  rfl
theorem bk_1 {B : Nat → Nat → Nat} : ∃ e, (bokL g B)[0]? = some (B 0 0, e) ∧ ∀ (h q : Nat) (BB : Nat → Nat → Nat → Nat) (LL LN : Nat → Nat) (o : Nat), BB o = B → CE e (ceC g (adK h q BB LL LN) (1, o, 0) (v0 (1, o, 0))) := by
  rw [bok_e, show 0 = 0 from rfl]
  exact ⟨_, at_hd rfl, fun h q BB LL LN o he => by subst he; exact CE_r⟩
theorem bk_2 {B : Nat → Nat → Nat} : ∃ e, (bokL g B)[1]? = some (B 1 0, e) ∧ ∀ (h q : Nat) (BB : Nat → Nat → Nat → Nat) (LL LN : Nat → Nat) (o : Nat), BB o = B → CE e (ceC g (adK h q BB LL LN) (2, o, 0) (v0 (2, o, 0))) := by
  rw [bok_e, show 1 = 1 + (0) from rfl, at_sk (n := 1) rfl]
  exact ⟨_, at_hd rfl, fun h q BB LL LN o he => by subst he; exact CE_r⟩
theorem bk_3 {B : Nat → Nat → Nat} : ∃ e, (bokL g B)[2]? = some (B 1 1, e) ∧ ∀ (h q : Nat) (BB : Nat → Nat → Nat → Nat) (LL LN : Nat → Nat) (o : Nat), BB o = B → CE e (ceC g (adK h q BB LL LN) (3, o, 0) (v0 (3, o, 0))) := by
  rw [bok_e, show 2 = 1 + (1) from rfl, at_sk (n := 1) rfl]
  exact ⟨_, at_hd rfl, fun h q BB LL LN o he => by subst he; exact CE_r⟩
theorem bk_4 {B : Nat → Nat → Nat} : ∃ e, (bokL g B)[3]? = some (B 1 2, e) ∧ ∀ (h q : Nat) (BB : Nat → Nat → Nat → Nat) (LL LN : Nat → Nat) (o : Nat), BB o = B → CE e (ceC g (adK h q BB LL LN) (4, o, 0) (v0 (4, o, 0))) := by
  rw [bok_e, show 3 = 1 + (2) from rfl, at_sk (n := 1) rfl]
  exact ⟨_, at_hd rfl, fun h q BB LL LN o he => by subst he; exact CE_r⟩
theorem bk_5 {B : Nat → Nat → Nat} : ∃ e, (bokL g B)[4]? = some (B 1 3, e) ∧ ∀ (h q : Nat) (BB : Nat → Nat → Nat → Nat) (LL LN : Nat → Nat) (o : Nat), BB o = B → CE e (ceC g (adK h q BB LL LN) (5, o, 0) (v0 (5, o, 0))) := by
  rw [bok_e, show 4 = 1 + (3) from rfl, at_sk (n := 1) rfl]
  exact ⟨_, at_hd rfl, fun h q BB LL LN o he => by subst he; exact CE_r⟩
theorem bk_6 {B : Nat → Nat → Nat} : ∃ e, (bokL g B)[5]? = some (B 1 4, e) ∧ ∀ (h q : Nat) (BB : Nat → Nat → Nat → Nat) (LL LN : Nat → Nat) (o : Nat), BB o = B → CE e (ceC g (adK h q BB LL LN) (6, o, 0) (v0 (6, o, 0))) := by
  rw [bok_e, show 5 = 1 + (4) from rfl, at_sk (n := 1) rfl]
  exact ⟨_, at_hd rfl, fun h q BB LL LN o he => by subst he; exact CE_r⟩
theorem bk_7 {B : Nat → Nat → Nat} : ∃ e, (bokL g B)[6]? = some (B 1 5, e) ∧ ∀ (h q : Nat) (BB : Nat → Nat → Nat → Nat) (LL LN : Nat → Nat) (o : Nat), BB o = B → CE e (ceC g (adK h q BB LL LN) (7, o, 0) (v0 (7, o, 0))) := by
  rw [bok_e, show 6 = 1 + (5) from rfl, at_sk (n := 1) rfl]
  exact ⟨_, at_hd rfl, fun h q BB LL LN o he => by subst he; exact CE_r⟩
theorem bk_8 {B : Nat → Nat → Nat} : ∃ e, (bokL g B)[7]? = some (B 1 6, e) ∧ ∀ (h q : Nat) (BB : Nat → Nat → Nat → Nat) (LL LN : Nat → Nat) (o : Nat), BB o = B → CE e (ceC g (adK h q BB LL LN) (8, o, 0) (v0 (8, o, 0))) := by
  rw [bok_e, show 7 = 1 + (6) from rfl, at_sk (n := 1) rfl]
  exact ⟨_, at_hd rfl, fun h q BB LL LN o he => by subst he; exact CE_r⟩
theorem bk_9 {B : Nat → Nat → Nat} : ∃ e, (bokL g B)[8]? = some (B 1 7, e) ∧ ∀ (h q : Nat) (BB : Nat → Nat → Nat → Nat) (LL LN : Nat → Nat) (o : Nat), BB o = B → CE e (ceC g (adK h q BB LL LN) (9, o, 0) (v0 (9, o, 0))) := by
  rw [bok_e, show 8 = 1 + (7) from rfl, at_sk (n := 1) rfl]
  exact ⟨_, at_hd rfl, fun h q BB LL LN o he => by subst he; exact CE_r⟩
theorem bk_10 {B : Nat → Nat → Nat} : ∃ e, (bokL g B)[9]? = some (B 1 8, e) ∧ ∀ (h q : Nat) (BB : Nat → Nat → Nat → Nat) (LL LN : Nat → Nat) (o : Nat), BB o = B → CE e (ceC g (adK h q BB LL LN) (10, o, 0) (v0 (10, o, 0))) := by
  rw [bok_e, show 9 = 1 + (8) from rfl, at_sk (n := 1) rfl]
  exact ⟨_, at_hd rfl, fun h q BB LL LN o he => by subst he; exact CE_r⟩
theorem bk_11 {B : Nat → Nat → Nat} : ∃ e, (bokL g B)[10]? = some (B 1 9, e) ∧ ∀ (h q : Nat) (BB : Nat → Nat → Nat → Nat) (LL LN : Nat → Nat) (o : Nat), BB o = B → CE e (ceC g (adK h q BB LL LN) (11, o, 0) (v0 (11, o, 0))) := by
  rw [bok_e, show 10 = 1 + (9) from rfl, at_sk (n := 1) rfl]
  exact ⟨_, at_hd rfl, fun h q BB LL LN o he => by subst he; exact CE_r⟩
theorem bk_12 {B : Nat → Nat → Nat} : ∃ e, (bokL g B)[11]? = some (B 1 10, e) ∧ ∀ (h q : Nat) (BB : Nat → Nat → Nat → Nat) (LL LN : Nat → Nat) (o : Nat), BB o = B → CE e (ceC g (adK h q BB LL LN) (12, o, 0) (v0 (12, o, 0))) := by
  rw [bok_e, show 11 = 1 + (10) from rfl, at_sk (n := 1) rfl]
  exact ⟨_, at_hd rfl, fun h q BB LL LN o he => by subst he; exact CE_r⟩
theorem bk_13 {B : Nat → Nat → Nat} : ∃ e, (bokL g B)[12]? = some (B 1 11, e) ∧ ∀ (h q : Nat) (BB : Nat → Nat → Nat → Nat) (LL LN : Nat → Nat) (o : Nat), BB o = B → CE e (ceC g (adK h q BB LL LN) (13, o, 0) (v0 (13, o, 0))) := by
  rw [bok_e, show 12 = 1 + (11) from rfl, at_sk (n := 1) rfl]
  exact ⟨_, at_hd rfl, fun h q BB LL LN o he => by subst he; exact CE_r⟩
theorem bk_14 {B : Nat → Nat → Nat} : ∃ e, (bokL g B)[13]? = some (B 2 0, e) ∧ ∀ (h q : Nat) (BB : Nat → Nat → Nat → Nat) (LL LN : Nat → Nat) (o : Nat), BB o = B → CE e (ceC g (adK h q BB LL LN) (14, o, 0) (v0 (14, o, 0))) := by
  rw [bok_e, show 13 = 1 + (12 + (0)) from rfl, at_sk (n := 1) rfl, at_sk (n := 12) rfl]
  exact ⟨_, at_hd rfl, fun h q BB LL LN o he => by subst he; exact CE_r⟩
theorem bk_15 {B : Nat → Nat → Nat} : ∃ e, (bokL g B)[14]? = some (B 2 1, e) ∧ ∀ (h q : Nat) (BB : Nat → Nat → Nat → Nat) (LL LN : Nat → Nat) (o : Nat), BB o = B → CE e (ceC g (adK h q BB LL LN) (15, o, 0) (v0 (15, o, 0))) := by
  rw [bok_e, show 14 = 1 + (12 + (1)) from rfl, at_sk (n := 1) rfl, at_sk (n := 12) rfl]
  exact ⟨_, at_hd rfl, fun h q BB LL LN o he => by subst he; exact CE_r⟩
theorem bk_16 {B : Nat → Nat → Nat} : ∃ e, (bokL g B)[15]? = some (B 2 2, e) ∧ ∀ (h q : Nat) (BB : Nat → Nat → Nat → Nat) (LL LN : Nat → Nat) (o : Nat), BB o = B → CE e (ceC g (adK h q BB LL LN) (16, o, 0) (v0 (16, o, 0))) := by
  rw [bok_e, show 15 = 1 + (12 + (2)) from rfl, at_sk (n := 1) rfl, at_sk (n := 12) rfl]
  exact ⟨_, at_hd rfl, fun h q BB LL LN o he => by subst he; exact CE_r⟩
theorem bk_17 {B : Nat → Nat → Nat} : ∃ e, (bokL g B)[16]? = some (B 2 3, e) ∧ ∀ (h q : Nat) (BB : Nat → Nat → Nat → Nat) (LL LN : Nat → Nat) (o : Nat), BB o = B → CE e (ceC g (adK h q BB LL LN) (17, o, 0) (v0 (17, o, 0))) := by
  rw [bok_e, show 16 = 1 + (12 + (3)) from rfl, at_sk (n := 1) rfl, at_sk (n := 12) rfl]
  exact ⟨_, at_hd rfl, fun h q BB LL LN o he => by subst he; exact CE_r⟩
theorem bk_18 {B : Nat → Nat → Nat} : ∃ e, (bokL g B)[17]? = some (B 3 0, e) ∧ ∀ (h q : Nat) (BB : Nat → Nat → Nat → Nat) (LL LN : Nat → Nat) (o : Nat), BB o = B → CE e (ceC g (adK h q BB LL LN) (18, o, 0) (v0 (18, o, 0))) := by
  rw [bok_e, show 17 = 1 + (12 + (4 + (0))) from rfl, at_sk (n := 1) rfl, at_sk (n := 12) rfl, at_sk (n := 4) rfl]
  exact ⟨_, at_hd rfl, fun h q BB LL LN o he => by subst he; exact CE_r⟩
theorem bk_19 {B : Nat → Nat → Nat} : ∃ e, (bokL g B)[18]? = some (B 3 1, e) ∧ ∀ (h q : Nat) (BB : Nat → Nat → Nat → Nat) (LL LN : Nat → Nat) (o : Nat), BB o = B → CE e (ceC g (adK h q BB LL LN) (19, o, 0) (v0 (19, o, 0))) := by
  rw [bok_e, show 18 = 1 + (12 + (4 + (1))) from rfl, at_sk (n := 1) rfl, at_sk (n := 12) rfl, at_sk (n := 4) rfl]
  exact ⟨_, at_hd rfl, fun h q BB LL LN o he => by subst he; exact CE_r⟩
theorem bk_20 {B : Nat → Nat → Nat} : ∃ e, (bokL g B)[19]? = some (B 3 2, e) ∧ ∀ (h q : Nat) (BB : Nat → Nat → Nat → Nat) (LL LN : Nat → Nat) (o : Nat), BB o = B → CE e (ceC g (adK h q BB LL LN) (20, o, 0) (v0 (20, o, 0))) := by
  rw [bok_e, show 19 = 1 + (12 + (4 + (2))) from rfl, at_sk (n := 1) rfl, at_sk (n := 12) rfl, at_sk (n := 4) rfl]
  exact ⟨_, at_hd rfl, fun h q BB LL LN o he => by subst he; exact CE_r⟩
theorem bk_21 {B : Nat → Nat → Nat} : ∃ e, (bokL g B)[20]? = some (B 3 3, e) ∧ ∀ (h q : Nat) (BB : Nat → Nat → Nat → Nat) (LL LN : Nat → Nat) (o : Nat), BB o = B → CE e (ceC g (adK h q BB LL LN) (21, o, 0) (v0 (21, o, 0))) := by
  rw [bok_e, show 20 = 1 + (12 + (4 + (3))) from rfl, at_sk (n := 1) rfl, at_sk (n := 12) rfl, at_sk (n := 4) rfl]
  exact ⟨_, at_hd rfl, fun h q BB LL LN o he => by subst he; exact CE_r⟩
theorem bk_22 {B : Nat → Nat → Nat} : ∃ e, (bokL g B)[21]? = some (B 3 4, e) ∧ ∀ (h q : Nat) (BB : Nat → Nat → Nat → Nat) (LL LN : Nat → Nat) (o : Nat), BB o = B → CE e (ceC g (adK h q BB LL LN) (22, o, 0) (v0 (22, o, 0))) := by
  rw [bok_e, show 21 = 1 + (12 + (4 + (4 + (0)))) from rfl, at_sk (n := 1) rfl, at_sk (n := 12) rfl, at_sk (n := 4) rfl, at_sk (n := 4) rfl]
  exact ⟨_, at_hd rfl, fun h q BB LL LN o he => by subst he; exact CE_a (fun i hi => if_pos hi)⟩
theorem bk_23 {B : Nat → Nat → Nat} : ∃ e, (bokL g B)[42]? = some (B 3 5, e) ∧ ∀ (h q : Nat) (BB : Nat → Nat → Nat → Nat) (LL LN : Nat → Nat) (o : Nat), BB o = B → CE e (ceC g (adK h q BB LL LN) (23, o, 0) (v0 (23, o, 0))) := by
  rw [bok_e, show 42 = 1 + (12 + (4 + (4 + (1 + (20 + (0)))))) from rfl, at_sk (n := 1) rfl, at_sk (n := 12) rfl, at_sk (n := 4) rfl, at_sk (n := 4) rfl, at_sk (n := 1) rfl, at_sk (n := 20) row_l]
  exact ⟨_, at_hd rfl, fun h q BB LL LN o he => by subst he; exact CE_a (fun i hi => if_pos hi)⟩
theorem bk_24 {B : Nat → Nat → Nat} : ∃ e, (bokL g B)[63]? = some (B 3 6, e) ∧ ∀ (h q : Nat) (BB : Nat → Nat → Nat → Nat) (LL LN : Nat → Nat) (o : Nat), BB o = B → CE e (ceC g (adK h q BB LL LN) (24, o, 0) (v0 (24, o, 0))) := by
  rw [bok_e, show 63 = 1 + (12 + (4 + (4 + (1 + (20 + (1 + (20 + (0)))))))) from rfl, at_sk (n := 1) rfl, at_sk (n := 12) rfl, at_sk (n := 4) rfl, at_sk (n := 4) rfl, at_sk (n := 1) rfl, at_sk (n := 20) row_l, at_sk (n := 1) rfl, at_sk (n := 20) row_l]
  exact ⟨_, at_hd rfl, fun h q BB LL LN o he => by subst he; exact CE_a (fun i hi => if_pos hi)⟩
theorem bk_25 {B : Nat → Nat → Nat} : ∃ e, (bokL g B)[84]? = some (B 3 7, e) ∧ ∀ (h q : Nat) (BB : Nat → Nat → Nat → Nat) (LL LN : Nat → Nat) (o : Nat), BB o = B → CE e (ceC g (adK h q BB LL LN) (25, o, 0) (v0 (25, o, 0))) := by
  rw [bok_e, show 84 = 1 + (12 + (4 + (4 + (1 + (20 + (1 + (20 + (1 + (20 + (0)))))))))) from rfl, at_sk (n := 1) rfl, at_sk (n := 12) rfl, at_sk (n := 4) rfl, at_sk (n := 4) rfl, at_sk (n := 1) rfl, at_sk (n := 20) row_l, at_sk (n := 1) rfl, at_sk (n := 20) row_l, at_sk (n := 1) rfl, at_sk (n := 20) row_l]
  exact ⟨_, at_hd rfl, fun h q BB LL LN o he => by subst he; exact CE_a (fun i hi => if_pos hi)⟩
theorem bk_30 {B : Nat → Nat → Nat} : ∃ e, (bokL g B)[105]? = some (B 0 1, e) ∧ ∀ (h q : Nat) (BB : Nat → Nat → Nat → Nat) (LL LN : Nat → Nat) (o : Nat), BB o = B → CE e (ceC g (adK h q BB LL LN) (30, o, 0) (v0 (30, o, 0))) := by
  rw [bok_e, show 105 = 1 + (12 + (4 + (4 + (1 + (20 + (1 + (20 + (1 + (20 + (1 + (20 + (0)))))))))))) from rfl, at_sk (n := 1) rfl, at_sk (n := 12) rfl, at_sk (n := 4) rfl, at_sk (n := 4) rfl, at_sk (n := 1) rfl, at_sk (n := 20) row_l, at_sk (n := 1) rfl, at_sk (n := 20) row_l, at_sk (n := 1) rfl, at_sk (n := 20) row_l, at_sk (n := 1) rfl, at_sk (n := 20) row_l]
  exact ⟨_, rfl, fun h q BB LL LN o he => by subst he; exact CE_r⟩
theorem bk_26 {B : Nat → Nat → Nat} {i : Nat} (hi : i < 20) : ∃ e, (bokL g B)[22 + i]? = some (B 4 i, e) ∧ ∀ (h q : Nat) (BB : Nat → Nat → Nat → Nat) (LL LN : Nat → Nat) (o : Nat), BB o = B → CE e (ceC g (adK h q BB LL LN) (26, o, i) (v0 (26, o, i))) := by
  rw [bok_e, show 22 + i = 1 + (12 + (4 + (4 + (1 + (i))))) by omega, at_sk (n := 1) rfl, at_sk (n := 12) rfl, at_sk (n := 4) rfl, at_sk (n := 4) rfl, at_sk (n := 1) rfl]
  exact ⟨_, at_hd (row_at hi), fun h q BB LL LN o he => by subst he; exact CE_r⟩
theorem bk_27 {B : Nat → Nat → Nat} {i : Nat} (hi : i < 20) : ∃ e, (bokL g B)[43 + i]? = some (B 5 i, e) ∧ ∀ (h q : Nat) (BB : Nat → Nat → Nat → Nat) (LL LN : Nat → Nat) (o : Nat), BB o = B → CE e (ceC g (adK h q BB LL LN) (27, o, i) (v0 (27, o, i))) := by
  rw [bok_e, show 43 + i = 1 + (12 + (4 + (4 + (1 + (20 + (1 + (i))))))) by omega, at_sk (n := 1) rfl, at_sk (n := 12) rfl, at_sk (n := 4) rfl, at_sk (n := 4) rfl, at_sk (n := 1) rfl, at_sk (n := 20) row_l, at_sk (n := 1) rfl]
  exact ⟨_, at_hd (row_at hi), fun h q BB LL LN o he => by subst he; exact CE_r⟩
theorem bk_28 {B : Nat → Nat → Nat} {i : Nat} (hi : i < 20) : ∃ e, (bokL g B)[64 + i]? = some (B 6 i, e) ∧ ∀ (h q : Nat) (BB : Nat → Nat → Nat → Nat) (LL LN : Nat → Nat) (o : Nat), BB o = B → CE e (ceC g (adK h q BB LL LN) (28, o, i) (v0 (28, o, i))) := by
  rw [bok_e, show 64 + i = 1 + (12 + (4 + (4 + (1 + (20 + (1 + (20 + (1 + (i))))))))) by omega, at_sk (n := 1) rfl, at_sk (n := 12) rfl, at_sk (n := 4) rfl, at_sk (n := 4) rfl, at_sk (n := 1) rfl, at_sk (n := 20) row_l, at_sk (n := 1) rfl, at_sk (n := 20) row_l, at_sk (n := 1) rfl]
  exact ⟨_, at_hd (row_at hi), fun h q BB LL LN o he => by subst he; exact CE_r⟩
theorem bk_29 {B : Nat → Nat → Nat} {i : Nat} (hi : i < 20) : ∃ e, (bokL g B)[85 + i]? = some (B 7 i, e) ∧ ∀ (h q : Nat) (BB : Nat → Nat → Nat → Nat) (LL LN : Nat → Nat) (o : Nat), BB o = B → CE e (ceC g (adK h q BB LL LN) (29, o, i) (v0 (29, o, i))) := by
  rw [bok_e, show 85 + i = 1 + (12 + (4 + (4 + (1 + (20 + (1 + (20 + (1 + (20 + (1 + (i))))))))))) by omega, at_sk (n := 1) rfl, at_sk (n := 12) rfl, at_sk (n := 4) rfl, at_sk (n := 4) rfl, at_sk (n := 1) rfl, at_sk (n := 20) row_l, at_sk (n := 1) rfl, at_sk (n := 20) row_l, at_sk (n := 1) rfl, at_sk (n := 20) row_l, at_sk (n := 1) rfl]
  exact ⟨_, at_hd (row_at hi), fun h q BB LL LN o he => by subst he; exact CE_r⟩
theorem bk_all {B : Nat → Nat → Nat} {z i : Nat} (h1 : 1 ≤ z) (h2 : z ≤ 30) (h3 : 26 ≤ z ∧ z ≤ 29 ∧ i < 20 ∨ ¬ (26 ≤ z ∧ z ≤ 29) ∧ i = 0) (h q : Nat) (BB : Nat → Nat → Nat → Nat) (LL LN : Nat → Nat) (o : Nat) (he : BB o = B) : ∃ e, (bokL g B)[rkK z i]? = some (adK h q BB LL LN (z, o, i), e) ∧ CE e (ceC g (adK h q BB LL LN) (z, o, i) (v0 (z, o, i))) := by
  have hk : ∀ {p x : Nat}, (∃ e, (bokL g B)[p]? = some (x, e) ∧ ∀ (h q : Nat) (BB : Nat → Nat → Nat → Nat) (LL LN : Nat → Nat) (o : Nat), BB o = B → CE e (ceC g (adK h q BB LL LN) (z, o, i) (v0 (z, o, i)))) → rkK z i = p → adK h q BB LL LN (z, o, i) = x → ∃ e, (bokL g B)[rkK z i]? = some (adK h q BB LL LN (z, o, i), e) ∧ CE e (ceC g (adK h q BB LL LN) (z, o, i) (v0 (z, o, i))) := fun ⟨e, e1, e2⟩ r1 r2 => ⟨e, by rw [r1, r2]; exact e1, e2 h q BB LL LN o he⟩
  rcases (show z = 1 ∨ z = 2 ∨ z = 3 ∨ z = 4 ∨ z = 5 ∨ z = 6 ∨ z = 7 ∨ z = 8 ∨ z = 9 ∨ z = 10 ∨ z = 11 ∨ z = 12 ∨ z = 13 ∨ z = 14 ∨ z = 15 ∨ z = 16 ∨ z = 17 ∨ z = 18 ∨ z = 19 ∨ z = 20 ∨ z = 21 ∨ z = 22 ∨ z = 23 ∨ z = 24 ∨ z = 25 ∨ z = 26 ∨ z = 27 ∨ z = 28 ∨ z = 29 ∨ z = 30 by omega) with e | e | e | e | e | e | e | e | e | e | e | e | e | e | e | e | e | e | e | e | e | e | e | e | e | e | e | e | e | e
  · subst e; obtain rfl : i = 0 := by omega
    exact hk bk_1 rfl (by subst he; rfl)
  · subst e; obtain rfl : i = 0 := by omega
    exact hk bk_2 rfl (by subst he; rfl)
  · subst e; obtain rfl : i = 0 := by omega
    exact hk bk_3 rfl (by subst he; rfl)
  · subst e; obtain rfl : i = 0 := by omega
    exact hk bk_4 rfl (by subst he; rfl)
  · subst e; obtain rfl : i = 0 := by omega
    exact hk bk_5 rfl (by subst he; rfl)
  · subst e; obtain rfl : i = 0 := by omega
    exact hk bk_6 rfl (by subst he; rfl)
  · subst e; obtain rfl : i = 0 := by omega
    exact hk bk_7 rfl (by subst he; rfl)
  · subst e; obtain rfl : i = 0 := by omega
    exact hk bk_8 rfl (by subst he; rfl)
  · subst e; obtain rfl : i = 0 := by omega
    exact hk bk_9 rfl (by subst he; rfl)
  · subst e; obtain rfl : i = 0 := by omega
    exact hk bk_10 rfl (by subst he; rfl)
  · subst e; obtain rfl : i = 0 := by omega
    exact hk bk_11 rfl (by subst he; rfl)
  · subst e; obtain rfl : i = 0 := by omega
    exact hk bk_12 rfl (by subst he; rfl)
  · subst e; obtain rfl : i = 0 := by omega
    exact hk bk_13 rfl (by subst he; rfl)
  · subst e; obtain rfl : i = 0 := by omega
    exact hk bk_14 rfl (by subst he; rfl)
  · subst e; obtain rfl : i = 0 := by omega
    exact hk bk_15 rfl (by subst he; rfl)
  · subst e; obtain rfl : i = 0 := by omega
    exact hk bk_16 rfl (by subst he; rfl)
  · subst e; obtain rfl : i = 0 := by omega
    exact hk bk_17 rfl (by subst he; rfl)
  · subst e; obtain rfl : i = 0 := by omega
    exact hk bk_18 rfl (by subst he; rfl)
  · subst e; obtain rfl : i = 0 := by omega
    exact hk bk_19 rfl (by subst he; rfl)
  · subst e; obtain rfl : i = 0 := by omega
    exact hk bk_20 rfl (by subst he; rfl)
  · subst e; obtain rfl : i = 0 := by omega
    exact hk bk_21 rfl (by subst he; rfl)
  · subst e; obtain rfl : i = 0 := by omega
    exact hk bk_22 rfl (by subst he; rfl)
  · subst e; obtain rfl : i = 0 := by omega
    exact hk bk_23 rfl (by subst he; rfl)
  · subst e; obtain rfl : i = 0 := by omega
    exact hk bk_24 rfl (by subst he; rfl)
  · subst e; obtain rfl : i = 0 := by omega
    exact hk bk_25 rfl (by subst he; rfl)
  · subst e; exact hk (bk_26 (show i < 20 by omega)) (by unfold rkK; rw [if_neg (by decide), if_neg (by decide), if_pos (by decide)]) (by subst he; rfl)
  · subst e; exact hk (bk_27 (show i < 20 by omega)) (by unfold rkK; rw [if_neg (by decide), if_neg (by decide), if_pos (by decide)]) (by subst he; rfl)
  · subst e; exact hk (bk_28 (show i < 20 by omega)) (by unfold rkK; rw [if_neg (by decide), if_neg (by decide), if_pos (by decide)]) (by subst he; rfl)
  · subst e; exact hk (bk_29 (show i < 20 by omega)) (by unfold rkK; rw [if_neg (by decide), if_neg (by decide), if_pos (by decide)]) (by subst he; rfl)
  · subst e; obtain rfl : i = 0 := by omega
    exact hk bk_30 rfl (by subst he; rfl)
theorem reg_e {h q : Nat} {B : Nat → Nat → Nat → Nat} {LL LN : Nat → Nat} : regL g h q B LL LN = (h, .inr (6, [.ref (B 0 0 0), .ref (B 1 0 0), .ref (B 2 0 0), .int 0, .ref q, .int 0, .ref (LL 0), .ref (LN 0)])) :: (q, .inl (g 3, 4, .inr (.inr (.inr (.inr (recF B)))))) :: (bokL g (B 0) ++ (bokL g (B 1) ++ (bokL g (B 2) ++ (letL g LL ++ (linL g LN ++ (bokL g (B 3) ++ (bokL g (B 4) ++ (bokL g (B 5) ++ bokL g (B 6))))))))) := by
  unfold regL
  simp only [List.append_assoc]
theorem reg_l {h q : Nat} {B : Nat → Nat → Nat → Nat} {LL LN : Nat → Nat} : (regL g h q B LL LN).length = 753 := by
  rw [reg_e]
  simp only [List.length_cons, List.length_append, bok_l]
  have h1 : (letL g LL).length = 3 := rfl
  have h2 : (linL g LN).length = 6 := rfl
  rw [h1, h2]
theorem recF_at {B : Nat → Nat → Nat → Nat} {h q : Nat} {LL LN : Nat → Nat} : ∀ i, i < 4 → recF B i = some (adK h q B LL LN (1, ix (nI (3 + i)), 0)) := fun i hi => by
  rcases (show i = 0 ∨ i = 1 ∨ i = 2 ∨ i = 3 by omega) with e | e | e | e <;> subst e <;> rfl
theorem reg_at {h q : Nat} {B : Nat → Nat → Nat → Nat} {LL LN : Nat → Nat} : ∀ k, okC k → ∃ e, (regL g h q B LL LN)[psK k]? = some (adK h q B LL LN k, e) ∧ CE e (ceC g (adK h q B LL LN) k (v0 k)) := by
  intro k hk
  obtain ⟨z, o, i⟩ := k
  rcases psK_s hk with ⟨a1, e1⟩ | ⟨a1, e1⟩ | ⟨a1, a2, a3, e1⟩ | ⟨a1, a2, a3, e1⟩ | ⟨a1, a2, a3, a4, e1, a5⟩
  · rw [e1, a1, reg_e]
    exact ⟨_, rfl, CE_r⟩
  · rw [e1, a1, reg_e]
    exact ⟨_, rfl, CE_a recF_at⟩
  · cases a3
    rw [e1, reg_e]
    have e3 : 320 + ((z, (0 : Nat), (0 : Nat)).1 - 32) = 2 + (106 + (106 + (106 + (z - 32)))) := by show 320 + (z - 32) = _; omega
    rw [e3, at_c2, at_sk bok_l, at_sk bok_l, at_sk bok_l]
    have a1' : 32 ≤ z := a1
    have a2' : z ≤ 34 := a2
    rcases (show z = 32 ∨ z = 33 ∨ z = 34 by omega) with e | e | e <;> subst e
    · exact ⟨_, at_hd rfl, CE_r⟩
    · exact ⟨_, at_hd rfl, CE_r⟩
    · exact ⟨_, at_hd rfl, CE_r⟩
  · cases a3
    rw [e1, reg_e]
    have e3 : 323 + ((z, (0 : Nat), (0 : Nat)).1 - 35) = 2 + (106 + (106 + (106 + (3 + (z - 35))))) := by show 323 + (z - 35) = _; omega
    rw [e3, at_c2, at_sk bok_l, at_sk bok_l, at_sk bok_l, at_sk (n := 3) rfl]
    have a1' : 35 ≤ z := a1
    have a2' : z ≤ 40 := a2
    rcases (show z = 35 ∨ z = 36 ∨ z = 37 ∨ z = 38 ∨ z = 39 ∨ z = 40 by omega) with e | e | e | e | e | e <;> subst e
    · exact ⟨_, at_hd rfl, CE_r⟩
    · exact ⟨_, at_hd rfl, CE_r⟩
    · exact ⟨_, at_hd rfl, CE_r⟩
    · exact ⟨_, at_hd rfl, CE_r⟩
    · exact ⟨_, at_hd rfl, CE_r⟩
    · exact ⟨_, at_hd rfl, CE_r⟩
  · have a3' : o < 7 := a3
    obtain ⟨e, b1, b2⟩ := bk_all (g := g) (B := B o) a1 a2 a4 h q B LL LN o rfl
    refine ⟨e, ?_, b2⟩
    rw [e1, reg_e]
    show (_ :: _ :: _)[ofK o + rkK z i]? = _
    rcases (show o = 0 ∨ o = 1 ∨ o = 2 ∨ o = 3 ∨ o = 4 ∨ o = 5 ∨ o = 6 by omega) with q | q | q | q | q | q | q <;> subst q
    · rw [show ofK 0 + rkK z i = 2 + (rkK z i) by show 2 + rkK z i = _; omega, at_c2]
      exact at_hd b1
    · rw [show ofK 1 + rkK z i = 2 + (106 + (rkK z i)) by show 108 + rkK z i = _; omega, at_c2, at_sk bok_l]
      exact at_hd b1
    · rw [show ofK 2 + rkK z i = 2 + (106 + (106 + (rkK z i))) by show 214 + rkK z i = _; omega, at_c2, at_sk bok_l, at_sk bok_l]
      exact at_hd b1
    · rw [show ofK 3 + rkK z i = 2 + (106 + (106 + (106 + (3 + (6 + (rkK z i)))))) by show 329 + rkK z i = _; omega, at_c2, at_sk bok_l, at_sk bok_l, at_sk bok_l, at_sk (n := 3) rfl, at_sk (n := 6) rfl]
      exact at_hd b1
    · rw [show ofK 4 + rkK z i = 2 + (106 + (106 + (106 + (3 + (6 + (106 + (rkK z i))))))) by show 435 + rkK z i = _; omega, at_c2, at_sk bok_l, at_sk bok_l, at_sk bok_l, at_sk (n := 3) rfl, at_sk (n := 6) rfl, at_sk bok_l]
      exact at_hd b1
    · rw [show ofK 5 + rkK z i = 2 + (106 + (106 + (106 + (3 + (6 + (106 + (106 + (rkK z i)))))))) by show 541 + rkK z i = _; omega, at_c2, at_sk bok_l, at_sk bok_l, at_sk bok_l, at_sk (n := 3) rfl, at_sk (n := 6) rfl, at_sk bok_l, at_sk bok_l]
      exact at_hd b1
    · rw [show ofK 6 + rkK z i = 2 + (106 + (106 + (106 + (3 + (6 + (106 + (106 + (106 + (rkK z i))))))))) by show 647 + rkK z i = _; omega, at_c2, at_sk bok_l, at_sk bok_l, at_sk bok_l, at_sk (n := 3) rfl, at_sk (n := 6) rfl, at_sk bok_l, at_sk bok_l, at_sk bok_l]
      exact b1
theorem ref_at {L : Nat → Nat} : ∀ k, k < 11 → (refL g L)[k]? = some (L k, ceM g L k (fun _ => 0)) := fun k hk => by
  rcases (show k = 0 ∨ k = 1 ∨ k = 2 ∨ k = 3 ∨ k = 4 ∨ k = 5 ∨ k = 6 ∨ k = 7 ∨ k = 8 ∨ k = 9 ∨ k = 10 by omega) with e | e | e | e | e | e | e | e | e | e | e <;> subst e <;> rfl
theorem ref_l {L : Nat → Nat} : (refL g L).length = 11 := rfl
end BK
theorem IV_0 : IV v0 (fun _ _ => 0) := by
  refine ⟨⟨0, 0, 0, 0, fun _ => 0, ⟨by omega, by omega, by omega, by omega⟩, ⟨rfl, rfl, rfl, rfl, rfl, rfl, rfl, rfl⟩, fun s h => absurd h (Nat.not_lt_zero _), fun s h => absurd h (Nat.not_lt_zero _), fun s h => absurd h (Nat.not_lt_zero _), fun i j h => absurd h (Nat.not_lt_zero _), ⟨rfl, rfl, rfl, rfl, by decide⟩, fun c _ => rfl⟩, ⟨0, fun i => 3 + i, by omega, rfl, rfl, fun i hi => ⟨rfl, by show 3 ≤ 3 + i; omega, by show 3 + i ≤ 6; omega⟩, fun i j _ _ e => by have e2 : 3 + i = 3 + j := e; omega, fun i h => absurd h (Nat.not_lt_zero _)⟩, Or.inl ⟨rfl, rfl⟩, ⟨0, by omega, rfl, rfl, fun i h => absurd h (Nat.not_lt_zero _)⟩⟩
