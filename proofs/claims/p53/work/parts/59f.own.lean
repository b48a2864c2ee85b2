/-! WHERE THE LAW'S OBJECTS LIE AT FIRST, AND WHAT THEY HOLD -/
def adK (h q : Nat) (B : Nat → Nat → Nat → Nat) (LL LN : Nat → Nat) : kC → Nat := fun z => match z.1 with
  | 0 => h
  | 1 => B z.2.1 0 0
  | 2 => B z.2.1 1 0
  | 3 => B z.2.1 1 1
  | 4 => B z.2.1 1 2
  | 5 => B z.2.1 1 3
  | 6 => B z.2.1 1 4
  | 7 => B z.2.1 1 5
  | 8 => B z.2.1 1 6
  | 9 => B z.2.1 1 7
  | 10 => B z.2.1 1 8
  | 11 => B z.2.1 1 9
  | 12 => B z.2.1 1 10
  | 13 => B z.2.1 1 11
  | 14 => B z.2.1 2 0
  | 15 => B z.2.1 2 1
  | 16 => B z.2.1 2 2
  | 17 => B z.2.1 2 3
  | 18 => B z.2.1 3 0
  | 19 => B z.2.1 3 1
  | 20 => B z.2.1 3 2
  | 21 => B z.2.1 3 3
  | 22 => B z.2.1 3 4
  | 23 => B z.2.1 3 5
  | 24 => B z.2.1 3 6
  | 25 => B z.2.1 3 7
  | 26 => B z.2.1 4 z.2.2
  | 27 => B z.2.1 5 z.2.2
  | 28 => B z.2.1 6 z.2.2
  | 29 => B z.2.1 7 z.2.2
  | 30 => B z.2.1 0 1
  | 31 => q
  | 32 => LL 0
  | 33 => LL 1
  | 34 => LL 2
  | 35 => LN 0
  | 36 => LN 1
  | 37 => LN 2
  | 38 => LN 3
  | 39 => LN 4
  | 40 => LN 5
  | _ => 0
def rkK (z i : Nat) : Nat := if z ≤ 21 then z - 1 else if z ≤ 25 then 21 * (z - 22) + 21 else if z ≤ 29 then 22 + 21 * (z - 26) + i else 105
def ofK (o : Nat) : Nat := if o < 3 then 2 + 106 * o else 11 + 106 * o
def psK (z : kC) : Nat := if z.1 = 0 then 0 else if z.1 ≤ 30 then ofK z.2.1 + rkK z.1 z.2.2 else if z.1 = 31 then 1 else if z.1 ≤ 34 then 320 + (z.1 - 32) else 323 + (z.1 - 35)
theorem rkK_s (z i : Nat) : (z ≤ 21 → rkK z i = z - 1) ∧ (22 ≤ z ∧ z ≤ 25 → rkK z i = 21 * (z - 22) + 21) ∧ (26 ≤ z ∧ z ≤ 29 → rkK z i = 22 + 21 * (z - 26) + i) ∧ (30 ≤ z → rkK z i = 105) := by
  unfold rkK
  by_cases h1 : z ≤ 21
  · rw [if_pos h1]; omega
  rw [if_neg h1]
  by_cases h2 : z ≤ 25
  · rw [if_pos h2]; omega
  rw [if_neg h2]
  by_cases h3 : z ≤ 29
  · rw [if_pos h3]; omega
  rw [if_neg h3]; omega
theorem ofK_s (o : Nat) : (o < 3 ∧ ofK o = 2 + 106 * o) ∨ (3 ≤ o ∧ ofK o = 11 + 106 * o) := by
  unfold ofK
  by_cases h1 : o < 3
  · rw [if_pos h1]; omega
  · rw [if_neg h1]; omega
/-- a place: none of the books', or a book's -/
theorem psK_s {z : kC} (h : okC z) : (z = (0, 0, 0) ∧ psK z = 0) ∨ (z = (31, 0, 0) ∧ psK z = 1) ∨ (32 ≤ z.1 ∧ z.1 ≤ 34 ∧ z.2 = (0, 0) ∧ psK z = 320 + (z.1 - 32)) ∨ (35 ≤ z.1 ∧ z.1 ≤ 40 ∧ z.2 = (0, 0) ∧ psK z = 323 + (z.1 - 35)) ∨ (1 ≤ z.1 ∧ z.1 ≤ 30 ∧ z.2.1 < 7 ∧ (26 ≤ z.1 ∧ z.1 ≤ 29 ∧ z.2.2 < 20 ∨ ¬ (26 ≤ z.1 ∧ z.1 ≤ 29) ∧ z.2.2 = 0) ∧ psK z = ofK z.2.1 + rkK z.1 z.2.2 ∧ rkK z.1 z.2.2 < 106) := by
  obtain ⟨z, o, i⟩ := z
  unfold okC at h
  dsimp only at h
  obtain ⟨r1, r2, r3, r4⟩ := rkK_s z i
  unfold psK
  dsimp only
  by_cases h0 : z = 0
  · rw [if_pos h0]; left
    exact ⟨by rw [h0, show o = 0 by omega, show i = 0 by omega], rfl⟩
  rw [if_neg h0]
  by_cases h1 : z ≤ 30
  · rw [if_pos h1]; right; right; right; right
    exact ⟨by omega, h1, by omega, by omega, rfl, by omega⟩
  rw [if_neg h1]
  by_cases h2 : z = 31
  · rw [if_pos h2]; right; left
    exact ⟨by rw [h2, show o = 0 by omega, show i = 0 by omega], rfl⟩
  rw [if_neg h2]
  by_cases h3 : z ≤ 34
  · rw [if_pos h3]; right; right; left
    exact ⟨by omega, h3, by rw [show o = 0 by omega, show i = 0 by omega], rfl⟩
  rw [if_neg h3]; right; right; right; left
  exact ⟨by omega, by omega, by rw [show o = 0 by omega, show i = 0 by omega], rfl⟩
theorem psK_lt {z : kC} (h : okC z) : psK z < 753 := by
  rcases psK_s h with ⟨-, e⟩ | ⟨-, e⟩ | ⟨a, b, -, e⟩ | ⟨a, b, -, e⟩ | ⟨a, b, c, -, e, f⟩
  · omega
  · omega
  · omega
  · omega
  · rcases ofK_s z.2.1 with ⟨g, e2⟩ | ⟨g, e2⟩ <;> omega
theorem psK_inj {a b : kC} (ha : okC a) (hb : okC b) (e : psK a = psK b) : a = b := by
  rcases psK_s ha with ⟨a1, e1⟩ | ⟨a1, e1⟩ | ⟨a1, a2, a3, e1⟩ | ⟨a1, a2, a3, e1⟩ | ⟨a1, a2, a3, a4, e1, a5⟩ <;>
  rcases psK_s hb with ⟨b1, e2⟩ | ⟨b1, e2⟩ | ⟨b1, b2, b3, e2⟩ | ⟨b1, b2, b3, e2⟩ | ⟨b1, b2, b3, b4, e2, b5⟩
  · rw [a1, b1]
  · omega
  · omega
  · omega
  · rcases ofK_s b.2.1 with ⟨g, e3⟩ | ⟨g, e3⟩ <;> omega
  · omega
  · rw [a1, b1]
  · omega
  · omega
  · rcases ofK_s b.2.1 with ⟨g, e3⟩ | ⟨g, e3⟩ <;> omega
  · omega
  · omega
  · exact Prod.ext (by omega) (a3.trans b3.symm)
  · omega
  · rcases ofK_s b.2.1 with ⟨g, e3⟩ | ⟨g, e3⟩ <;> omega
  · omega
  · omega
  · omega
  · exact Prod.ext (by omega) (a3.trans b3.symm)
  · rcases ofK_s b.2.1 with ⟨g, e3⟩ | ⟨g, e3⟩ <;> omega
  · rcases ofK_s a.2.1 with ⟨g, e3⟩ | ⟨g, e3⟩ <;> omega
  · rcases ofK_s a.2.1 with ⟨g, e3⟩ | ⟨g, e3⟩ <;> omega
  · rcases ofK_s a.2.1 with ⟨g, e3⟩ | ⟨g, e3⟩ <;> omega
  · rcases ofK_s a.2.1 with ⟨g, e3⟩ | ⟨g, e3⟩ <;> omega
  · have hoo : a.2.1 = b.2.1 ∧ rkK a.1 a.2.2 = rkK b.1 b.2.2 := by
      rcases ofK_s a.2.1 with ⟨g, e3⟩ | ⟨g, e3⟩ <;> rcases ofK_s b.2.1 with ⟨g2, e4⟩ | ⟨g2, e4⟩ <;> constructor <;> omega
    obtain ⟨p1, p2, p3, p4⟩ := rkK_s a.1 a.2.2
    obtain ⟨q1, q2, q3, q4⟩ := rkK_s b.1 b.2.2
    have hz : a.1 = b.1 := by omega
    have hi : a.2.2 = b.2.2 := by omega
    exact Prod.ext hz (Prod.ext hoo.1 hi)
/-- what is told by one row holds as told by another -/
def CE (e e' : va_E) : Prop := ∀ (D : va_G) (x : Nat) (H : Heap), va_at D vwCl (x, e) H → va_at D vwCl (x, e') H
theorem CE_r {e : va_E} : CE e e := fun _ _ _ h => h
theorem CE_a {c : ClassId} {n : Nat} {f f' : Nat → Option Nat} (h : ∀ i, i < n → f i = f' i) : CE (.inl (c, n, .inr (.inr (.inr (.inr f))))) (.inl (c, n, .inr (.inr (.inr (.inr f'))))) := fun D x H hx => by
  have e : vp_cell c (n, .inr (.inr (.inr (.inr f)))) = vp_cell c (n, .inr (.inr (.inr (.inr f')))) := by
    show arrV c n (fun j => va_rf (f j)) = arrV c n (fun j => va_rf (f' j))
    unfold arrV
    have e2 : (fun j : Fin n => va_rf (f ↑j)) = (fun j : Fin n => va_rf (f' ↑j)) := funext fun j => by rw [h j j.isLt]
    rw [e2]
  show H[x]? = some (vp_cell c (n, .inr (.inr (.inr (.inr f')))))
  rw [← e]
  exact hx
section AT
variable {α : Type} {A C : List α}
theorem at_sk {n i : Nat} (h : A.length = n) : (A ++ C)[n + i]? = C[i]? := by
  subst h
  rw [List.getElem?_append_right (Nat.le_add_right _ _), Nat.add_sub_cancel_left]
theorem at_hd {i : Nat} {x : α} (h : A[i]? = some x) : (A ++ C)[i]? = some x := by
  rw [List.getElem?_append_left (List.getElem?_eq_some_iff.mp h).1]
  exact h
theorem at_c2 {x y : α} {i : Nat} : (x :: y :: A)[2 + i]? = A[i]? := by
  rw [show 2 + i = i + 1 + 1 by omega, List.getElem?_cons_succ, List.getElem?_cons_succ]
end AT
section BK
variable {g : Nat → ClassId}
theorem row_l {r : Nat → Nat} {n : Nat} : (rowL g r n).length = 20 := by unfold rowL; rw [List.length_map, List.length_range]
theorem row_at {r : Nat → Nat} {n i : Nat} (h : i < 20) : (rowL g r n)[i]? = some (r i, arI g n) := by
  unfold rowL
  rw [List.getElem?_map, List.getElem?_range h]
  rfl
theorem bok_e {B : Nat → Nat → Nat} : bokL g B = [(B 0 0, .inr (0, [.int 0, .ref (B 1 0), .ref (B 2 0), .ref (B 3 0), .ref (B 0 1), .int 50, .int 0, .int 0, .int 0, .int 0]))] ++ (rosL g (B 1) ++ (notL g (B 2) ++ ([(B 3 0, .inr (1, [.int 0, .ref (B 3 1), .ref (B 3 2), .ref (B 3 3), .ref (B 3 4), .ref (B 3 5), .ref (B 3 6), .ref (B 3 7)])), (B 3 1, arI g 20), (B 3 2, arI g 20), (B 3 3, arI g 20)] ++ ([(B 3 4, outI g (B 4))] ++ (rowL g (B 4) 4 ++ ([(B 3 5, outI g (B 5))] ++ (rowL g (B 5) 4 ++ ([(B 3 6, outI g (B 6))] ++ (rowL g (B 6) 4 ++ ([(B 3 7, outI g (B 7))] ++ (rowL g (B 7) 30 ++ [(B 0 1, arI g 5)]))))))))))) := by
  unfold bokL calL
  simp only [List.append_assoc]
theorem bok_l {B : Nat → Nat → Nat} : (bokL g B).length = 106 := by
  rw [bok_e]
  simp only [List.length_append, row_l]
  rfl
theorem bk_1 {B : Nat → Nat → Nat} : ∃ e, (bokL g B)[0]? = some (B 0 0, e) ∧ ∀ (h q : Nat) (BB : Nat → Nat → Nat → Nat) (LL LN : Nat → Nat) (o : Nat), BB o = B → CE e (ceC g (adK h q BB LL LN) (1, o, 0) (v0 (1, o, 0))) := by
  rw [bok_e, show 0 = 0 from rfl]
  exact ⟨_, at_hd rfl, fun h q BB LL LN o he => by subst he; exact CE_r⟩
theorem bk_2 {B : Nat → Nat → Nat} : ∃ e, (bokL g B)[1]? = some (B 1 0, e) ∧ ∀ (h q : Nat) (BB : Nat → Nat → Nat → Nat) (LL LN : Nat → Nat) (o : Nat), BB o = B → CE e (ceC g (adK h q BB LL LN) (2, o, 0) (v0 (2, o, 0))) := by
  rw [bok_e, show 1 = 1 + (0) from rfl, at_sk (n := 1) rfl]
  exact ⟨_, at_hd rfl, fun h q BB LL LN o he => by subst he; exact CE_r⟩
theorem bk_3 {B : Nat → Nat → Nat} : ∃ e, (bokL g B)[2]? = some (B 1 1, e) ∧ ∀ (h q : Nat) (BB : Nat → Nat → Nat → Nat) (LL LN : Nat → Nat) (o : Nat), BB o = B → CE e (ceC g (adK h q BB LL LN) (3, o, 0) (v0 (3, o, 0))) := by
  rw [bok_e, show 2 = 1 + (1) from rfl, at_sk (n := 1) rfl]
  exact ⟨_, at_hd rfl, fun h q BB LL LN o he => by subst he; exact CE_r⟩
theorem bk_4 {B : Nat → Nat → Nat} : ∃ e, (bokL g B)[3]? = some (B 1 2, e) ∧ ∀ (h q : Nat) (BB : Nat → Nat → Nat → Nat) (LL LN : Nat → Nat) (o : Nat), BB o = B → CE e (ceC g (adK h q BB LL LN) (4, o, 0) (v0 (4, o, 0))) := by
  rw [bok_e, show 3 = 1 + (2) from rfl, at_sk (n := 1) rfl]
  exact ⟨_, at_hd rfl, fun h q BB LL LN o he => by subst he; exact CE_r⟩
theorem bk_5 {B : Nat → Nat → Nat} : ∃ e, (bokL g B)[4]? = some (B 1 3, e) ∧ ∀ (h q : Nat) (BB : Nat → Nat → Nat → Nat) (LL LN : Nat → Nat) (o : Nat), BB o = B → CE e (ceC g (adK h q BB LL LN) (5, o, 0) (v0 (5, o, 0))) := by
  rw [bok_e, show 4 = 1 + (3) from rfl, at_sk (n := 1) rfl]
  exact ⟨_, at_hd rfl, fun h q BB LL LN o he => by subst he; exact CE_r⟩
theorem bk_6 {B : Nat → Nat → Nat} : ∃ e, (bokL g B)[5]? = some (B 1 4, e) ∧ ∀ (h q : Nat) (BB : Nat → Nat → Nat → Nat) (LL LN : Nat → Nat) (o : Nat), BB o = B → CE e (ceC g (adK h q BB LL LN) (6, o, 0) (v0 (6, o, 0))) := by
  rw [bok_e, show 5 = 1 + (4) from rfl, at_sk (n := 1) rfl]
  exact ⟨_, at_hd rfl, fun h q BB LL LN o he => by subst he; exact CE_r⟩
theorem bk_7 {B : Nat → Nat → Nat} : ∃ e, (bokL g B)[6]? = some (B 1 5, e) ∧ ∀ (h q : Nat) (BB : Nat → Nat → Nat → Nat) (LL LN : Nat → Nat) (o : Nat), BB o = B → CE e (ceC g (adK h q BB LL LN) (7, o, 0) (v0 (7, o, 0))) := by
  rw [bok_e, show 6 = 1 + (5) from rfl, at_sk (n := 1) rfl]
  exact ⟨_, at_hd rfl, fun h q BB LL LN o he => by subst he; exact CE_r⟩
theorem bk_8 {B : Nat → Nat → Nat} : ∃ e, (bokL g B)[7]? = some (B 1 6, e) ∧ ∀ (h q : Nat) (BB : Nat → Nat → Nat → Nat) (LL LN : Nat → Nat) (o : Nat), BB o = B → CE e (ceC g (adK h q BB LL LN) (8, o, 0) (v0 (8, o, 0))) := by
  rw [bok_e, show 7 = 1 + (6) from rfl, at_sk (n := 1) rfl]
  exact ⟨_, at_hd rfl, fun h q BB LL LN o he => by subst he; exact CE_r⟩
theorem bk_9 {B : Nat → Nat → Nat} : ∃ e, (bokL g B)[8]? = some (B 1 7, e) ∧ ∀ (h q : Nat) (BB : Nat → Nat → Nat → Nat) (LL LN : Nat → Nat) (o : Nat), BB o = B → CE e (ceC g (adK h q BB LL LN) (9, o, 0) (v0 (9, o, 0))) := by
  rw [bok_e, show 8 = 1 + (7) from rfl, at_sk (n := 1) rfl]
  exact ⟨_, at_hd rfl, fun h q BB LL LN o he => by subst he; exact CE_r⟩
theorem bk_10 {B : Nat → Nat → Nat} : ∃ e, (bokL g B)[9]? = some (B 1 8, e) ∧ ∀ (h q : Nat) (BB : Nat → Nat → Nat → Nat) (LL LN : Nat → Nat) (o : Nat), BB o = B → CE e (ceC g (adK h q BB LL LN) (10, o, 0) (v0 (10, o, 0))) := by
  rw [bok_e, show 9 = 1 + (8) from rfl, at_sk (n := 1) rfl]
  exact ⟨_, at_hd rfl, fun h q BB LL LN o he => by subst he; exact CE_r⟩
theorem bk_11 {B : Nat → Nat → Nat} : ∃ e, (bokL g B)[10]? = some (B 1 9, e) ∧ ∀ (h q : Nat) (BB : Nat → Nat → Nat → Nat) (LL LN : Nat → Nat) (o : Nat), BB o = B → CE e (ceC g (adK h q BB LL LN) (11, o, 0) (v0 (11, o, 0))) := by
  rw [bok_e, show 10 = 1 + (9) from rfl, at_sk (n := 1) rfl]
  exact ⟨_, at_hd rfl, fun h q BB LL LN o he => by subst he; exact CE_r⟩
theorem bk_12 {B : Nat → Nat → Nat} : ∃ e, (bokL g B)[11]? = some (B 1 10, e) ∧ ∀ (h q : Nat) (BB : Nat → Nat → Nat → Nat) (LL LN : Nat → Nat) (o : Nat), BB o = B → CE e (ceC g (adK h q BB LL LN) (12, o, 0) (v0 (12, o, 0))) := by
  rw [bok_e, show 11 = 1 + (10) from rfl, at_sk (n := 1) rfl]
  exact ⟨_, at_hd rfl, fun h q BB LL LN o he => by subst he; exact CE_r⟩
theorem bk_13 {B : Nat → Nat → Nat} : ∃ e, (bokL g B)[12]? = some (B 1 11, e) ∧ ∀ (h q : Nat) (BB : Nat → Nat → Nat → Nat) (LL LN : Nat → Nat) (o : Nat), BB o = B → CE e (ceC g (adK h q BB LL LN) (13, o, 0) (v0 (13, o, 0))) := by
  rw [bok_e, show 12 = 1 + (11) from rfl, at_sk (n := 1) rfl]
  exact ⟨_, at_hd rfl, fun h q BB LL LN o he => by subst he; exact CE_r⟩
theorem bk_14 {B : Nat → Nat → Nat} : ∃ e, (bokL g B)[13]? = some (B 2 0, e) ∧ ∀ (h q : Nat) (BB : Nat → Nat → Nat → Nat) (LL LN : Nat → Nat) (o : Nat), BB o = B → CE e (ceC g (adK h q BB LL LN) (14, o, 0) (v0 (14, o, 0))) := by
  rw [bok_e, show 13 = 1 + (12 + (0)) from rfl, at_sk (n := 1) rfl, at_sk (n := 12) rfl]
  exact ⟨_, at_hd rfl, fun h q BB LL LN o he => by subst he; exact CE_r⟩
theorem bk_15 {B : Nat → Nat → Nat} : ∃ e, (bokL g B)[14]? = some (B 2 1, e) ∧ ∀ (h q : Nat) (BB : Nat → Nat → Nat → Nat) (LL LN : Nat → Nat) (o : Nat), BB o = B → CE e (ceC g (adK h q BB LL LN) (15, o, 0) (v0 (15, o, 0))) := by
  rw [bok_e, show 14 = 1 + (12 + (1)) from rfl, at_sk (n := 1) rfl, at_sk (n := 12) rfl]
  exact ⟨_, at_hd rfl, fun h q BB LL LN o he => by subst he; exact CE_r⟩
theorem bk_16 {B : Nat → Nat → Nat} : ∃ e, (bokL g B)[15]? = some (B 2 2, e) ∧ ∀ (h q : Nat) (BB : Nat → Nat → Nat → Nat) (LL LN : Nat → Nat) (o : Nat), BB o = B → CE e (ceC g (adK h q BB LL LN) (16, o, 0) (v0 (16, o, 0))) := by
  rw [bok_e, show 15 = 1 + (12 + (2)) from rfl, at_sk (n := 1) rfl, at_sk (n := 12) rfl]
  exact ⟨_, at_hd rfl, fun h q BB LL LN o he => by subst he; exact CE_r⟩
theorem bk_17 {B : Nat → Nat → Nat} : ∃ e, (bokL g B)[16]? = some (B 2 3, e) ∧ ∀ (h q : Nat) (BB : Nat → Nat → Nat → Nat) (LL LN : Nat → Nat) (o : Nat), BB o = B → CE e (ceC g (adK h q BB LL LN) (17, o, 0) (v0 (17, o, 0))) := by
  rw [bok_e, show 16 = 1 + (12 + (3)) from rfl, at_sk (n := 1) rfl, at_sk (n := 12) rfl]
  exact ⟨_, at_hd rfl, fun h q BB LL LN o he => by subst he; exact CE_r⟩
theorem bk_18 {B : Nat → Nat → Nat} : ∃ e, (bokL g B)[17]? = some (B 3 0, e) ∧ ∀ (h q : Nat) (BB : Nat → Nat → Nat → Nat) (LL LN : Nat → Nat) (o : Nat), BB o = B → CE e (ceC g (adK h q BB LL LN) (18, o, 0) (v0 (18, o, 0))) := by
  rw [bok_e, show 17 = 1 + (12 + (4 + (0))) from rfl, at_sk (n := 1) rfl, at_sk (n := 12) rfl, at_sk (n := 4) rfl]
  exact ⟨_, at_hd rfl, fun h q BB LL LN o he => by subst he; exact CE_r⟩
theorem bk_19 {B : Nat → Nat → Nat} : ∃ e, (bokL g B)[18]? = some (B 3 1, e) ∧ ∀ (h q : Nat) (BB : Nat → Nat → Nat → Nat) (LL LN : Nat → Nat) (o : Nat), BB o = B → CE e (ceC g (adK h q BB LL LN) (19, o, 0) (v0 (19, o, 0))) := by
  rw [bok_e, show 18 = 1 + (12 + (4 + (1))) from rfl, at_sk (n := 1) rfl, at_sk (n := 12) rfl, at_sk (n := 4) rfl]
  exact ⟨_, at_hd rfl, fun h q BB LL LN o he => by subst he; exact CE_r⟩
theorem bk_20 {B : Nat → Nat → Nat} : ∃ e, (bokL g B)[19]? = some (B 3 2, e) ∧ ∀ (h q : Nat) (BB : Nat → Nat → Nat → Nat) (LL LN : Nat → Nat) (o : Nat), BB o = B → CE e (ceC g (adK h q BB LL LN) (20, o, 0) (v0 (20, o, 0))) := by
  rw [bok_e, show 19 = 1 + (12 + (4 + (2))) from rfl, at_sk (n := 1) rfl, at_sk (n := 12) rfl, at_sk (n := 4) rfl]
  exact ⟨_, at_hd rfl, fun h q BB LL LN o he => by subst he; exact CE_r⟩
theorem bk_21 {B : Nat → Nat → Nat} : ∃ e, (bokL g B)[20]? = some (B 3 3, e) ∧ ∀ (h q : Nat) (BB : Nat → Nat → Nat → Nat) (LL LN : Nat → Nat) (o : Nat), BB o = B → CE e (ceC g (adK h q BB LL LN) (21, o, 0) (v0 (21, o, 0))) := by
  rw [bok_e, show 20 = 1 + (12 + (4 + (3))) from rfl, at_sk (n := 1) rfl, at_sk (n := 12) rfl, at_sk (n := 4) rfl]
  exact ⟨_, at_hd rfl, fun h q BB LL LN o he => by subst he; exact CE_r⟩
theorem bk_22 {B : Nat → Nat → Nat} : ∃ e, (bokL g B)[21]? = some (B 3 4, e) ∧ ∀ (h q : Nat) (BB : Nat → Nat → Nat → Nat) (LL LN : Nat → Nat) (o : Nat), BB o = B → CE e (ceC g (adK h q BB LL LN) (22, o, 0) (v0 (22, o, 0))) := by
  rw [bok_e, show 21 = 1 + (12 + (4 + (4 + (0)))) from rfl, at_sk (n := 1) rfl, at_sk (n := 12) rfl, at_sk (n := 4) rfl, at_sk (n := 4) rfl]
  exact ⟨_, at_hd rfl, fun h q BB LL LN o he => by subst he; exact CE_a (fun i hi => if_pos hi)⟩
theorem bk_23 {B : Nat → Nat → Nat} : ∃ e, (bokL g B)[42]? = some (B 3 5, e) ∧ ∀ (h q : Nat) (BB : Nat → Nat → Nat → Nat) (LL LN : Nat → Nat) (o : Nat), BB o = B → CE e (ceC g (adK h q BB LL LN) (23, o, 0) (v0 (23, o, 0))) := by
  rw [bok_e, show 42 = 1 + (12 + (4 + (4 + (1 + (20 + (0)))))) from rfl, at_sk (n := 1) rfl, at_sk (n := 12) rfl, at_sk (n := 4) rfl, at_sk (n := 4) rfl, at_sk (n := 1) rfl, at_sk (n := 20) row_l]
  exact ⟨_, at_hd rfl, fun h q BB LL LN o he => by subst he; exact CE_a (fun i hi => if_pos hi)⟩
theorem bk_24 {B : Nat → Nat → Nat} : ∃ e, (bokL g B)[63]? = some (B 3 6, e) ∧ ∀ (h q : Nat) (BB : Nat → Nat → Nat → Nat) (LL LN : Nat → Nat) (o : Nat), BB o = B → CE e (ceC g (adK h q BB LL LN) (24, o, 0) (v0 (24, o, 0))) := by
  rw [bok_e, show 63 = 1 + (12 + (4 + (4 + (1 + (20 + (1 + (20 + (0)))))))) from rfl, at_sk (n := 1) rfl, at_sk (n := 12) rfl, at_sk (n := 4) rfl, at_sk (n := 4) rfl, at_sk (n := 1) rfl, at_sk (n := 20) row_l, at_sk (n := 1) rfl, at_sk (n := 20) row_l]
  exact ⟨_, at_hd rfl, fun h q BB LL LN o he => by subst he; exact CE_a (fun i hi => if_pos hi)⟩
theorem bk_25 {B : Nat → Nat → Nat} : ∃ e, (bokL g B)[84]? = some (B 3 7, e) ∧ ∀ (h q : Nat) (BB : Nat → Nat → Nat → Nat) (LL LN : Nat → Nat) (o : Nat), BB o = B → CE e (ceC g (adK h q BB LL LN) (25, o, 0) (v0 (25, o, 0))) := by
  rw [bok_e, show 84 = 1 + (12 + (4 + (4 + (1 + (20 + (1 + (20 + (1 + (20 + (0)))))))))) from rfl, at_sk (n := 1) rfl, at_sk (n := 12) rfl, at_sk (n := 4) rfl, at_sk (n := 4) rfl, at_sk (n := 1) rfl, at_sk (n := 20) row_l, at_sk (n := 1) rfl, at_sk (n := 20) row_l, at_sk (n := 1) rfl, at_sk (n := 20) row_l]
  exact ⟨_, at_hd rfl, fun h q BB LL LN o he => by subst he; exact CE_a (fun i hi => if_pos hi)⟩
theorem bk_30 {B : Nat → Nat → Nat} : ∃ e, (bokL g B)[105]? = some (B 0 1, e) ∧ ∀ (h q : Nat) (BB : Nat → Nat → Nat → Nat) (LL LN : Nat → Nat) (o : Nat), BB o = B → CE e (ceC g (adK h q BB LL LN) (30, o, 0) (v0 (30, o, 0))) := by
  rw [bok_e, show 105 = 1 + (12 + (4 + (4 + (1 + (20 + (1 + (20 + (1 + (20 + (1 + (20 + (0)))))))))))) from rfl, at_sk (n := 1) rfl, at_sk (n := 12) rfl, at_sk (n := 4) rfl, at_sk (n := 4) rfl, at_sk (n := 1) rfl, at_sk (n := 20) row_l, at_sk (n := 1) rfl, at_sk (n := 20) row_l, at_sk (n := 1) rfl, at_sk (n := 20) row_l, at_sk (n := 1) rfl, at_sk (n := 20) row_l]
  exact ⟨_, rfl, fun h q BB LL LN o he => by subst he; exact CE_r⟩
theorem bk_26 {B : Nat → Nat → Nat} {i : Nat} (hi : i < 20) : ∃ e, (bokL g B)[22 + i]? = some (B 4 i, e) ∧ ∀ (h q : Nat) (BB : Nat → Nat → Nat → Nat) (LL LN : Nat → Nat) (o : Nat), BB o = B → CE e (ceC g (adK h q BB LL LN) (26, o, i) (v0 (26, o, i))) := by
  rw [bok_e, show 22 + i = 1 + (12 + (4 + (4 + (1 + (i))))) by omega, at_sk (n := 1) rfl, at_sk (n := 12) rfl, at_sk (n := 4) rfl, at_sk (n := 4) rfl, at_sk (n := 1) rfl]
  exact ⟨_, at_hd (row_at hi), fun h q BB LL LN o he => by subst he; exact CE_r⟩
theorem bk_27 {B : Nat → Nat → Nat} {i : Nat} (hi : i < 20) : ∃ e, (bokL g B)[43 + i]? = some (B 5 i, e) ∧ ∀ (h q : Nat) (BB : Nat → Nat → Nat → Nat) (LL LN : Nat → Nat) (o : Nat), BB o = B → CE e (ceC g (adK h q BB LL LN) (27, o, i) (v0 (27, o, i))) := by
  rw [bok_e, show 43 + i = 1 + (12 + (4 + (4 + (1 + (20 + (1 + (i))))))) by omega, at_sk (n := 1) rfl, at_sk (n := 12) rfl, at_sk (n := 4) rfl, at_sk (n := 4) rfl, at_sk (n := 1) rfl, at_sk (n := 20) row_l, at_sk (n := 1) rfl]
  exact ⟨_, at_hd (row_at hi), fun h q BB LL LN o he => by subst he; exact CE_r⟩
theorem bk_28 {B : Nat → Nat → Nat} {i : Nat} (hi : i < 20) : ∃ e, (bokL g B)[64 + i]? = some (B 6 i, e) ∧ ∀ (h q : Nat) (BB : Nat → Nat → Nat → Nat) (LL LN : Nat → Nat) (o : Nat), BB o = B → CE e (ceC g (adK h q BB LL LN) (28, o, i) (v0 (28, o, i))) := by
  rw [bok_e, show 64 + i = 1 + (12 + (4 + (4 + (1 + (20 + (1 + (20 + (1 + (i))))))))) by omega, at_sk (n := 1) rfl, at_sk (n := 12) rfl, at_sk (n := 4) rfl, at_sk (n := 4) rfl, at_sk (n := 1) rfl, at_sk (n := 20) row_l, at_sk (n := 1) rfl, at_sk (n := 20) row_l, at_sk (n := 1) rfl]
  exact ⟨_, at_hd (row_at hi), fun h q BB LL LN o he => by subst he; exact CE_r⟩
theorem bk_29 {B : Nat → Nat → Nat} {i : Nat} (hi : i < 20) : ∃ e, (bokL g B)[85 + i]? = some (B 7 i, e) ∧ ∀ (h q : Nat) (BB : Nat → Nat → Nat → Nat) (LL LN : Nat → Nat) (o : Nat), BB o = B → CE e (ceC g (adK h q BB LL LN) (29, o, i) (v0 (29, o, i))) := by
  rw [bok_e, show 85 + i = 1 + (12 + (4 + (4 + (1 + (20 + (1 + (20 + (1 + (20 + (1 + (i))))))))))) by omega, at_sk (n := 1) rfl, at_sk (n := 12) rfl, at_sk (n := 4) rfl, at_sk (n := 4) rfl, at_sk (n := 1) rfl, at_sk (n := 20) row_l, at_sk (n := 1) rfl, at_sk (n := 20) row_l, at_sk (n := 1) rfl, at_sk (n := 20) row_l, at_sk (n := 1) rfl]
  exact ⟨_, at_hd (row_at hi), fun h q BB LL LN o he => by subst he; exact CE_r⟩
theorem bk_all {B : Nat → Nat → Nat} {z i : Nat} (h1 : 1 ≤ z) (h2 : z ≤ 30) (h3 : 26 ≤ z ∧ z ≤ 29 ∧ i < 20 ∨ ¬ (26 ≤ z ∧ z ≤ 29) ∧ i = 0) (h q : Nat) (BB : Nat → Nat → Nat → Nat) (LL LN : Nat → Nat) (o : Nat) (he : BB o = B) : ∃ e, (bokL g B)[rkK z i]? = some (adK h q BB LL LN (z, o, i), e) ∧ CE e (ceC g (adK h q BB LL LN) (z, o, i) (v0 (z, o, i))) := by
  have hk : ∀ {p x : Nat}, (∃ e, (bokL g B)[p]? = some (x, e) ∧ ∀ (h q : Nat) (BB : Nat → Nat → Nat → Nat) (LL LN : Nat → Nat) (o : Nat), BB o = B → CE e (ceC g (adK h q BB LL LN) (z, o, i) (v0 (z, o, i)))) → rkK z i = p → adK h q BB LL LN (z, o, i) = x → ∃ e, (bokL g B)[rkK z i]? = some (adK h q BB LL LN (z, o, i), e) ∧ CE e (ceC g (adK h q BB LL LN) (z, o, i) (v0 (z, o, i))) := fun ⟨e, e1, e2⟩ r1 r2 => ⟨e, by rw [r1, r2]; exact e1, e2 h q BB LL LN o he⟩
  rcases (show z = 1 ∨ z = 2 ∨ z = 3 ∨ z = 4 ∨ z = 5 ∨ z = 6 ∨ z = 7 ∨ z = 8 ∨ z = 9 ∨ z = 10 ∨ z = 11 ∨ z = 12 ∨ z = 13 ∨ z = 14 ∨ z = 15 ∨ z = 16 ∨ z = 17 ∨ z = 18 ∨ z = 19 ∨ z = 20 ∨ z = 21 ∨ z = 22 ∨ z = 23 ∨ z = 24 ∨ z = 25 ∨ z = 26 ∨ z = 27 ∨ z = 28 ∨ z = 29 ∨ z = 30 by omega) with e | e | e | e | e | e | e | e | e | e | e | e | e | e | e | e | e | e | e | e | e | e | e | e | e | e | e | e | e | e
  · subst e; obtain rfl : i = 0 := by omega
    exact hk bk_1 rfl (by subst he; rfl)
  · subst e; obtain rfl : i = 0 := by omega
    exact hk bk_2 rfl (by subst he; rfl)
  · subst e; obtain rfl : i = 0 := by omega
    exact hk bk_3 rfl (by subst he; rfl)
  · subst e; obtain rfl : i = 0 := by omega
    exact hk bk_4 rfl (by subst he; rfl)
  · subst e; obtain rfl : i = 0 := by omega
    exact hk bk_5 rfl (by subst he; rfl)
  · subst e; obtain rfl : i = 0 := by omega
    exact hk bk_6 rfl (by subst he; rfl)
  · subst e; obtain rfl : i = 0 := by omega
    exact hk bk_7 rfl (by subst he; rfl)
  · subst e; obtain rfl : i = 0 := by omega
    exact hk bk_8 rfl (by subst he; rfl)
  · subst e; obtain rfl : i = 0 := by omega
    exact hk bk_9 rfl (by subst he; rfl)
  · subst e; obtain rfl : i = 0 := by omega
    exact hk bk_10 rfl (by subst he; rfl)
  · subst e; obtain rfl : i = 0 := by omega
    exact hk bk_11 rfl (by subst he; rfl)
  · subst e; obtain rfl : i = 0 := by omega
    exact hk bk_12 rfl (by subst he; rfl)
  · subst e; obtain rfl : i = 0 := by omega
    exact hk bk_13 rfl (by subst he; rfl)
  · subst e; obtain rfl : i = 0 := by omega
    exact hk bk_14 rfl (by subst he; rfl)
  · subst e; obtain rfl : i = 0 := by omega
    exact hk bk_15 rfl (by subst he; rfl)
  · subst e; obtain rfl : i = 0 := by omega
    exact hk bk_16 rfl (by subst he; rfl)
  · subst e; obtain rfl : i = 0 := by omega
    exact hk bk_17 rfl (by subst he; rfl)
  · subst e; obtain rfl : i = 0 := by omega
    exact hk bk_18 rfl (by subst he; rfl)
  · subst e; obtain rfl : i = 0 := by omega
    exact hk bk_19 rfl (by subst he; rfl)
  · subst e; obtain rfl : i = 0 := by omega
    exact hk bk_20 rfl (by subst he; rfl)
  · subst e; obtain rfl : i = 0 := by omega
    exact hk bk_21 rfl (by subst he; rfl)
  · subst e; obtain rfl : i = 0 := by omega
    exact hk bk_22 rfl (by subst he; rfl)
  · subst e; obtain rfl : i = 0 := by omega
    exact hk bk_23 rfl (by subst he; rfl)
  · subst e; obtain rfl : i = 0 := by omega
    exact hk bk_24 rfl (by subst he; rfl)
  · subst e; obtain rfl : i = 0 := by omega
    exact hk bk_25 rfl (by subst he; rfl)
  · subst e; exact hk (bk_26 (show i < 20 by omega)) (by unfold rkK; rw [if_neg (by decide), if_neg (by decide), if_pos (by decide)]) (by subst he; rfl)
  · subst e; exact hk (bk_27 (show i < 20 by omega)) (by unfold rkK; rw [if_neg (by decide), if_neg (by decide), if_pos (by decide)]) (by subst he; rfl)
  · subst e; exact hk (bk_28 (show i < 20 by omega)) (by unfold rkK; rw [if_neg (by decide), if_neg (by decide), if_pos (by decide)]) (by subst he; rfl)
  · subst e; exact hk (bk_29 (show i < 20 by omega)) (by unfold rkK; rw [if_neg (by decide), if_neg (by decide), if_pos (by decide)]) (by subst he; rfl)
  · subst e; obtain rfl : i = 0 := by omega
    exact hk bk_30 rfl (by subst he; rfl)
theorem reg_e {h q : Nat} {B : Nat → Nat → Nat → Nat} {LL LN : Nat → Nat} : regL g h q B LL LN = (h, .inr (6, [.ref (B 0 0 0), .ref (B 1 0 0), .ref (B 2 0 0), .int 0, .ref q, .int 0, .ref (LL 0), .ref (LN 0)])) :: (q, .inl (g 3, 4, .inr (.inr (.inr (.inr (recF B)))))) :: (bokL g (B 0) ++ (bokL g (B 1) ++ (bokL g (B 2) ++ (letL g LL ++ (linL g LN ++ (bokL g (B 3) ++ (bokL g (B 4) ++ (bokL g (B 5) ++ bokL g (B 6))))))))) := by
  unfold regL
  simp only [List.append_assoc]
theorem reg_l {h q : Nat} {B : Nat → Nat → Nat → Nat} {LL LN : Nat → Nat} : (regL g h q B LL LN).length = 753 := by
  rw [reg_e]
  simp only [List.length_cons, List.length_append, bok_l]
  have h1 : (letL g LL).length = 3 := rfl
  have h2 : (linL g LN).length = 6 := rfl
  rw [h1, h2]
theorem recF_at {B : Nat → Nat → Nat → Nat} {h q : Nat} {LL LN : Nat → Nat} : ∀ i, i < 4 → recF B i = some (adK h q B LL LN (1, ix (nI (3 + i)), 0)) := fun i hi => by
  rcases (show i = 0 ∨ i = 1 ∨ i = 2 ∨ i = 3 by omega) with e | e | e | e <;> subst e <;> rfl
theorem reg_at {h q : Nat} {B : Nat → Nat → Nat → Nat} {LL LN : Nat → Nat} : ∀ k, okC k → ∃ e, (regL g h q B LL LN)[psK k]? = some (adK h q B LL LN k, e) ∧ CE e (ceC g (adK h q B LL LN) k (v0 k)) := by
  intro k hk
  obtain ⟨z, o, i⟩ := k
  rcases psK_s hk with ⟨a1, e1⟩ | ⟨a1, e1⟩ | ⟨a1, a2, a3, e1⟩ | ⟨a1, a2, a3, e1⟩ | ⟨a1, a2, a3, a4, e1, a5⟩
  · rw [e1, a1, reg_e]
    exact ⟨_, rfl, CE_r⟩
  · rw [e1, a1, reg_e]
    exact ⟨_, rfl, CE_a recF_at⟩
  · cases a3
    rw [e1, reg_e]
    have e3 : 320 + ((z, (0 : Nat), (0 : Nat)).1 - 32) = 2 + (106 + (106 + (106 + (z - 32)))) := by show 320 + (z - 32) = _; omega
    rw [e3, at_c2, at_sk bok_l, at_sk bok_l, at_sk bok_l]
    have a1' : 32 ≤ z := a1
    have a2' : z ≤ 34 := a2
    rcases (show z = 32 ∨ z = 33 ∨ z = 34 by omega) with e | e | e <;> subst e
    · exact ⟨_, at_hd rfl, CE_r⟩
    · exact ⟨_, at_hd rfl, CE_r⟩
    · exact ⟨_, at_hd rfl, CE_r⟩
  · cases a3
    rw [e1, reg_e]
    have e3 : 323 + ((z, (0 : Nat), (0 : Nat)).1 - 35) = 2 + (106 + (106 + (106 + (3 + (z - 35))))) := by show 323 + (z - 35) = _; omega
    rw [e3, at_c2, at_sk bok_l, at_sk bok_l, at_sk bok_l, at_sk (n := 3) rfl]
    have a1' : 35 ≤ z := a1
    have a2' : z ≤ 40 := a2
    rcases (show z = 35 ∨ z = 36 ∨ z = 37 ∨ z = 38 ∨ z = 39 ∨ z = 40 by omega) with e | e | e | e | e | e <;> subst e
    · exact ⟨_, at_hd rfl, CE_r⟩
    · exact ⟨_, at_hd rfl, CE_r⟩
    · exact ⟨_, at_hd rfl, CE_r⟩
    · exact ⟨_, at_hd rfl, CE_r⟩
    · exact ⟨_, at_hd rfl, CE_r⟩
    · exact ⟨_, at_hd rfl, CE_r⟩
  · have a3' : o < 7 := a3
    obtain ⟨e, b1, b2⟩ := bk_all (g := g) (B := B o) a1 a2 a4 h q B LL LN o rfl
    refine ⟨e, ?_, b2⟩
    rw [e1, reg_e]
    show (_ :: _ :: _)[ofK o + rkK z i]? = _
    rcases (show o = 0 ∨ o = 1 ∨ o = 2 ∨ o = 3 ∨ o = 4 ∨ o = 5 ∨ o = 6 by omega) with q | q | q | q | q | q | q <;> subst q
    · rw [show ofK 0 + rkK z i = 2 + (rkK z i) by show 2 + rkK z i = _; omega, at_c2]
      exact at_hd b1
    · rw [show ofK 1 + rkK z i = 2 + (106 + (rkK z i)) by show 108 + rkK z i = _; omega, at_c2, at_sk bok_l]
      exact at_hd b1
    · rw [show ofK 2 + rkK z i = 2 + (106 + (106 + (rkK z i))) by show 214 + rkK z i = _; omega, at_c2, at_sk bok_l, at_sk bok_l]
      exact at_hd b1
    · rw [show ofK 3 + rkK z i = 2 + (106 + (106 + (106 + (3 + (6 + (rkK z i)))))) by show 329 + rkK z i = _; omega, at_c2, at_sk bok_l, at_sk bok_l, at_sk bok_l, at_sk (n := 3) rfl, at_sk (n := 6) rfl]
      exact at_hd b1
    · rw [show ofK 4 + rkK z i = 2 + (106 + (106 + (106 + (3 + (6 + (106 + (rkK z i))))))) by show 435 + rkK z i = _; omega, at_c2, at_sk bok_l, at_sk bok_l, at_sk bok_l, at_sk (n := 3) rfl, at_sk (n := 6) rfl, at_sk bok_l]
      exact at_hd b1
    · rw [show ofK 5 + rkK z i = 2 + (106 + (106 + (106 + (3 + (6 + (106 + (106 + (rkK z i)))))))) by show 541 + rkK z i = _; omega, at_c2, at_sk bok_l, at_sk bok_l, at_sk bok_l, at_sk (n := 3) rfl, at_sk (n := 6) rfl, at_sk bok_l, at_sk bok_l]
      exact at_hd b1
    · rw [show ofK 6 + rkK z i = 2 + (106 + (106 + (106 + (3 + (6 + (106 + (106 + (106 + (rkK z i))))))))) by show 647 + rkK z i = _; omega, at_c2, at_sk bok_l, at_sk bok_l, at_sk bok_l, at_sk (n := 3) rfl, at_sk (n := 6) rfl, at_sk bok_l, at_sk bok_l, at_sk bok_l]
      exact b1
end BK

/-! THE LAW FROM ITS ENTRY -/
def cO2 (E : jE) (mL : Nat) (D : va_G) (g : Nat → ClassId) (A : Nat → Prop) (cc : ByteArray) (own : String) (Ts : List Cond) (rm : Room) : Prop :=
  (E.1.tables.exec = Jvm.exec ∧ E.2.2.2.2.2.2.2.2.2.code = cc ∧ E.2.2.2.2.2.2.2.2.2.maxLocals = mL ∧ E.2.2.2.2.1.vm.findClass own = some E.2.2.2.2.2.1.cls ∧ ∀ w ∈ Ts, w.before E.2.2.2.2.2.2.1 E.2.2.2.2.1 = true) ∧
  (va_K D vwCl (jtys g) E.2.2.2.2.1 ∧ E.2.2.2.1 = rm ∧ (∀ q, E.2.2.2.2.1.heap.size ≤ q → A q) ∧ XN E.2.2.2.2.1) ∧ True
section SD
variable {E : jE} {mL : Nat} {Q : State → Prop} {D : va_G} {g : Nat → ClassId} {A : Nat → Prop} {cs : Nat × Nat} {pc : Nat} {ls : List (Nat × Value)} {st : List Value} {ws : va_W} {cc : ByteArray} {own : String} {Ts : List Cond} {rm : Room}
theorem sd_iconst (hG : cO2 E mL D g A cc own Ts rm) {n : Int} {x : Int32} (pc2 : Nat) (hp : pc + 1 = pc2) (d : decode cc pc = .ok (.iconst n, 1)) (hv : Int32.ofInt n = x) (k : Sc E mL Q D A cs pc2 ls (.int x :: st) ws) : Sc E mL Q D A cs pc ls st ws := by
  subst hp; intro a H locs ha hP hD hS; exact lv_iconst hG.1.1 hG.1.2.1 d hv (k a H locs ha hP hD hS)
theorem sd_dup (hG : cO2 E mL D g A cc own Ts rm) {x : Value} (pc2 : Nat) (hp : pc + 1 = pc2) (d : decode cc pc = .ok (.dup, 1)) (hc : x.category = 1) (k : Sc E mL Q D A cs pc2 ls (x :: x :: st) ws) : Sc E mL Q D A cs pc ls (x :: st) ws := by
  subst hp; intro a H locs ha hP hD hS; exact lv_dup hG.1.1 hG.1.2.1 d hc (k a H locs ha hP hD hS)
theorem sd_new (hG : cO2 E mL D g A cc own Ts rm) {n ci N : Nat} {C : String} {T : u_T} {fs : List Value} (ty0 : Nat → FieldType) (pc2 : Nat) (hp : pc + 3 = pc2) (hc : vwCl[ci]? = some (C, T, N)) (hin : ∀ w ∈ u_ws C T N, w ∈ Ts) (hty : ∀ k, k < N → parseFieldDescriptor (T k).2.2.1 = some (ty0 k)) (h1 : Cond.classLink own n C ∈ Ts) (h2 : Cond.instantiable C N ∈ Ts) (h3 : Cond.initialized C ∈ Ts) (hfs : ∀ j, j < N → defaultValue (ty0 j) = vp_V fs j) (cs2 : Nat × Nat) (hcs : cs.1 + 1 = cs2.1 ∧ cs.2 + N = cs2.2) (hc1 : cs2.1 ≤ rm.cells ∧ cs2.2 ≤ rm.slots) (d : decode cc pc = .ok (.new n, 3)) (k : ∀ q, Sc E mL Q D A cs2 pc2 ls (.ref q :: st) (ws ++ [(q, .inr (ci, fs))])) : Sc E mL Q D A cs pc ls st ws := by
  subst hp; intro a H locs ha hP hD hS
  refine va_new hG.1.1 hG.1.2.1 hG.1.2.2.2.2 hin ty0 hty hG.1.2.2.2.1 (hG.1.2.2.2.2 _ h1) (hG.1.2.2.2.2 _ h2) (hG.1.2.2.2.2 _ h3) hG.2.1.1 hP hD hS hG.2.1.2.2.1 hc hfs (by rw [hG.2.1.2.1, hcs.1]; exact hc1.1) (by rw [hG.2.1.2.1, hcs.2]; exact hc1.2) d (fun q H1 hP1 hD1 hS1 => ?_)
  rw [hcs.1, hcs.2]
  exact k q a H1 locs ha hP1 hD1 hS1
theorem sd_astore (hG : cO2 E mL D g A cc own Ts rm) {q : Fin 4} {i x : Nat} (pc2 : Nat) (hp : pc + 1 = pc2) (d : decode cc pc = .ok (.astore_n q, 1)) (hi : (q : Nat) = i) (hn : i < mL) (ls2 : List (Nat × Value)) (hl : (i, Value.ref x) :: ls.filter (fun q => !(q.1 == i) && !(q.1 + 1 == i && q.2.category == 2)) = ls2) (k : Sc E mL Q D A cs pc2 ls2 st ws) : Sc E mL Q D A cs pc ls (.ref x :: st) ws := by
  subst hp; intro a H locs ha hP hD hS; exact lv_astore_n hG.1.1 hG.1.2.1 d hi ha hn hl (fun a2 ha2 => k a2 H locs ha2 hP hD hS)
theorem sd_istore (hG : cO2 E mL D g A cc own Ts rm) {i : Nat} {x : Int32} (pc2 : Nat) (hp : pc + 2 = pc2) (d : decode cc pc = .ok (.istore i, 2)) (hn : i < mL) (ls2 : List (Nat × Value)) (hl : (i, Value.int x) :: ls.filter (fun q => !(q.1 == i) && !(q.1 + 1 == i && q.2.category == 2)) = ls2) (k : Sc E mL Q D A cs pc2 ls2 st ws) : Sc E mL Q D A cs pc ls (.int x :: st) ws := by
  subst hp; intro a H locs ha hP hD hS; exact lv_istore hG.1.1 hG.1.2.1 d ha hn hl (fun a2 ha2 => k a2 H locs ha2 hP hD hS)
theorem sd_newl (hG : cO2 E mL D g A cc own Ts rm) {x : Int32} {N : Nat} (pc2 : Nat) (hp : pc + 2 = pc2) (hw : Cond.arrayClass .long ∈ Ts) (hx : ¬ x < 0) (hN : x.toNatClampNeg = N) (hb : N * componentBytes .long ≤ 536870912) (cs2 : Nat × Nat) (hcs : cs.1 + 1 = cs2.1 ∧ cs.2 + N = cs2.2) (hc1 : cs2.1 ≤ rm.cells ∧ cs2.2 ≤ rm.slots) (d : decode cc pc = .ok (.newarray .long, 2)) (k : ∀ q, (∀ (i : Nat) (x : Nat × va_E), ws[i]? = some x → x.1 < q) → Sc E mL Q D A cs2 pc2 ls (.ref q :: st) (ws ++ [(q, .inl (g 4, N, .inr (.inl (fun _ => 0))))])) : Sc E mL Q D A cs pc ls (.int x :: st) ws := by
  subst hp; intro a H locs ha hP hD hS
  refine va_newaK (atype := .long) hG.1.1 hG.1.2.1 (hG.1.2.2.2.2 _ hw) rfl d rfl hx hN hb (by rw [hG.2.1.2.1, hcs.1]; exact hc1.1) (by rw [hG.2.1.2.1, hcs.2]; exact hc1.2) (h := H.size) rfl (fun H1 cA e1 z1 o1 hAr hNm => ?_)
  have hcA : cA = g 4 := Option.some.inj ((show E.2.2.2.2.1.vm.findClass _ = some cA from hNm).symm.trans (k_at hG.2.1.1).2.2.2.2)
  subst hcA
  have hk : ∀ (i : Nat) (x : Nat × va_E), ws[i]? = some x → H1[x.1]? = H[x.1]? := fun i x hx => o1 x.1 ((hP i x hx).lt)
  rw [hcs.1, hcs.2]
  refine k H.size (fun i x hx => (hP i x hx).lt) a H1 locs ha ((hP.kept hk).app (fun i x hx => ?_)) (hD.push hP rfl (hG.2.1.2.2.1 _ hS.1)) ⟨Nat.le_trans hS.1 (by omega), fun x h1 h2 => (o1 x (Nat.lt_of_lt_of_le h1 hS.1)).trans (hS.2.1 x h1 h2), hS.2.2⟩
  have hz : i < 1 := (List.getElem?_eq_some_iff.mp hx).1
  rw [show i = 0 by omega] at hx
  cases hx
  exact e1
theorem sd_call (hG : cO2 E mL D g A cc own Ts rm) {y : MethodName} {wsy ws' : List Cond} {bytes : ByteArray} {maxL index ci : Nat} {rmc : Room} {fs : List Value} {P : Nat → va_W → Prop} {wr : va_W} {q : Nat} (pc2 : Nat) (hp : pc + 3 = pc2) (hws : ws = wr ++ [(q, .inr (ci, fs))]) (hM : Cn E.2.1 y wsy rmc D g ci fs P) (hN : Cond.methodLink own index y ∈ Ts) (hT : GoodIn Ts wsy) (hini : Cond.initialized y.cls ∈ Ts) (hin : Cond.instanceMethod y ∈ Ts) (hw : wsy = Cond.code y bytes maxL none :: ws') (hd : y.cls ≠ "java/lang/invoke/MethodHandle" ∧ y.cls ≠ "java/lang/invoke/VarHandle" ∧ (parseMethodDescriptor y.desc).map (fun d => d.parameters.length) = some 0) (hnm : y.name = "<init>") (hRm : rmc.frames + 1 ≤ rm.frames ∧ 8 + (maxL + 11) + rmc.locals ≤ rm.locals) (hst : (st.map fun v => v.category).sum ≤ 8) (cs2 : Nat × Nat) (hz : cs.1 + rmc.cells = cs2.1 ∧ cs.2 + rmc.slots = cs2.2) (hcs : cs2.1 ≤ rm.cells ∧ cs2.2 ≤ rm.slots) (d : decode cc pc = .ok (.invokespecial index, 3))
    (k : ∀ w1, P q w1 → Sc E mL Q D A cs2 pc2 ls st (wr ++ w1)) : Sc E mL Q D A cs pc ls (.ref q :: st) ws := by
  subst hp hws
  intro a H locs ha hP hD hS
  have h8 : E.2.2.2.1 = rm := hG.2.1.2.1
  have hAq : A q := hD.2 wr.length (q, .inr (ci, fs)) (by rw [List.getElem?_append_right (Nat.le_refl _), Nat.sub_self]; rfl)
  have hPq : va_P D vwCl [(q, .inr (ci, fs))] H := fun i x hx => hP (wr.length + i) x (by rw [List.getElem?_append_right (Nat.le_add_right _ _), Nat.add_sub_cancel_left]; exact hx)
  have hAH : ∀ x, H.size ≤ x → A x := fun x hx => hG.2.1.2.2.1 x (Nat.le_trans hS.1 hx)
  have hfr : ∀ x, (x = q ∨ H.size ≤ x) → A x := fun x hx => hx.elim (fun e => by rw [e]; exact hAq) (hAH x)
  have hrun := va_runI (e := E.2.2.1) (below := E.2.2.2.2.2.2.2.1) (meth := E.2.2.2.2.2.2.2.2.1) (R := E.2.2.2.1) (cells := cs.1) (slots := cs.2) (locs := locs) (H := H) (g := F0 E.2.2.2.2.2.1 pc a (.ref q :: st)) (As := []) (rest := st) ⟨hG.1.1, hG.1.2.1, hG.1.2.2.1, hG.1.2.2.2.1, hG.1.2.2.2.2⟩ (hM q H.size) (cwI 0 hG.1.2.2.2.2 hT hw rfl rfl (hG.1.2.2.2.2 _ hini) (hG.1.2.2.2.2 _ hN) (hG.1.2.2.2.2 _ hin) hnm hd (by rw [h8]; exact hRm))
    ⟨fun a U g mk z => by obtain ⟨q0, q1, qP, qK, qX⟩ := z; exact ⟨q0, q1, qP, va_K.moved (u := U) (U := U.calling g mk a) (Vm.Alike.refl U.vm) qK, XN_same (u := U) rfl qX⟩, fun U hU hW => ⟨rfl, by rw [hU], by rw [hU]; exact hPq, va_K.moved hW.alike hG.2.1.1, XN_warm hW hG.2.1.2.2.2⟩⟩ rfl rfl ha.1 rfl (lv_room hst) d (by rw [hz.1, hz.2, h8]; exact hcs)
  intro T hT X
  obtain ⟨v, st₀, t, T', L, h0, X', hL, e1, e2, ⟨hv, ⟨w1, p1, p2, p3⟩, hzz, hk⟩, stp⟩ := hrun T hT X
  cases hv
  rw [h0] at hzz hk
  obtain ⟨j1, j2⟩ := jw (H1 := T'.heap) hP hD (fun x hx hn => by rw [e1]; exact hk x hx hn) (by rw [e1]; exact p2) p3 hAH
  rw [hz.1, hz.2] at X'
  obtain ⟨t2, a1, b1⟩ := k w1 p1 a T'.heap (locs ++ L) ha j1 j2 ⟨Nat.le_trans hS.1 (by rw [e1]; exact hzz), fun x h1 h2 => by
      rw [e1, hk x (Nat.lt_of_lt_of_le h1 hS.1) (fun z => h2 (hfr x z))]
      exact hS.2.1 x h1 h2, fun x hx => by
      rcases List.mem_append.mp hx with h | h
      · exact hS.2.2 x h
      · exact hfr _ (hL x h)⟩ T' rfl X'
  exact ⟨t2, stp t2 a1, b1⟩
end SD

/-! WORLDS OF ONE OBJECT THAT THE METHOD MAKES -/
theorem okC_fin : ∃ ks : List kC, ∀ k, okC k ↔ k ∈ ks := by
  refine ⟨((List.range 41).flatMap fun a => (List.range 7).flatMap fun b => (List.range 20).map fun c => (a, b, c)).filter (fun k => @decide (okC k) (Classical.propDecidable _)), fun k => ?_⟩
  rw [List.mem_filter]
  constructor
  · intro h
    refine ⟨?_, @decide_eq_true _ (Classical.propDecidable _) h⟩
    obtain ⟨a, b, c⟩ := k
    have h2 : a < 41 ∧ b < 7 ∧ c < 20 := by
      unfold okC at h
      dsimp only at h
      omega
    rw [List.mem_flatMap]
    refine ⟨a, List.mem_range.mpr h2.1, ?_⟩
    rw [List.mem_flatMap]
    exact ⟨b, List.mem_range.mpr h2.2.1, List.mem_map.mpr ⟨c, List.mem_range.mpr h2.2.2, rfl⟩⟩
  · intro h
    exact @of_decide_eq_true _ (Classical.propDecidable _) h.2

def WD (sz : Nat) (U : State) (H : Heap) : Prop := XN U ∧ XCC (fun q => sz ≤ q) U H ∧ ∀ q ∈ ncW, va_Nc q.1 q.2 U
def lY (D : va_G) (g : Nat → ClassId) (ad : kC → Nat) (sz : Nat) : jL kC := (D, g, okC, ad, ceC g ad, (fun q => sz ≤ q), sz, WD sz)
theorem WD_keep {sz : Nat} {u U : State} {H H1 : Heap} (hW : u.WarmedH U.vm) (hq : ∀ q : Nat, q < H.size → ¬ sz ≤ q → H1[q]? = H[q]?) (h : WD sz u H) : WD sz U H1 := ⟨XN_warm hW h.1, XCC_keep hW hq h.2.1, fun q hq => (h.2.2 q hq).moved hW.alike⟩
theorem lY_ok {D : va_G} {g : Nat → ClassId} {ad : kC → Nat} {sz : Nat} (h1 : ∀ a b, okC a → okC b → ad a = ad b → a = b) (h2 : ∀ k, okC k → sz ≤ ad k) : LC (lY D g ad sz) := ⟨⟨okC_fin, h1, h2, fun q hq => hq, fun u U H H1 hW hX _ hq => WD_keep hW hq hX⟩, fun k => Iff.rfl, rfl, fun U H h => ⟨h.1.1, h.2.1⟩⟩
theorem lY_nc {D : va_G} {g : Nat → ClassId} {ad : kC → Nat} {sz : Nat} : Xnc (lY D g ad sz) := fun U H h => ⟨h.2.2, h.1.2.1, h.1.2.2⟩
def TP (D : va_G) (g : Nat → ClassId) (sz : Nat) (U : State) : Prop := U.heap.size = sz ∧ va_K D vwCl (jtys g) U ∧ WD sz U U.heap
/-- a method that makes an object of its own: what it returns; nothing old is touched -/
def Tn (l : Launch) (y : MethodName) (ws : List Cond) (rm : Room) (r : Int32) : Prop := ∀ (D : va_G) (g : Nat → ClassId) (sz : Nat), Met l y ws rm (va_Pc [] (TP D g sz)) (fun _ st o t => o = .returned (some (.int r)) ∧ va_F (fun q => sz ≤ q) st t) rm.cells rm.slots (fun q => sz ≤ q)
theorem tfb {D : va_G} {g : Nat → ClassId} {sz : Nat} : FrameBlind (va_Pc [] (TP D g sz)) := fun a U g' mk q => ⟨q.1, q.2.1, va_K.moved (u := U) (U := U.calling g' mk a) (Vm.Alike.refl U.vm) q.2.2.1, WD_keep (u := U) (U := U.calling g' mk a) (State.WarmedH.refl U) (fun _ _ _ => rfl) q.2.2.2⟩
section TC
variable {ρ : Type} {Γ : jG ρ} {Λ : jL kC} {cs : Nat × Nat} {pc : Nat} {ls : List (Nat × Value)} {st : List Value} {v : mC} {cc : ByteArray} {own : String} {Ts : List Cond} {rm : Room}
theorem sm_tcallS (hG : jOk Γ Λ cc own Ts rm) (hC : LC Λ) (hX : Xnc Λ) {y : MethodName} {ws ws' : List Cond} {bytes : ByteArray} {maxL n index : Nat} {ret : Option FieldType} {rmc : Room} {F : Option Int32} {e2 : Int32 → Option ρ} {stk : List Value} (pc2 : Nat) (hp : pc + 3 = pc2)
    (hM : ∀ r, F = some r → Tn Γ.1.2.1 y ws rmc r) (hT : GoodIn Ts (va_wsS own index y ws)) (hw : ws = Cond.code y bytes maxL ret :: ws') (hd : y.cls ≠ "java/lang/invoke/MethodHandle" ∧ y.cls ≠ "java/lang/invoke/VarHandle" ∧ (parseMethodDescriptor y.desc).map (fun d => d.parameters.length) = some n) (hRm : rmc.frames + 1 ≤ rm.frames ∧ 8 + (maxL + 11) + rmc.locals ≤ rm.locals) (hn : ([] : List Value).length = n) (hst : (st.map fun v => v.category).sum ≤ 8) (cs2 : Nat × Nat) (hz : cs.1 + rmc.cells = cs2.1 ∧ cs.2 + rmc.slots = cs2.2) (hcs : cs2.1 ≤ rm.cells ∧ cs2.2 ≤ rm.slots) (hstk : st = stk) (d : decode cc pc = .ok (.invokestatic index, 3))
    (k : ∀ r, Sm Γ Λ cs2 pc2 ls (.int r :: st) v (e2 r)) : Sm Γ Λ cs pc ls stk v (F.bind e2) := by
  subst hp hstk
  intro r hr a H locs ha hR hS
  obtain ⟨x, hx, hr2⟩ := Option.bind_eq_some_iff.mp hr
  have hR8 : Γ.1.2.2.2.1 = rm := hG.2.2.2.2.2.2.2.1
  have hA : ∀ q, H.size ≤ q → Λ.2.2.2.2.2.1 q := fun q hq => hG.2.2.2.2.2.2.1.2.2.2.1 q (Nat.le_trans hG.2.2.2.2.2.2.2.2.1 (Nat.le_trans hS.1 hq))
  have hrun := va_runS (e := Γ.1.2.2.1) (below := Γ.1.2.2.2.2.2.2.2.1) (meth := Γ.1.2.2.2.2.2.2.2.2.1) (R := Γ.1.2.2.2.1) (cells := cs.1) (slots := cs.2) (locs := locs) (H := H) (g := F0 Γ.1.2.2.2.2.2.1 pc a st) (As := []) (rest := st) ⟨hG.1, hG.2.1, hG.2.2.1, hG.2.2.2.1, hG.2.2.2.2.1⟩ (hM x hx Λ.1 Λ.2.1 H.size) (va_cwS n hG.2.2.2.2.1 hT hw rfl rfl hd (by rw [hR8]; exact hRm)) ⟨tfb, fun U hU hW => by
    have hs := jSt_at hG hR hS hW hU
    have hc := hC.2.2.2 U U.heap hs.2.2.2
    have hx := hX U U.heap hs.2.2.2
    exact ⟨rfl, by rw [hU], hs.2.2.1, ⟨hc.1, hx.2.1, hx.2.2⟩, XCC_narrow hA hc.2, hx.1⟩⟩ rfl hn ha.1 rfl (lv_room hst) d (by rw [hz.1, hz.2, hR8]; exact hcs)
  intro T hT2 X
  obtain ⟨u, st₀, t, T', L, h0, X', hL, e1, e2', ⟨hv, hzz, hk⟩, stp⟩ := hrun T hT2 X
  cases hv
  rw [h0] at hzz hk
  rw [hz.1, hz.2] at X'
  have hq : ∀ q : Nat, q < H.size → T'.heap[q]? = H[q]? := fun q h => by rw [e1]; exact hk q h (Nat.not_le.mpr h)
  obtain ⟨t2, a1, b1⟩ := k x r hr2 a T'.heap (locs ++ L) ha (fun k1 hk1 => (hR k1 hk1).kept (hq _ (hR k1 hk1).lt)) ⟨Nat.le_trans hS.1 (by rw [e1]; exact hzz), fun q h1 h2 => by rw [hq q (Nat.lt_of_lt_of_le h1 hS.1)]; exact hS.2.1 q h1 h2, fun q hq2 => by
      rcases List.mem_append.mp hq2 with h | h
      · exact hS.2.2 q h
      · exact hA _ (hL q h)⟩ T' rfl X'
  exact ⟨t2, stp t2 a1, b1⟩
end TC
theorem start_Y {D : va_G} {g : Nat → ClassId} {h q : Nat} {B : Nat → Nat → Nat → Nat} {LL LN : Nat → Nat} {H : Heap} {sz : Nat} (hP : va_P D vwCl (regL g h q B LL LN) H) (hD : va_D (fun x => sz ≤ x) (regL g h q B LL LN)) : (∀ a b, okC a → okC b → adK h q B LL LN a = adK h q B LL LN b → a = b) ∧ (∀ k, okC k → sz ≤ adK h q B LL LN k) ∧ Rp (lY D g (adK h q B LL LN) sz) v0 H := by
  refine ⟨fun a c ha hc e => ?_, fun k hk => ?_, fun k hk => ?_⟩
  · obtain ⟨e1, p1, -⟩ := reg_at (g := g) (h := h) (q := q) (B := B) (LL := LL) (LN := LN) a ha
    obtain ⟨e2, p2, -⟩ := reg_at (g := g) (h := h) (q := q) (B := B) (LL := LL) (LN := LN) c hc
    exact psK_inj ha hc (hD.1 _ _ _ _ p1 p2 e)
  · obtain ⟨e1, p1, -⟩ := reg_at (g := g) (h := h) (q := q) (B := B) (LL := LL) (LN := LN) k hk
    exact hD.2 _ _ p1
  · obtain ⟨e1, p1, p2⟩ := reg_at (g := g) (h := h) (q := q) (B := B) (LL := LL) (LN := LN) k hk
    exact p2 D _ H (hP _ _ p1)
