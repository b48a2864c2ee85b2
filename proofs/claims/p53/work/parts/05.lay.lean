/-! LAYOUTS (printed by wip/whole/genlay.py): the class, keys (kind, book, row); the reference, keys by kind -/
def up {κ : Type} [DecidableEq κ] (v : κ → Nat → Int32) (k0 : κ) (i0 : Nat) (x : Int32) : κ → Nat → Int32 := fun k i => if k = k0 ∧ i = i0 then x else v k i
def upA {κ : Type} [DecidableEq κ] (v : κ → Nat → Int32) (k0 : κ) (f : Nat → Int32) : κ → Nat → Int32 := fun k => if k = k0 then f else v k
theorem up_at {κ : Type} [DecidableEq κ] (v : κ → Nat → Int32) (k0 : κ) (i0 : Nat) (x : Int32) : up v k0 i0 x k0 = upd (v k0) i0 x := by
  funext i
  simp [up, upd]
theorem up_ne {κ : Type} [DecidableEq κ] (v : κ → Nat → Int32) {k0 k : κ} (i0 : Nat) (x : Int32) (h : k ≠ k0) : up v k0 i0 x k = v k := by
  funext i
  simp [up, h]
theorem upA_at {κ : Type} [DecidableEq κ] (v : κ → Nat → Int32) (k0 : κ) (f : Nat → Int32) : upA v k0 f k0 = f := by simp [upA]
theorem upA_ne {κ : Type} [DecidableEq κ] (v : κ → Nat → Int32) {k0 k : κ} (f : Nat → Int32) (h : k ≠ k0) : upA v k0 f k = v k := by simp [upA, h]
theorem jlt {i n m : Nat} (h : m = n) (h2 : Nat.blt i n = true) : i < m := by
  subst h
  exact Nat.blt_eq.mp h2
abbrev kC : Type := Nat × Nat × Nat
abbrev mC : Type := kC → Nat → Int32
def ceC (g : Nat → ClassId) (ad : kC → Nat) : kC → (Nat → Int32) → va_E := fun z a => match z.1 with
  | 0 => .inr (6, [.ref (ad (1, 0, 0)), .ref (ad (1, 1, 0)), .ref (ad (1, 2, 0)), .int (a 3), .ref (ad (31, 0, 0)), .int (a 5), .ref (ad (32, 0, 0)), .ref (ad (35, 0, 0))])
  | 1 => .inr (0, [.int (a 0), .ref (ad (2, z.2.1, 0)), .ref (ad (14, z.2.1, 0)), .ref (ad (18, z.2.1, 0)), .ref (ad (30, z.2.1, 0)), .int (a 5), .int (a 6), .int (a 7), .int (a 8), .int (a 9)])
  | 2 => .inr (5, [.int (a 0), .ref (ad (3, z.2.1, 0)), .ref (ad (4, z.2.1, 0)), .ref (ad (5, z.2.1, 0)), .ref (ad (6, z.2.1, 0)), .ref (ad (7, z.2.1, 0)), .ref (ad (8, z.2.1, 0)), .ref (ad (9, z.2.1, 0)), .ref (ad (10, z.2.1, 0)), .ref (ad (11, z.2.1, 0)), .ref (ad (12, z.2.1, 0)), .ref (ad (13, z.2.1, 0))])
  | 3 => .inl (g 0, 30, .inl a)
  | 4 => .inl (g 0, 30, .inl a)
  | 5 => .inl (g 0, 30, .inl a)
  | 6 => .inl (g 0, 30, .inl a)
  | 7 => .inl (g 0, 30, .inl a)
  | 8 => .inl (g 0, 30, .inl a)
  | 9 => .inl (g 0, 30, .inl a)
  | 10 => .inl (g 0, 30, .inl a)
  | 11 => .inl (g 0, 30, .inl a)
  | 12 => .inl (g 0, 30, .inl a)
  | 13 => .inl (g 0, 30, .inl a)
  | 14 => .inr (4, [.int (a 0), .ref (ad (15, z.2.1, 0)), .ref (ad (16, z.2.1, 0)), .ref (ad (17, z.2.1, 0))])
  | 15 => .inl (g 0, 60, .inl a)
  | 16 => .inl (g 0, 60, .inl a)
  | 17 => .inl (g 0, 60, .inl a)
  | 18 => .inr (1, [.int (a 0), .ref (ad (19, z.2.1, 0)), .ref (ad (20, z.2.1, 0)), .ref (ad (21, z.2.1, 0)), .ref (ad (22, z.2.1, 0)), .ref (ad (23, z.2.1, 0)), .ref (ad (24, z.2.1, 0)), .ref (ad (25, z.2.1, 0))])
  | 19 => .inl (g 0, 20, .inl a)
  | 20 => .inl (g 0, 20, .inl a)
  | 21 => .inl (g 0, 20, .inl a)
  | 22 => .inl (g 2, 20, .inr (.inr (.inr (.inr (fun i => some (ad (26, z.2.1, i)))))))
  | 23 => .inl (g 2, 20, .inr (.inr (.inr (.inr (fun i => some (ad (27, z.2.1, i)))))))
  | 24 => .inl (g 2, 20, .inr (.inr (.inr (.inr (fun i => some (ad (28, z.2.1, i)))))))
  | 25 => .inl (g 2, 20, .inr (.inr (.inr (.inr (fun i => some (ad (29, z.2.1, i)))))))
  | 26 => .inl (g 0, 4, .inl a)
  | 27 => .inl (g 0, 4, .inl a)
  | 28 => .inl (g 0, 4, .inl a)
  | 29 => .inl (g 0, 30, .inl a)
  | 30 => .inl (g 0, 5, .inl a)
  | 31 => .inl (g 3, 4, .inr (.inr (.inr (.inr (fun i => some (ad (1, ix (a i), 0)))))))
  | 32 => .inr (2, [.ref (ad (33, 0, 0)), .int (a 1), .int (a 2), .int (a 3), .ref (ad (34, 0, 0)), .int (a 5)])
  | 33 => .inl (g 1, 80, .inl a)
  | 34 => .inl (g 0, 5, .inl a)
  | 35 => .inr (3, [.ref (ad (36, 0, 0)), .ref (ad (37, 0, 0)), .ref (ad (38, 0, 0)), .ref (ad (39, 0, 0)), .ref (ad (40, 0, 0))])
  | 36 => .inl (g 0, 30, .inl a)
  | 37 => .inl (g 0, 30, .inl a)
  | 38 => .inl (g 0, 4, .inl a)
  | 39 => .inl (g 0, 16, .inl a)
  | 40 => .inl (g 0, 30, .inl a)
  | _ => .inl (g 0, 0, .inl a)
def okC (z : kC) : Prop := (z.1 = 0 ∧ z.2.1 = 0 ∧ z.2.2 = 0) ∨ (((1 ≤ z.1 ∧ z.1 ≤ 25) ∨ z.1 = 30) ∧ z.2.1 < 7 ∧ z.2.2 = 0) ∨ ((26 ≤ z.1 ∧ z.1 ≤ 29) ∧ z.2.1 < 7 ∧ z.2.2 < 20) ∨ ((31 ≤ z.1 ∧ z.1 ≤ 40) ∧ z.2.1 = 0 ∧ z.2.2 = 0)
def nestW : List Cond := [.methodLinkNest RX6 36 yX2_init "ChoirRegister", .methodLinkNest RX6 43 yX3_init "ChoirRegister", .methodLinkNest RX6 9 yX0_init "ChoirRegister", .methodLinkNest RX0 133 yX6_isLine "ChoirRegister", .methodLinkNest RX0 136 yX6_isRange "ChoirRegister", .methodLinkNest RX0 17 yX5_init "ChoirRegister", .methodLinkNest RX0 24 yX4_init "ChoirRegister", .methodLinkNest RX0 31 yX1_init "ChoirRegister", .methodLinkNest RX0 71 yX6_isWithin "ChoirRegister", .methodLinkNest RX0 75 yX6_isHeightAndRange "ChoirRegister", .methodLinkNest RX2 77 yX6_isWithin "ChoirRegister", .fieldLinkNest RX2 55 "ChoirRegister" "FIRST_PART" "[I" "ChoirRegister", .fieldLinkNest RX2 67 "ChoirRegister" "LEAST_NUMBER" "[I" "ChoirRegister", .fieldLinkNest RX2 70 "ChoirRegister" "GREATEST_NUMBER" "[I" "ChoirRegister"]

/-- the tables and texts of the class's own constants -/
def T_FP : Nat → Int32 := fun j => [0, 5, 7, 12, 15, 18, 19, 20].getD j 0
def T_LN : Nat → Int32 := fun j => [7, 90, 0, 0, 12, 1, 1, 0, 0, 0, 0, 0, 0, 1, 1, 0, 0, 1, 0, 1].getD j 0
def T_GN : Nat → Int32 := fun j => [70, 210, 48, 48, 17, 9999, 3, 19, 3, 6, 48, 48, 29, 9999, 9999, 29, 4, 90, 29, 99].getD j 0
/-- words of the exceptions' constructors that hold for good, but are no links -/
def faceW : List Cond := (vx_atS RX6 285 "java/lang/IndexOutOfBoundsException" ["java/lang/RuntimeException", "java/lang/Exception"] ++ vx_atS RX6 292 "java/lang/IllegalArgumentException" ["java/lang/RuntimeException", "java/lang/Exception"] ++ vx_atS RX6 297 "java/lang/IllegalStateException" ["java/lang/RuntimeException", "java/lang/Exception"]).filter (fun w => !goodWord w)
/-- a static that no text call reads: null or a reference -/
def VZ (x : Value) (A : Nat → Prop) (U : State) (H : Heap) : Prop := (x = .null ∨ ∃ t : Nat, x = .ref t) ∧ va_Z "jdk/internal/util/Preconditions" "SIOOBE_FORMATTER" "Ljava/util/function/BiFunction;" x A U H
/-- what the class asks of the world around: two statics of Throwable, three texts for exceptions, three tables, two texts that are read -/
def XCC (A : Nat → Prop) (U : State) (H : Heap) : Prop :=
  (vx_Zq Bundle.tN "UNASSIGNED_STACK" Bundle.steD A U H ∧ vx_Zq Bundle.tN "SUPPRESSED_SENTINEL" Bundle.listD A U H ∧ ∀ w ∈ faceW, va_Nw w U) ∧
  ((∃ a, vk_R RX6 283 "there is no such singer, feast, line or choir" a U) ∧ (∃ a, vk_R RX6 290 "an argument is out of range" a U) ∧ (∃ a, vk_R RX6 295 "this is not possible as things stand" a U)) ∧
  ((∃ t, va_Z "ChoirRegister" "FIRST_PART" "[I" (.ref t) A U H ∧ va_T .int t 8 (fun j => .int (T_FP j)) A U H) ∧ (∃ t, va_Z "ChoirRegister" "LEAST_NUMBER" "[I" (.ref t) A U H ∧ va_T .int t 20 (fun j => .int (T_LN j)) A U H) ∧ (∃ t, va_Z "ChoirRegister" "GREATEST_NUMBER" "[I" (.ref t) A U H ∧ va_T .int t 20 (fun j => .int (T_GN j)) A U H)) ∧
  (∃ adK adV : Nat → Nat, vk_S 2 [7, 20] [[106, 102, 108, 110, 111, 120, 116], [106, 104, 114, 45, 98, 102, 42, 108, 46, 61, 114, 45, 110, 58, 45, 111, 62, 43, 120, 116]] adK adV A U H ∧ vk_R RX2 47 "jflnoxt" (adK 0) U ∧ vk_R RX2 58 "jhr-bf*l.=r-n:-o>+xt" (adK 1) U) ∧ va_Z "java/lang/String" "COMPACT_STRINGS" "Z" (.int 1) A U H ∧ ∃ tS : Value, VZ tS A U H
/-- indexOf and charAt of such a text -/
def sIxF (c : Int32) : List Int32 → Nat → Int32
  | [], _ => -1
  | b :: l, k => if b = c then nI k else sIxF c l (k + 1)
def S_OS : List Int32 := [106, 102, 108, 110, 111, 120, 116]
def S_PS : List Int32 := [106, 104, 114, 45, 98, 102, 42, 108, 46, 61, 114, 45, 110, 58, 45, 111, 62, 43, 120, 116]
/-- a layout that is the class's: XCC tells what the world around holds (links among nest mates, tables, texts) -/
def LC (Λ : jL kC) : Prop := jLok Λ ∧ (∀ k, Λ.2.2.1 k ↔ okC k) ∧ Λ.2.2.2.2.1 = ceC Λ.2.1 Λ.2.2.2.1 ∧ ∀ U H, Λ.2.2.2.2.2.2.2 U H → (∀ w ∈ nestW, va_Nw w U) ∧ XCC Λ.2.2.2.2.2.1 U H
section LCs
variable {Λ : jL kC}
theorem okb (hC : LC Λ) {k o : Nat} (h : ((1 ≤ k ∧ k ≤ 25) ∨ k = 30)) (ho : o < 7) : Λ.2.2.1 (k, o, 0) := (hC.2.1 _).mpr (Or.inr (Or.inl ⟨h, ho, rfl⟩))
theorem okr (hC : LC Λ) {k o f : Nat} (h : 26 ≤ k ∧ k ≤ 29) (ho : o < 7) (hf : f < 20) : Λ.2.2.1 (k, o, f) := (hC.2.1 _).mpr (Or.inr (Or.inr (Or.inl ⟨h, ho, hf⟩)))
theorem oks (hC : LC Λ) {k : Nat} (h : 31 ≤ k ∧ k ≤ 40) : Λ.2.2.1 (k, 0, 0) := (hC.2.1 _).mpr (Or.inr (Or.inr (Or.inr ⟨h, rfl, rfl⟩)))
theorem ok0 (hC : LC Λ) : Λ.2.2.1 (0, 0, 0) := (hC.2.1 _).mpr (Or.inl ⟨rfl, rfl, rfl⟩)
theorem ce_0 (hC : LC Λ) {o f : Nat} (a : Nat → Int32) : Λ.2.2.2.2.1 (0, o, f) a = .inr (6, [.ref (Λ.2.2.2.1 (1, 0, 0)), .ref (Λ.2.2.2.1 (1, 1, 0)), .ref (Λ.2.2.2.1 (1, 2, 0)), .int (a 3), .ref (Λ.2.2.2.1 (31, 0, 0)), .int (a 5), .ref (Λ.2.2.2.1 (32, 0, 0)), .ref (Λ.2.2.2.1 (35, 0, 0))]) := by rw [hC.2.2.1]; rfl
theorem ce_1 (hC : LC Λ) {o f : Nat} (a : Nat → Int32) : Λ.2.2.2.2.1 (1, o, f) a = .inr (0, [.int (a 0), .ref (Λ.2.2.2.1 (2, o, 0)), .ref (Λ.2.2.2.1 (14, o, 0)), .ref (Λ.2.2.2.1 (18, o, 0)), .ref (Λ.2.2.2.1 (30, o, 0)), .int (a 5), .int (a 6), .int (a 7), .int (a 8), .int (a 9)]) := by rw [hC.2.2.1]; rfl
theorem ce_2 (hC : LC Λ) {o f : Nat} (a : Nat → Int32) : Λ.2.2.2.2.1 (2, o, f) a = .inr (5, [.int (a 0), .ref (Λ.2.2.2.1 (3, o, 0)), .ref (Λ.2.2.2.1 (4, o, 0)), .ref (Λ.2.2.2.1 (5, o, 0)), .ref (Λ.2.2.2.1 (6, o, 0)), .ref (Λ.2.2.2.1 (7, o, 0)), .ref (Λ.2.2.2.1 (8, o, 0)), .ref (Λ.2.2.2.1 (9, o, 0)), .ref (Λ.2.2.2.1 (10, o, 0)), .ref (Λ.2.2.2.1 (11, o, 0)), .ref (Λ.2.2.2.1 (12, o, 0)), .ref (Λ.2.2.2.1 (13, o, 0))]) := by rw [hC.2.2.1]; rfl
theorem ce_3 (hC : LC Λ) {o f : Nat} (a : Nat → Int32) : Λ.2.2.2.2.1 (3, o, f) a = .inl (Λ.2.1 0, 30, .inl a) := by rw [hC.2.2.1]; rfl
theorem ce_4 (hC : LC Λ) {o f : Nat} (a : Nat → Int32) : Λ.2.2.2.2.1 (4, o, f) a = .inl (Λ.2.1 0, 30, .inl a) := by rw [hC.2.2.1]; rfl
theorem ce_5 (hC : LC Λ) {o f : Nat} (a : Nat → Int32) : Λ.2.2.2.2.1 (5, o, f) a = .inl (Λ.2.1 0, 30, .inl a) := by rw [hC.2.2.1]; rfl
theorem ce_6 (hC : LC Λ) {o f : Nat} (a : Nat → Int32) : Λ.2.2.2.2.1 (6, o, f) a = .inl (Λ.2.1 0, 30, .inl a) := by rw [hC.2.2.1]; rfl
theorem ce_7 (hC : LC Λ) {o f : Nat} (a : Nat → Int32) : Λ.2.2.2.2.1 (7, o, f) a = .inl (Λ.2.1 0, 30, .inl a) := by rw [hC.2.2.1]; rfl
theorem ce_8 (hC : LC Λ) {o f : Nat} (a : Nat → Int32) : Λ.2.2.2.2.1 (8, o, f) a = .inl (Λ.2.1 0, 30, .inl a) := by rw [hC.2.2.1]; rfl
theorem ce_9 (hC : LC Λ) {o f : Nat} (a : Nat → Int32) : Λ.2.2.2.2.1 (9, o, f) a = .inl (Λ.2.1 0, 30, .inl a) := by rw [hC.2.2.1]; rfl
theorem ce_10 (hC : LC Λ) {o f : Nat} (a : Nat → Int32) : Λ.2.2.2.2.1 (10, o, f) a = .inl (Λ.2.1 0, 30, .inl a) := by rw [hC.2.2.1]; rfl
theorem ce_11 (hC : LC Λ) {o f : Nat} (a : Nat → Int32) : Λ.2.2.2.2.1 (11, o, f) a = .inl (Λ.2.1 0, 30, .inl a) := by rw [hC.2.2.1]; rfl
theorem ce_12 (hC : LC Λ) {o f : Nat} (a : Nat → Int32) : Λ.2.2.2.2.1 (12, o, f) a = .inl (Λ.2.1 0, 30, .inl a) := by rw [hC.2.2.1]; rfl
theorem ce_13 (hC : LC Λ) {o f : Nat} (a : Nat → Int32) : Λ.2.2.2.2.1 (13, o, f) a = .inl (Λ.2.1 0, 30, .inl a) := by rw [hC.2.2.1]; rfl
theorem ce_14 (hC : LC Λ) {o f : Nat} (a : Nat → Int32) : Λ.2.2.2.2.1 (14, o, f) a = .inr (4, [.int (a 0), .ref (Λ.2.2.2.1 (15, o, 0)), .ref (Λ.2.2.2.1 (16, o, 0)), .ref (Λ.2.2.2.1 (17, o, 0))]) := by rw [hC.2.2.1]; rfl
theorem ce_15 (hC : LC Λ) {o f : Nat} (a : Nat → Int32) : Λ.2.2.2.2.1 (15, o, f) a = .inl (Λ.2.1 0, 60, .inl a) := by rw [hC.2.2.1]; rfl
theorem ce_16 (hC : LC Λ) {o f : Nat} (a : Nat → Int32) : Λ.2.2.2.2.1 (16, o, f) a = .inl (Λ.2.1 0, 60, .inl a) := by rw [hC.2.2.1]; rfl
theorem ce_17 (hC : LC Λ) {o f : Nat} (a : Nat → Int32) : Λ.2.2.2.2.1 (17, o, f) a = .inl (Λ.2.1 0, 60, .inl a) := by rw [hC.2.2.1]; rfl
theorem ce_18 (hC : LC Λ) {o f : Nat} (a : Nat → Int32) : Λ.2.2.2.2.1 (18, o, f) a = .inr (1, [.int (a 0), .ref (Λ.2.2.2.1 (19, o, 0)), .ref (Λ.2.2.2.1 (20, o, 0)), .ref (Λ.2.2.2.1 (21, o, 0)), .ref (Λ.2.2.2.1 (22, o, 0)), .ref (Λ.2.2.2.1 (23, o, 0)), .ref (Λ.2.2.2.1 (24, o, 0)), .ref (Λ.2.2.2.1 (25, o, 0))]) := by rw [hC.2.2.1]; rfl
theorem ce_19 (hC : LC Λ) {o f : Nat} (a : Nat → Int32) : Λ.2.2.2.2.1 (19, o, f) a = .inl (Λ.2.1 0, 20, .inl a) := by rw [hC.2.2.1]; rfl
theorem ce_20 (hC : LC Λ) {o f : Nat} (a : Nat → Int32) : Λ.2.2.2.2.1 (20, o, f) a = .inl (Λ.2.1 0, 20, .inl a) := by rw [hC.2.2.1]; rfl
theorem ce_21 (hC : LC Λ) {o f : Nat} (a : Nat → Int32) : Λ.2.2.2.2.1 (21, o, f) a = .inl (Λ.2.1 0, 20, .inl a) := by rw [hC.2.2.1]; rfl
theorem ce_22 (hC : LC Λ) {o f : Nat} (a : Nat → Int32) : Λ.2.2.2.2.1 (22, o, f) a = .inl (Λ.2.1 2, 20, .inr (.inr (.inr (.inr (fun i => some (Λ.2.2.2.1 (26, o, i))))))) := by rw [hC.2.2.1]; rfl
theorem ce_23 (hC : LC Λ) {o f : Nat} (a : Nat → Int32) : Λ.2.2.2.2.1 (23, o, f) a = .inl (Λ.2.1 2, 20, .inr (.inr (.inr (.inr (fun i => some (Λ.2.2.2.1 (27, o, i))))))) := by rw [hC.2.2.1]; rfl
theorem ce_24 (hC : LC Λ) {o f : Nat} (a : Nat → Int32) : Λ.2.2.2.2.1 (24, o, f) a = .inl (Λ.2.1 2, 20, .inr (.inr (.inr (.inr (fun i => some (Λ.2.2.2.1 (28, o, i))))))) := by rw [hC.2.2.1]; rfl
theorem ce_25 (hC : LC Λ) {o f : Nat} (a : Nat → Int32) : Λ.2.2.2.2.1 (25, o, f) a = .inl (Λ.2.1 2, 20, .inr (.inr (.inr (.inr (fun i => some (Λ.2.2.2.1 (29, o, i))))))) := by rw [hC.2.2.1]; rfl
theorem ce_26 (hC : LC Λ) {o f : Nat} (a : Nat → Int32) : Λ.2.2.2.2.1 (26, o, f) a = .inl (Λ.2.1 0, 4, .inl a) := by rw [hC.2.2.1]; rfl
theorem ce_27 (hC : LC Λ) {o f : Nat} (a : Nat → Int32) : Λ.2.2.2.2.1 (27, o, f) a = .inl (Λ.2.1 0, 4, .inl a) := by rw [hC.2.2.1]; rfl
theorem ce_28 (hC : LC Λ) {o f : Nat} (a : Nat → Int32) : Λ.2.2.2.2.1 (28, o, f) a = .inl (Λ.2.1 0, 4, .inl a) := by rw [hC.2.2.1]; rfl
theorem ce_29 (hC : LC Λ) {o f : Nat} (a : Nat → Int32) : Λ.2.2.2.2.1 (29, o, f) a = .inl (Λ.2.1 0, 30, .inl a) := by rw [hC.2.2.1]; rfl
theorem ce_30 (hC : LC Λ) {o f : Nat} (a : Nat → Int32) : Λ.2.2.2.2.1 (30, o, f) a = .inl (Λ.2.1 0, 5, .inl a) := by rw [hC.2.2.1]; rfl
theorem ce_31 (hC : LC Λ) {o f : Nat} (a : Nat → Int32) : Λ.2.2.2.2.1 (31, o, f) a = .inl (Λ.2.1 3, 4, .inr (.inr (.inr (.inr (fun i => some (Λ.2.2.2.1 (1, ix (a i), 0))))))) := by rw [hC.2.2.1]; rfl
theorem ce_32 (hC : LC Λ) {o f : Nat} (a : Nat → Int32) : Λ.2.2.2.2.1 (32, o, f) a = .inr (2, [.ref (Λ.2.2.2.1 (33, 0, 0)), .int (a 1), .int (a 2), .int (a 3), .ref (Λ.2.2.2.1 (34, 0, 0)), .int (a 5)]) := by rw [hC.2.2.1]; rfl
theorem ce_33 (hC : LC Λ) {o f : Nat} (a : Nat → Int32) : Λ.2.2.2.2.1 (33, o, f) a = .inl (Λ.2.1 1, 80, .inl a) := by rw [hC.2.2.1]; rfl
theorem ce_34 (hC : LC Λ) {o f : Nat} (a : Nat → Int32) : Λ.2.2.2.2.1 (34, o, f) a = .inl (Λ.2.1 0, 5, .inl a) := by rw [hC.2.2.1]; rfl
theorem ce_35 (hC : LC Λ) {o f : Nat} (a : Nat → Int32) : Λ.2.2.2.2.1 (35, o, f) a = .inr (3, [.ref (Λ.2.2.2.1 (36, 0, 0)), .ref (Λ.2.2.2.1 (37, 0, 0)), .ref (Λ.2.2.2.1 (38, 0, 0)), .ref (Λ.2.2.2.1 (39, 0, 0)), .ref (Λ.2.2.2.1 (40, 0, 0))]) := by rw [hC.2.2.1]; rfl
theorem ce_36 (hC : LC Λ) {o f : Nat} (a : Nat → Int32) : Λ.2.2.2.2.1 (36, o, f) a = .inl (Λ.2.1 0, 30, .inl a) := by rw [hC.2.2.1]; rfl
theorem ce_37 (hC : LC Λ) {o f : Nat} (a : Nat → Int32) : Λ.2.2.2.2.1 (37, o, f) a = .inl (Λ.2.1 0, 30, .inl a) := by rw [hC.2.2.1]; rfl
theorem ce_38 (hC : LC Λ) {o f : Nat} (a : Nat → Int32) : Λ.2.2.2.2.1 (38, o, f) a = .inl (Λ.2.1 0, 4, .inl a) := by rw [hC.2.2.1]; rfl
theorem ce_39 (hC : LC Λ) {o f : Nat} (a : Nat → Int32) : Λ.2.2.2.2.1 (39, o, f) a = .inl (Λ.2.1 0, 16, .inl a) := by rw [hC.2.2.1]; rfl
theorem ce_40 (hC : LC Λ) {o f : Nat} (a : Nat → Int32) : Λ.2.2.2.2.1 (40, o, f) a = .inl (Λ.2.1 0, 30, .inl a) := by rw [hC.2.2.1]; rfl
end LCs
section LCr
variable {ρ : Type} {Γ : jG ρ} {Λ : jL kC} {cs : Nat × Nat} {pc : Nat} {ls : List (Nat × Value)} {st : List Value} {v : mC} {ex : Option ρ} {cc : ByteArray} {own : String} {Ts : List Cond} {rm : Room}
theorem gC0_0 (hG : jOk Γ Λ cc own Ts rm) (hC : LC Λ) {n : Nat} (pc2 : Nat) (hp : pc + 3 = pc2) (hin : ∀ w ∈ wsX60, w ∈ Ts) (hw : Cond.fieldLink own n "ChoirRegister" "book" "LChoirRegister$Book;" ∈ Ts) (d : decode cc pc = .ok (.getfield n, 3)) (k : Sm Γ Λ cs pc2 ls (.ref (Λ.2.2.2.1 (1, 0, 0)) :: st) v ex) : Sm Γ Λ cs pc ls (.ref (Λ.2.2.2.1 (0, 0, 0)) :: st) v ex :=
  sm_get (j := 0) hG (0, 0, 0) pc2 hp (ok0 hC) (ce_0 hC _) (ci := 6) rfl hin (by decide) rfl hw rfl d k
theorem gC0_1 (hG : jOk Γ Λ cc own Ts rm) (hC : LC Λ) {n : Nat} (pc2 : Nat) (hp : pc + 3 = pc2) (hin : ∀ w ∈ wsX60, w ∈ Ts) (hw : Cond.fieldLink own n "ChoirRegister" "trial" "LChoirRegister$Book;" ∈ Ts) (d : decode cc pc = .ok (.getfield n, 3)) (k : Sm Γ Λ cs pc2 ls (.ref (Λ.2.2.2.1 (1, 1, 0)) :: st) v ex) : Sm Γ Λ cs pc ls (.ref (Λ.2.2.2.1 (0, 0, 0)) :: st) v ex :=
  sm_get (j := 1) hG (0, 0, 0) pc2 hp (ok0 hC) (ce_0 hC _) (ci := 6) rfl hin (by decide) rfl hw rfl d k
theorem gC0_2 (hG : jOk Γ Λ cc own Ts rm) (hC : LC Λ) {n : Nat} (pc2 : Nat) (hp : pc + 3 = pc2) (hin : ∀ w ∈ wsX60, w ∈ Ts) (hw : Cond.fieldLink own n "ChoirRegister" "snapshot" "LChoirRegister$Book;" ∈ Ts) (d : decode cc pc = .ok (.getfield n, 3)) (k : Sm Γ Λ cs pc2 ls (.ref (Λ.2.2.2.1 (1, 2, 0)) :: st) v ex) : Sm Γ Λ cs pc ls (.ref (Λ.2.2.2.1 (0, 0, 0)) :: st) v ex :=
  sm_get (j := 2) hG (0, 0, 0) pc2 hp (ok0 hC) (ce_0 hC _) (ci := 6) rfl hin (by decide) rfl hw rfl d k
theorem gC0_3 (hG : jOk Γ Λ cc own Ts rm) (hC : LC Λ) {n : Nat} (pc2 : Nat) (hp : pc + 3 = pc2) (hin : ∀ w ∈ wsX60, w ∈ Ts) (hw : Cond.fieldLink own n "ChoirRegister" "hasSnapshot" "Z" ∈ Ts) (d : decode cc pc = .ok (.getfield n, 3)) (k : Sm Γ Λ cs pc2 ls (.int (v (0, 0, 0) 3) :: st) v ex) : Sm Γ Λ cs pc ls (.ref (Λ.2.2.2.1 (0, 0, 0)) :: st) v ex :=
  sm_get (j := 3) hG (0, 0, 0) pc2 hp (ok0 hC) (ce_0 hC _) (ci := 6) rfl hin (by decide) rfl hw rfl d k
theorem pC0_3 (hG : jOk Γ Λ cc own Ts rm) (hC : LC Λ) {n : Nat} {x : Int32} (pc2 : Nat) (hp : pc + 3 = pc2) (hin : ∀ w ∈ wsX60, w ∈ Ts) (hw : Cond.fieldLink own n "ChoirRegister" "hasSnapshot" "Z" ∈ Ts) (hn : narrow .boolean (.int x) = .int x) (hfit : fits .boolean (.int x) = true) (d : decode cc pc = .ok (.putfield n, 3)) (k : Sm Γ Λ cs pc2 ls st (up v (0, 0, 0) 3 x) ex) : Sm Γ Λ cs pc ls (.int x :: .ref (Λ.2.2.2.1 (0, 0, 0)) :: st) v ex :=
  sm_put (j := 3) hG (0, 0, 0) pc2 hp (ok0 hC) (ce_0 hC _) (ci := 6) rfl hin tyX6_ok nmX6 (by decide) rfl rfl hw hn hfit (Nat.le_of_ble_eq_true rfl) d _ (fun k _ h => by rw [up_ne v 3 x h]) (by rw [up_at, ce_0 hC]; rfl) k
theorem gC0_4 (hG : jOk Γ Λ cc own Ts rm) (hC : LC Λ) {n : Nat} (pc2 : Nat) (hp : pc + 3 = pc2) (hin : ∀ w ∈ wsX60, w ∈ Ts) (hw : Cond.fieldLink own n "ChoirRegister" "recorded" "[LChoirRegister$Book;" ∈ Ts) (d : decode cc pc = .ok (.getfield n, 3)) (k : Sm Γ Λ cs pc2 ls (.ref (Λ.2.2.2.1 (31, 0, 0)) :: st) v ex) : Sm Γ Λ cs pc ls (.ref (Λ.2.2.2.1 (0, 0, 0)) :: st) v ex :=
  sm_get (j := 4) hG (0, 0, 0) pc2 hp (ok0 hC) (ce_0 hC _) (ci := 6) rfl hin (by decide) rfl hw rfl d k
theorem gC0_5 (hG : jOk Γ Λ cc own Ts rm) (hC : LC Λ) {n : Nat} (pc2 : Nat) (hp : pc + 3 = pc2) (hin : ∀ w ∈ wsX60, w ∈ Ts) (hw : Cond.fieldLink own n "ChoirRegister" "recordedCount" "I" ∈ Ts) (d : decode cc pc = .ok (.getfield n, 3)) (k : Sm Γ Λ cs pc2 ls (.int (v (0, 0, 0) 5) :: st) v ex) : Sm Γ Λ cs pc ls (.ref (Λ.2.2.2.1 (0, 0, 0)) :: st) v ex :=
  sm_get (j := 5) hG (0, 0, 0) pc2 hp (ok0 hC) (ce_0 hC _) (ci := 6) rfl hin (by decide) rfl hw rfl d k
theorem pC0_5 (hG : jOk Γ Λ cc own Ts rm) (hC : LC Λ) {n : Nat} {x : Int32} (pc2 : Nat) (hp : pc + 3 = pc2) (hin : ∀ w ∈ wsX60, w ∈ Ts) (hw : Cond.fieldLink own n "ChoirRegister" "recordedCount" "I" ∈ Ts) (d : decode cc pc = .ok (.putfield n, 3)) (k : Sm Γ Λ cs pc2 ls st (up v (0, 0, 0) 5 x) ex) : Sm Γ Λ cs pc ls (.int x :: .ref (Λ.2.2.2.1 (0, 0, 0)) :: st) v ex :=
  sm_put (j := 5) hG (0, 0, 0) pc2 hp (ok0 hC) (ce_0 hC _) (ci := 6) rfl hin tyX6_ok nmX6 (by decide) rfl rfl hw rfl rfl (Nat.le_of_ble_eq_true rfl) d _ (fun k _ h => by rw [up_ne v 5 x h]) (by rw [up_at, ce_0 hC]; rfl) k
theorem gC0_6 (hG : jOk Γ Λ cc own Ts rm) (hC : LC Λ) {n : Nat} (pc2 : Nat) (hp : pc + 3 = pc2) (hin : ∀ w ∈ wsX60, w ∈ Ts) (hw : Cond.fieldLink own n "ChoirRegister" "letter" "LChoirRegister$Letter;" ∈ Ts) (d : decode cc pc = .ok (.getfield n, 3)) (k : Sm Γ Λ cs pc2 ls (.ref (Λ.2.2.2.1 (32, 0, 0)) :: st) v ex) : Sm Γ Λ cs pc ls (.ref (Λ.2.2.2.1 (0, 0, 0)) :: st) v ex :=
  sm_get (j := 6) hG (0, 0, 0) pc2 hp (ok0 hC) (ce_0 hC _) (ci := 6) rfl hin (by decide) rfl hw rfl d k
theorem gC0_7 (hG : jOk Γ Λ cc own Ts rm) (hC : LC Λ) {n : Nat} (pc2 : Nat) (hp : pc + 3 = pc2) (hin : ∀ w ∈ wsX60, w ∈ Ts) (hw : Cond.fieldLink own n "ChoirRegister" "lineup" "LChoirRegister$Lineup;" ∈ Ts) (d : decode cc pc = .ok (.getfield n, 3)) (k : Sm Γ Λ cs pc2 ls (.ref (Λ.2.2.2.1 (35, 0, 0)) :: st) v ex) : Sm Γ Λ cs pc ls (.ref (Λ.2.2.2.1 (0, 0, 0)) :: st) v ex :=
  sm_get (j := 7) hG (0, 0, 0) pc2 hp (ok0 hC) (ce_0 hC _) (ci := 6) rfl hin (by decide) rfl hw rfl d k
theorem gC1_0 (hG : jOk Γ Λ cc own Ts rm) (hC : LC Λ) {o : Nat} (ho : o < 7) {n : Nat} (pc2 : Nat) (hp : pc + 3 = pc2) (hin : ∀ w ∈ wsX00, w ∈ Ts) (hw : Cond.fieldLink own n "ChoirRegister$Book" "day" "I" ∈ Ts) (d : decode cc pc = .ok (.getfield n, 3)) (k : Sm Γ Λ cs pc2 ls (.int (v (1, o, 0) 0) :: st) v ex) : Sm Γ Λ cs pc ls (.ref (Λ.2.2.2.1 (1, o, 0)) :: st) v ex :=
  sm_get (j := 0) hG (1, o, 0) pc2 hp (okb hC (by decide) ho) (ce_1 hC _) (ci := 0) rfl hin (by decide) rfl hw rfl d k
theorem pC1_0 (hG : jOk Γ Λ cc own Ts rm) (hC : LC Λ) {o : Nat} (ho : o < 7) {n : Nat} {x : Int32} (pc2 : Nat) (hp : pc + 3 = pc2) (hin : ∀ w ∈ wsX00, w ∈ Ts) (hw : Cond.fieldLink own n "ChoirRegister$Book" "day" "I" ∈ Ts) (d : decode cc pc = .ok (.putfield n, 3)) (k : Sm Γ Λ cs pc2 ls st (up v (1, o, 0) 0 x) ex) : Sm Γ Λ cs pc ls (.int x :: .ref (Λ.2.2.2.1 (1, o, 0)) :: st) v ex :=
  sm_put (j := 0) hG (1, o, 0) pc2 hp (okb hC (by decide) ho) (ce_1 hC _) (ci := 0) rfl hin tyX0_ok nmX0 (by decide) rfl rfl hw rfl rfl (Nat.le_of_ble_eq_true rfl) d _ (fun k _ h => by rw [up_ne v 0 x h]) (by rw [up_at, ce_1 hC]; rfl) k
theorem gC1_1 (hG : jOk Γ Λ cc own Ts rm) (hC : LC Λ) {o : Nat} (ho : o < 7) {n : Nat} (pc2 : Nat) (hp : pc + 3 = pc2) (hin : ∀ w ∈ wsX00, w ∈ Ts) (hw : Cond.fieldLink own n "ChoirRegister$Book" "roster" "LChoirRegister$Roster;" ∈ Ts) (d : decode cc pc = .ok (.getfield n, 3)) (k : Sm Γ Λ cs pc2 ls (.ref (Λ.2.2.2.1 (2, o, 0)) :: st) v ex) : Sm Γ Λ cs pc ls (.ref (Λ.2.2.2.1 (1, o, 0)) :: st) v ex :=
  sm_get (j := 1) hG (1, o, 0) pc2 hp (okb hC (by decide) ho) (ce_1 hC _) (ci := 0) rfl hin (by decide) rfl hw rfl d k
theorem gC1_2 (hG : jOk Γ Λ cc own Ts rm) (hC : LC Λ) {o : Nat} (ho : o < 7) {n : Nat} (pc2 : Nat) (hp : pc + 3 = pc2) (hin : ∀ w ∈ wsX00, w ∈ Ts) (hw : Cond.fieldLink own n "ChoirRegister$Book" "notes" "LChoirRegister$Notes;" ∈ Ts) (d : decode cc pc = .ok (.getfield n, 3)) (k : Sm Γ Λ cs pc2 ls (.ref (Λ.2.2.2.1 (14, o, 0)) :: st) v ex) : Sm Γ Λ cs pc ls (.ref (Λ.2.2.2.1 (1, o, 0)) :: st) v ex :=
  sm_get (j := 2) hG (1, o, 0) pc2 hp (okb hC (by decide) ho) (ce_1 hC _) (ci := 0) rfl hin (by decide) rfl hw rfl d k
theorem gC1_3 (hG : jOk Γ Λ cc own Ts rm) (hC : LC Λ) {o : Nat} (ho : o < 7) {n : Nat} (pc2 : Nat) (hp : pc + 3 = pc2) (hin : ∀ w ∈ wsX00, w ∈ Ts) (hw : Cond.fieldLink own n "ChoirRegister$Book" "calendar" "LChoirRegister$Calendar;" ∈ Ts) (d : decode cc pc = .ok (.getfield n, 3)) (k : Sm Γ Λ cs pc2 ls (.ref (Λ.2.2.2.1 (18, o, 0)) :: st) v ex) : Sm Γ Λ cs pc ls (.ref (Λ.2.2.2.1 (1, o, 0)) :: st) v ex :=
  sm_get (j := 3) hG (1, o, 0) pc2 hp (okb hC (by decide) ho) (ce_1 hC _) (ci := 0) rfl hin (by decide) rfl hw rfl d k
theorem gC1_4 (hG : jOk Γ Λ cc own Ts rm) (hC : LC Λ) {o : Nat} (ho : o < 7) {n : Nat} (pc2 : Nat) (hp : pc + 3 = pc2) (hin : ∀ w ∈ wsX00, w ∈ Ts) (hw : Cond.fieldLink own n "ChoirRegister$Book" "favours" "[I" ∈ Ts) (d : decode cc pc = .ok (.getfield n, 3)) (k : Sm Γ Λ cs pc2 ls (.ref (Λ.2.2.2.1 (30, o, 0)) :: st) v ex) : Sm Γ Λ cs pc ls (.ref (Λ.2.2.2.1 (1, o, 0)) :: st) v ex :=
  sm_get (j := 4) hG (1, o, 0) pc2 hp (okb hC (by decide) ho) (ce_1 hC _) (ci := 0) rfl hin (by decide) rfl hw rfl d k
theorem gC1_5 (hG : jOk Γ Λ cc own Ts rm) (hC : LC Λ) {o : Nat} (ho : o < 7) {n : Nat} (pc2 : Nat) (hp : pc + 3 = pc2) (hin : ∀ w ∈ wsX00, w ∈ Ts) (hw : Cond.fieldLink own n "ChoirRegister$Book" "purse" "I" ∈ Ts) (d : decode cc pc = .ok (.getfield n, 3)) (k : Sm Γ Λ cs pc2 ls (.int (v (1, o, 0) 5) :: st) v ex) : Sm Γ Λ cs pc ls (.ref (Λ.2.2.2.1 (1, o, 0)) :: st) v ex :=
  sm_get (j := 5) hG (1, o, 0) pc2 hp (okb hC (by decide) ho) (ce_1 hC _) (ci := 0) rfl hin (by decide) rfl hw rfl d k
theorem pC1_5 (hG : jOk Γ Λ cc own Ts rm) (hC : LC Λ) {o : Nat} (ho : o < 7) {n : Nat} {x : Int32} (pc2 : Nat) (hp : pc + 3 = pc2) (hin : ∀ w ∈ wsX00, w ∈ Ts) (hw : Cond.fieldLink own n "ChoirRegister$Book" "purse" "I" ∈ Ts) (d : decode cc pc = .ok (.putfield n, 3)) (k : Sm Γ Λ cs pc2 ls st (up v (1, o, 0) 5 x) ex) : Sm Γ Λ cs pc ls (.int x :: .ref (Λ.2.2.2.1 (1, o, 0)) :: st) v ex :=
  sm_put (j := 5) hG (1, o, 0) pc2 hp (okb hC (by decide) ho) (ce_1 hC _) (ci := 0) rfl hin tyX0_ok nmX0 (by decide) rfl rfl hw rfl rfl (Nat.le_of_ble_eq_true rfl) d _ (fun k _ h => by rw [up_ne v 5 x h]) (by rw [up_at, ce_1 hC]; rfl) k
theorem gC1_6 (hG : jOk Γ Λ cc own Ts rm) (hC : LC Λ) {o : Nat} (ho : o < 7) {n : Nat} (pc2 : Nat) (hp : pc + 3 = pc2) (hin : ∀ w ∈ wsX00, w ∈ Ts) (hw : Cond.fieldLink own n "ChoirRegister$Book" "paidForLending" "I" ∈ Ts) (d : decode cc pc = .ok (.getfield n, 3)) (k : Sm Γ Λ cs pc2 ls (.int (v (1, o, 0) 6) :: st) v ex) : Sm Γ Λ cs pc ls (.ref (Λ.2.2.2.1 (1, o, 0)) :: st) v ex :=
  sm_get (j := 6) hG (1, o, 0) pc2 hp (okb hC (by decide) ho) (ce_1 hC _) (ci := 0) rfl hin (by decide) rfl hw rfl d k
theorem pC1_6 (hG : jOk Γ Λ cc own Ts rm) (hC : LC Λ) {o : Nat} (ho : o < 7) {n : Nat} {x : Int32} (pc2 : Nat) (hp : pc + 3 = pc2) (hin : ∀ w ∈ wsX00, w ∈ Ts) (hw : Cond.fieldLink own n "ChoirRegister$Book" "paidForLending" "I" ∈ Ts) (d : decode cc pc = .ok (.putfield n, 3)) (k : Sm Γ Λ cs pc2 ls st (up v (1, o, 0) 6 x) ex) : Sm Γ Λ cs pc ls (.int x :: .ref (Λ.2.2.2.1 (1, o, 0)) :: st) v ex :=
  sm_put (j := 6) hG (1, o, 0) pc2 hp (okb hC (by decide) ho) (ce_1 hC _) (ci := 0) rfl hin tyX0_ok nmX0 (by decide) rfl rfl hw rfl rfl (Nat.le_of_ble_eq_true rfl) d _ (fun k _ h => by rw [up_ne v 6 x h]) (by rw [up_at, ce_1 hC]; rfl) k
theorem gC1_7 (hG : jOk Γ Λ cc own Ts rm) (hC : LC Λ) {o : Nat} (ho : o < 7) {n : Nat} (pc2 : Nat) (hp : pc + 3 = pc2) (hin : ∀ w ∈ wsX00, w ∈ Ts) (hw : Cond.fieldLink own n "ChoirRegister$Book" "collected" "I" ∈ Ts) (d : decode cc pc = .ok (.getfield n, 3)) (k : Sm Γ Λ cs pc2 ls (.int (v (1, o, 0) 7) :: st) v ex) : Sm Γ Λ cs pc ls (.ref (Λ.2.2.2.1 (1, o, 0)) :: st) v ex :=
  sm_get (j := 7) hG (1, o, 0) pc2 hp (okb hC (by decide) ho) (ce_1 hC _) (ci := 0) rfl hin (by decide) rfl hw rfl d k
theorem pC1_7 (hG : jOk Γ Λ cc own Ts rm) (hC : LC Λ) {o : Nat} (ho : o < 7) {n : Nat} {x : Int32} (pc2 : Nat) (hp : pc + 3 = pc2) (hin : ∀ w ∈ wsX00, w ∈ Ts) (hw : Cond.fieldLink own n "ChoirRegister$Book" "collected" "I" ∈ Ts) (d : decode cc pc = .ok (.putfield n, 3)) (k : Sm Γ Λ cs pc2 ls st (up v (1, o, 0) 7 x) ex) : Sm Γ Λ cs pc ls (.int x :: .ref (Λ.2.2.2.1 (1, o, 0)) :: st) v ex :=
  sm_put (j := 7) hG (1, o, 0) pc2 hp (okb hC (by decide) ho) (ce_1 hC _) (ci := 0) rfl hin tyX0_ok nmX0 (by decide) rfl rfl hw rfl rfl (Nat.le_of_ble_eq_true rfl) d _ (fun k _ h => by rw [up_ne v 7 x h]) (by rw [up_at, ce_1 hC]; rfl) k
theorem gC1_8 (hG : jOk Γ Λ cc own Ts rm) (hC : LC Λ) {o : Nat} (ho : o < 7) {n : Nat} (pc2 : Nat) (hp : pc + 3 = pc2) (hin : ∀ w ∈ wsX00, w ∈ Ts) (hw : Cond.fieldLink own n "ChoirRegister$Book" "feesPaid" "I" ∈ Ts) (d : decode cc pc = .ok (.getfield n, 3)) (k : Sm Γ Λ cs pc2 ls (.int (v (1, o, 0) 8) :: st) v ex) : Sm Γ Λ cs pc ls (.ref (Λ.2.2.2.1 (1, o, 0)) :: st) v ex :=
  sm_get (j := 8) hG (1, o, 0) pc2 hp (okb hC (by decide) ho) (ce_1 hC _) (ci := 0) rfl hin (by decide) rfl hw rfl d k
theorem pC1_8 (hG : jOk Γ Λ cc own Ts rm) (hC : LC Λ) {o : Nat} (ho : o < 7) {n : Nat} {x : Int32} (pc2 : Nat) (hp : pc + 3 = pc2) (hin : ∀ w ∈ wsX00, w ∈ Ts) (hw : Cond.fieldLink own n "ChoirRegister$Book" "feesPaid" "I" ∈ Ts) (d : decode cc pc = .ok (.putfield n, 3)) (k : Sm Γ Λ cs pc2 ls st (up v (1, o, 0) 8 x) ex) : Sm Γ Λ cs pc ls (.int x :: .ref (Λ.2.2.2.1 (1, o, 0)) :: st) v ex :=
  sm_put (j := 8) hG (1, o, 0) pc2 hp (okb hC (by decide) ho) (ce_1 hC _) (ci := 0) rfl hin tyX0_ok nmX0 (by decide) rfl rfl hw rfl rfl (Nat.le_of_ble_eq_true rfl) d _ (fun k _ h => by rw [up_ne v 8 x h]) (by rw [up_at, ce_1 hC]; rfl) k
theorem gC1_9 (hG : jOk Γ Λ cc own Ts rm) (hC : LC Λ) {o : Nat} (ho : o < 7) {n : Nat} (pc2 : Nat) (hp : pc + 3 = pc2) (hin : ∀ w ∈ wsX00, w ∈ Ts) (hw : Cond.fieldLink own n "ChoirRegister$Book" "finesPaid" "I" ∈ Ts) (d : decode cc pc = .ok (.getfield n, 3)) (k : Sm Γ Λ cs pc2 ls (.int (v (1, o, 0) 9) :: st) v ex) : Sm Γ Λ cs pc ls (.ref (Λ.2.2.2.1 (1, o, 0)) :: st) v ex :=
  sm_get (j := 9) hG (1, o, 0) pc2 hp (okb hC (by decide) ho) (ce_1 hC _) (ci := 0) rfl hin (by decide) rfl hw rfl d k
theorem pC1_9 (hG : jOk Γ Λ cc own Ts rm) (hC : LC Λ) {o : Nat} (ho : o < 7) {n : Nat} {x : Int32} (pc2 : Nat) (hp : pc + 3 = pc2) (hin : ∀ w ∈ wsX00, w ∈ Ts) (hw : Cond.fieldLink own n "ChoirRegister$Book" "finesPaid" "I" ∈ Ts) (d : decode cc pc = .ok (.putfield n, 3)) (k : Sm Γ Λ cs pc2 ls st (up v (1, o, 0) 9 x) ex) : Sm Γ Λ cs pc ls (.int x :: .ref (Λ.2.2.2.1 (1, o, 0)) :: st) v ex :=
  sm_put (j := 9) hG (1, o, 0) pc2 hp (okb hC (by decide) ho) (ce_1 hC _) (ci := 0) rfl hin tyX0_ok nmX0 (by decide) rfl rfl hw rfl rfl (Nat.le_of_ble_eq_true rfl) d _ (fun k _ h => by rw [up_ne v 9 x h]) (by rw [up_at, ce_1 hC]; rfl) k
theorem gC2_0 (hG : jOk Γ Λ cc own Ts rm) (hC : LC Λ) {o : Nat} (ho : o < 7) {n : Nat} (pc2 : Nat) (hp : pc + 3 = pc2) (hin : ∀ w ∈ wsX50, w ∈ Ts) (hw : Cond.fieldLink own n "ChoirRegister$Roster" "count" "I" ∈ Ts) (d : decode cc pc = .ok (.getfield n, 3)) (k : Sm Γ Λ cs pc2 ls (.int (v (2, o, 0) 0) :: st) v ex) : Sm Γ Λ cs pc ls (.ref (Λ.2.2.2.1 (2, o, 0)) :: st) v ex :=
  sm_get (j := 0) hG (2, o, 0) pc2 hp (okb hC (by decide) ho) (ce_2 hC _) (ci := 5) rfl hin (by decide) rfl hw rfl d k
theorem pC2_0 (hG : jOk Γ Λ cc own Ts rm) (hC : LC Λ) {o : Nat} (ho : o < 7) {n : Nat} {x : Int32} (pc2 : Nat) (hp : pc + 3 = pc2) (hin : ∀ w ∈ wsX50, w ∈ Ts) (hw : Cond.fieldLink own n "ChoirRegister$Roster" "count" "I" ∈ Ts) (d : decode cc pc = .ok (.putfield n, 3)) (k : Sm Γ Λ cs pc2 ls st (up v (2, o, 0) 0 x) ex) : Sm Γ Λ cs pc ls (.int x :: .ref (Λ.2.2.2.1 (2, o, 0)) :: st) v ex :=
  sm_put (j := 0) hG (2, o, 0) pc2 hp (okb hC (by decide) ho) (ce_2 hC _) (ci := 5) rfl hin tyX5_ok nmX5 (by decide) rfl rfl hw rfl rfl (Nat.le_of_ble_eq_true rfl) d _ (fun k _ h => by rw [up_ne v 0 x h]) (by rw [up_at, ce_2 hC]; rfl) k
theorem gC2_1 (hG : jOk Γ Λ cc own Ts rm) (hC : LC Λ) {o : Nat} (ho : o < 7) {n : Nat} (pc2 : Nat) (hp : pc + 3 = pc2) (hin : ∀ w ∈ wsX50, w ∈ Ts) (hw : Cond.fieldLink own n "ChoirRegister$Roster" "height" "[I" ∈ Ts) (d : decode cc pc = .ok (.getfield n, 3)) (k : Sm Γ Λ cs pc2 ls (.ref (Λ.2.2.2.1 (3, o, 0)) :: st) v ex) : Sm Γ Λ cs pc ls (.ref (Λ.2.2.2.1 (2, o, 0)) :: st) v ex :=
  sm_get (j := 1) hG (2, o, 0) pc2 hp (okb hC (by decide) ho) (ce_2 hC _) (ci := 5) rfl hin (by decide) rfl hw rfl d k
theorem gC2_2 (hG : jOk Γ Λ cc own Ts rm) (hC : LC Λ) {o : Nat} (ho : o < 7) {n : Nat} (pc2 : Nat) (hp : pc + 3 = pc2) (hin : ∀ w ∈ wsX50, w ∈ Ts) (hw : Cond.fieldLink own n "ChoirRegister$Roster" "lowest" "[I" ∈ Ts) (d : decode cc pc = .ok (.getfield n, 3)) (k : Sm Γ Λ cs pc2 ls (.ref (Λ.2.2.2.1 (4, o, 0)) :: st) v ex) : Sm Γ Λ cs pc ls (.ref (Λ.2.2.2.1 (2, o, 0)) :: st) v ex :=
  sm_get (j := 2) hG (2, o, 0) pc2 hp (okb hC (by decide) ho) (ce_2 hC _) (ci := 5) rfl hin (by decide) rfl hw rfl d k
theorem gC2_3 (hG : jOk Γ Λ cc own Ts rm) (hC : LC Λ) {o : Nat} (ho : o < 7) {n : Nat} (pc2 : Nat) (hp : pc + 3 = pc2) (hin : ∀ w ∈ wsX50, w ∈ Ts) (hw : Cond.fieldLink own n "ChoirRegister$Roster" "highest" "[I" ∈ Ts) (d : decode cc pc = .ok (.getfield n, 3)) (k : Sm Γ Λ cs pc2 ls (.ref (Λ.2.2.2.1 (5, o, 0)) :: st) v ex) : Sm Γ Λ cs pc ls (.ref (Λ.2.2.2.1 (2, o, 0)) :: st) v ex :=
  sm_get (j := 3) hG (2, o, 0) pc2 hp (okb hC (by decide) ho) (ce_2 hC _) (ci := 5) rfl hin (by decide) rfl hw rfl d k
theorem gC2_4 (hG : jOk Γ Λ cc own Ts rm) (hC : LC Λ) {o : Nat} (ho : o < 7) {n : Nat} (pc2 : Nat) (hp : pc + 3 = pc2) (hin : ∀ w ∈ wsX50, w ∈ Ts) (hw : Cond.fieldLink own n "ChoirRegister$Roster" "birthDay" "[I" ∈ Ts) (d : decode cc pc = .ok (.getfield n, 3)) (k : Sm Γ Λ cs pc2 ls (.ref (Λ.2.2.2.1 (6, o, 0)) :: st) v ex) : Sm Γ Λ cs pc ls (.ref (Λ.2.2.2.1 (2, o, 0)) :: st) v ex :=
  sm_get (j := 4) hG (2, o, 0) pc2 hp (okb hC (by decide) ho) (ce_2 hC _) (ci := 5) rfl hin (by decide) rfl hw rfl d k
theorem gC2_5 (hG : jOk Γ Λ cc own Ts rm) (hC : LC Λ) {o : Nat} (ho : o < 7) {n : Nat} (pc2 : Nat) (hp : pc + 3 = pc2) (hin : ∀ w ∈ wsX50, w ∈ Ts) (hw : Cond.fieldLink own n "ChoirRegister$Roster" "breakDay" "[I" ∈ Ts) (d : decode cc pc = .ok (.getfield n, 3)) (k : Sm Γ Λ cs pc2 ls (.ref (Λ.2.2.2.1 (7, o, 0)) :: st) v ex) : Sm Γ Λ cs pc ls (.ref (Λ.2.2.2.1 (2, o, 0)) :: st) v ex :=
  sm_get (j := 5) hG (2, o, 0) pc2 hp (okb hC (by decide) ho) (ce_2 hC _) (ci := 5) rfl hin (by decide) rfl hw rfl d k
theorem gC2_6 (hG : jOk Γ Λ cc own Ts rm) (hC : LC Λ) {o : Nat} (ho : o < 7) {n : Nat} (pc2 : Nat) (hp : pc + 3 = pc2) (hin : ∀ w ∈ wsX50, w ∈ Ts) (hw : Cond.fieldLink own n "ChoirRegister$Roster" "choir" "[I" ∈ Ts) (d : decode cc pc = .ok (.getfield n, 3)) (k : Sm Γ Λ cs pc2 ls (.ref (Λ.2.2.2.1 (8, o, 0)) :: st) v ex) : Sm Γ Λ cs pc ls (.ref (Λ.2.2.2.1 (2, o, 0)) :: st) v ex :=
  sm_get (j := 6) hG (2, o, 0) pc2 hp (okb hC (by decide) ho) (ce_2 hC _) (ci := 5) rfl hin (by decide) rfl hw rfl d k
theorem gC2_7 (hG : jOk Γ Λ cc own Ts rm) (hC : LC Λ) {o : Nat} (ho : o < 7) {n : Nat} (pc2 : Nat) (hp : pc + 3 = pc2) (hin : ∀ w ∈ wsX50, w ∈ Ts) (hw : Cond.fieldLink own n "ChoirRegister$Roster" "fee" "[I" ∈ Ts) (d : decode cc pc = .ok (.getfield n, 3)) (k : Sm Γ Λ cs pc2 ls (.ref (Λ.2.2.2.1 (9, o, 0)) :: st) v ex) : Sm Γ Λ cs pc ls (.ref (Λ.2.2.2.1 (2, o, 0)) :: st) v ex :=
  sm_get (j := 7) hG (2, o, 0) pc2 hp (okb hC (by decide) ho) (ce_2 hC _) (ci := 5) rfl hin (by decide) rfl hw rfl d k
theorem gC2_8 (hG : jOk Γ Λ cc own Ts rm) (hC : LC Λ) {o : Nat} (ho : o < 7) {n : Nat} (pc2 : Nat) (hp : pc + 3 = pc2) (hin : ∀ w ∈ wsX50, w ∈ Ts) (hw : Cond.fieldLink own n "ChoirRegister$Roster" "lastDayInChoir" "[I" ∈ Ts) (d : decode cc pc = .ok (.getfield n, 3)) (k : Sm Γ Λ cs pc2 ls (.ref (Λ.2.2.2.1 (10, o, 0)) :: st) v ex) : Sm Γ Λ cs pc ls (.ref (Λ.2.2.2.1 (2, o, 0)) :: st) v ex :=
  sm_get (j := 8) hG (2, o, 0) pc2 hp (okb hC (by decide) ho) (ce_2 hC _) (ci := 5) rfl hin (by decide) rfl hw rfl d k
theorem gC2_9 (hG : jOk Γ Λ cc own Ts rm) (hC : LC Λ) {o : Nat} (ho : o < 7) {n : Nat} (pc2 : Nat) (hp : pc + 3 = pc2) (hin : ∀ w ∈ wsX50, w ∈ Ts) (hw : Cond.fieldLink own n "ChoirRegister$Roster" "lastDayAway" "[I" ∈ Ts) (d : decode cc pc = .ok (.getfield n, 3)) (k : Sm Γ Λ cs pc2 ls (.ref (Λ.2.2.2.1 (11, o, 0)) :: st) v ex) : Sm Γ Λ cs pc ls (.ref (Λ.2.2.2.1 (2, o, 0)) :: st) v ex :=
  sm_get (j := 9) hG (2, o, 0) pc2 hp (okb hC (by decide) ho) (ce_2 hC _) (ci := 5) rfl hin (by decide) rfl hw rfl d k
theorem gC2_10 (hG : jOk Γ Λ cc own Ts rm) (hC : LC Λ) {o : Nat} (ho : o < 7) {n : Nat} (pc2 : Nat) (hp : pc + 3 = pc2) (hin : ∀ w ∈ wsX50, w ∈ Ts) (hw : Cond.fieldLink own n "ChoirRegister$Roster" "feastsSung" "[I" ∈ Ts) (d : decode cc pc = .ok (.getfield n, 3)) (k : Sm Γ Λ cs pc2 ls (.ref (Λ.2.2.2.1 (12, o, 0)) :: st) v ex) : Sm Γ Λ cs pc ls (.ref (Λ.2.2.2.1 (2, o, 0)) :: st) v ex :=
  sm_get (j := 10) hG (2, o, 0) pc2 hp (okb hC (by decide) ho) (ce_2 hC _) (ci := 5) rfl hin (by decide) rfl hw rfl d k
theorem gC2_11 (hG : jOk Γ Λ cc own Ts rm) (hC : LC Λ) {o : Nat} (ho : o < 7) {n : Nat} (pc2 : Nat) (hp : pc + 3 = pc2) (hin : ∀ w ∈ wsX50, w ∈ Ts) (hw : Cond.fieldLink own n "ChoirRegister$Roster" "descantsSung" "[I" ∈ Ts) (d : decode cc pc = .ok (.getfield n, 3)) (k : Sm Γ Λ cs pc2 ls (.ref (Λ.2.2.2.1 (13, o, 0)) :: st) v ex) : Sm Γ Λ cs pc ls (.ref (Λ.2.2.2.1 (2, o, 0)) :: st) v ex :=
  sm_get (j := 11) hG (2, o, 0) pc2 hp (okb hC (by decide) ho) (ce_2 hC _) (ci := 5) rfl hin (by decide) rfl hw rfl d k
theorem lC3 (hG : jOk Γ Λ cc own Ts rm) (hC : LC Λ) {o : Nat} (ho : o < 7) {i : Int32} (pc2 : Nat) (hp : pc + 1 = pc2) (d : decode cc pc = .ok (.iaload, 1)) (k : Sm Γ Λ cs pc2 ls (.int (v (3, o, 0) (ix i)) :: st) v ex) : Sm Γ Λ cs pc ls (.int i :: .ref (Λ.2.2.2.1 (3, o, 0)) :: st) v (ck (inb i 30) ex) :=
  sm_iald hG (3, o, 0) pc2 hp (okb hC (by decide) ho) (ce_3 hC _) d k
theorem sC3 (hG : jOk Γ Λ cc own Ts rm) (hC : LC Λ) {o : Nat} (ho : o < 7) {i x : Int32} (pc2 : Nat) (hp : pc + 1 = pc2) (d : decode cc pc = .ok (.iastore, 1)) (k : Sm Γ Λ cs pc2 ls st (up v (3, o, 0) (ix i) x) ex) : Sm Γ Λ cs pc ls (.int x :: .int i :: .ref (Λ.2.2.2.1 (3, o, 0)) :: st) v (ck (inb i 30) ex) :=
  sm_iast hG (3, o, 0) pc2 hp (okb hC (by decide) ho) (ce_3 hC _) d _ (fun k _ h => by rw [up_ne v _ _ h]) (by rw [up_at, ce_3 hC]) k
theorem lC4 (hG : jOk Γ Λ cc own Ts rm) (hC : LC Λ) {o : Nat} (ho : o < 7) {i : Int32} (pc2 : Nat) (hp : pc + 1 = pc2) (d : decode cc pc = .ok (.iaload, 1)) (k : Sm Γ Λ cs pc2 ls (.int (v (4, o, 0) (ix i)) :: st) v ex) : Sm Γ Λ cs pc ls (.int i :: .ref (Λ.2.2.2.1 (4, o, 0)) :: st) v (ck (inb i 30) ex) :=
  sm_iald hG (4, o, 0) pc2 hp (okb hC (by decide) ho) (ce_4 hC _) d k
theorem sC4 (hG : jOk Γ Λ cc own Ts rm) (hC : LC Λ) {o : Nat} (ho : o < 7) {i x : Int32} (pc2 : Nat) (hp : pc + 1 = pc2) (d : decode cc pc = .ok (.iastore, 1)) (k : Sm Γ Λ cs pc2 ls st (up v (4, o, 0) (ix i) x) ex) : Sm Γ Λ cs pc ls (.int x :: .int i :: .ref (Λ.2.2.2.1 (4, o, 0)) :: st) v (ck (inb i 30) ex) :=
  sm_iast hG (4, o, 0) pc2 hp (okb hC (by decide) ho) (ce_4 hC _) d _ (fun k _ h => by rw [up_ne v _ _ h]) (by rw [up_at, ce_4 hC]) k
theorem lC5 (hG : jOk Γ Λ cc own Ts rm) (hC : LC Λ) {o : Nat} (ho : o < 7) {i : Int32} (pc2 : Nat) (hp : pc + 1 = pc2) (d : decode cc pc = .ok (.iaload, 1)) (k : Sm Γ Λ cs pc2 ls (.int (v (5, o, 0) (ix i)) :: st) v ex) : Sm Γ Λ cs pc ls (.int i :: .ref (Λ.2.2.2.1 (5, o, 0)) :: st) v (ck (inb i 30) ex) :=
  sm_iald hG (5, o, 0) pc2 hp (okb hC (by decide) ho) (ce_5 hC _) d k
theorem sC5 (hG : jOk Γ Λ cc own Ts rm) (hC : LC Λ) {o : Nat} (ho : o < 7) {i x : Int32} (pc2 : Nat) (hp : pc + 1 = pc2) (d : decode cc pc = .ok (.iastore, 1)) (k : Sm Γ Λ cs pc2 ls st (up v (5, o, 0) (ix i) x) ex) : Sm Γ Λ cs pc ls (.int x :: .int i :: .ref (Λ.2.2.2.1 (5, o, 0)) :: st) v (ck (inb i 30) ex) :=
  sm_iast hG (5, o, 0) pc2 hp (okb hC (by decide) ho) (ce_5 hC _) d _ (fun k _ h => by rw [up_ne v _ _ h]) (by rw [up_at, ce_5 hC]) k
theorem lC6 (hG : jOk Γ Λ cc own Ts rm) (hC : LC Λ) {o : Nat} (ho : o < 7) {i : Int32} (pc2 : Nat) (hp : pc + 1 = pc2) (d : decode cc pc = .ok (.iaload, 1)) (k : Sm Γ Λ cs pc2 ls (.int (v (6, o, 0) (ix i)) :: st) v ex) : Sm Γ Λ cs pc ls (.int i :: .ref (Λ.2.2.2.1 (6, o, 0)) :: st) v (ck (inb i 30) ex) :=
  sm_iald hG (6, o, 0) pc2 hp (okb hC (by decide) ho) (ce_6 hC _) d k
theorem sC6 (hG : jOk Γ Λ cc own Ts rm) (hC : LC Λ) {o : Nat} (ho : o < 7) {i x : Int32} (pc2 : Nat) (hp : pc + 1 = pc2) (d : decode cc pc = .ok (.iastore, 1)) (k : Sm Γ Λ cs pc2 ls st (up v (6, o, 0) (ix i) x) ex) : Sm Γ Λ cs pc ls (.int x :: .int i :: .ref (Λ.2.2.2.1 (6, o, 0)) :: st) v (ck (inb i 30) ex) :=
  sm_iast hG (6, o, 0) pc2 hp (okb hC (by decide) ho) (ce_6 hC _) d _ (fun k _ h => by rw [up_ne v _ _ h]) (by rw [up_at, ce_6 hC]) k
theorem lC7 (hG : jOk Γ Λ cc own Ts rm) (hC : LC Λ) {o : Nat} (ho : o < 7) {i : Int32} (pc2 : Nat) (hp : pc + 1 = pc2) (d : decode cc pc = .ok (.iaload, 1)) (k : Sm Γ Λ cs pc2 ls (.int (v (7, o, 0) (ix i)) :: st) v ex) : Sm Γ Λ cs pc ls (.int i :: .ref (Λ.2.2.2.1 (7, o, 0)) :: st) v (ck (inb i 30) ex) :=
  sm_iald hG (7, o, 0) pc2 hp (okb hC (by decide) ho) (ce_7 hC _) d k
theorem sC7 (hG : jOk Γ Λ cc own Ts rm) (hC : LC Λ) {o : Nat} (ho : o < 7) {i x : Int32} (pc2 : Nat) (hp : pc + 1 = pc2) (d : decode cc pc = .ok (.iastore, 1)) (k : Sm Γ Λ cs pc2 ls st (up v (7, o, 0) (ix i) x) ex) : Sm Γ Λ cs pc ls (.int x :: .int i :: .ref (Λ.2.2.2.1 (7, o, 0)) :: st) v (ck (inb i 30) ex) :=
  sm_iast hG (7, o, 0) pc2 hp (okb hC (by decide) ho) (ce_7 hC _) d _ (fun k _ h => by rw [up_ne v _ _ h]) (by rw [up_at, ce_7 hC]) k
theorem lC8 (hG : jOk Γ Λ cc own Ts rm) (hC : LC Λ) {o : Nat} (ho : o < 7) {i : Int32} (pc2 : Nat) (hp : pc + 1 = pc2) (d : decode cc pc = .ok (.iaload, 1)) (k : Sm Γ Λ cs pc2 ls (.int (v (8, o, 0) (ix i)) :: st) v ex) : Sm Γ Λ cs pc ls (.int i :: .ref (Λ.2.2.2.1 (8, o, 0)) :: st) v (ck (inb i 30) ex) :=
  sm_iald hG (8, o, 0) pc2 hp (okb hC (by decide) ho) (ce_8 hC _) d k
theorem sC8 (hG : jOk Γ Λ cc own Ts rm) (hC : LC Λ) {o : Nat} (ho : o < 7) {i x : Int32} (pc2 : Nat) (hp : pc + 1 = pc2) (d : decode cc pc = .ok (.iastore, 1)) (k : Sm Γ Λ cs pc2 ls st (up v (8, o, 0) (ix i) x) ex) : Sm Γ Λ cs pc ls (.int x :: .int i :: .ref (Λ.2.2.2.1 (8, o, 0)) :: st) v (ck (inb i 30) ex) :=
  sm_iast hG (8, o, 0) pc2 hp (okb hC (by decide) ho) (ce_8 hC _) d _ (fun k _ h => by rw [up_ne v _ _ h]) (by rw [up_at, ce_8 hC]) k
theorem lC9 (hG : jOk Γ Λ cc own Ts rm) (hC : LC Λ) {o : Nat} (ho : o < 7) {i : Int32} (pc2 : Nat) (hp : pc + 1 = pc2) (d : decode cc pc = .ok (.iaload, 1)) (k : Sm Γ Λ cs pc2 ls (.int (v (9, o, 0) (ix i)) :: st) v ex) : Sm Γ Λ cs pc ls (.int i :: .ref (Λ.2.2.2.1 (9, o, 0)) :: st) v (ck (inb i 30) ex) :=
  sm_iald hG (9, o, 0) pc2 hp (okb hC (by decide) ho) (ce_9 hC _) d k
theorem sC9 (hG : jOk Γ Λ cc own Ts rm) (hC : LC Λ) {o : Nat} (ho : o < 7) {i x : Int32} (pc2 : Nat) (hp : pc + 1 = pc2) (d : decode cc pc = .ok (.iastore, 1)) (k : Sm Γ Λ cs pc2 ls st (up v (9, o, 0) (ix i) x) ex) : Sm Γ Λ cs pc ls (.int x :: .int i :: .ref (Λ.2.2.2.1 (9, o, 0)) :: st) v (ck (inb i 30) ex) :=
  sm_iast hG (9, o, 0) pc2 hp (okb hC (by decide) ho) (ce_9 hC _) d _ (fun k _ h => by rw [up_ne v _ _ h]) (by rw [up_at, ce_9 hC]) k
theorem lC10 (hG : jOk Γ Λ cc own Ts rm) (hC : LC Λ) {o : Nat} (ho : o < 7) {i : Int32} (pc2 : Nat) (hp : pc + 1 = pc2) (d : decode cc pc = .ok (.iaload, 1)) (k : Sm Γ Λ cs pc2 ls (.int (v (10, o, 0) (ix i)) :: st) v ex) : Sm Γ Λ cs pc ls (.int i :: .ref (Λ.2.2.2.1 (10, o, 0)) :: st) v (ck (inb i 30) ex) :=
  sm_iald hG (10, o, 0) pc2 hp (okb hC (by decide) ho) (ce_10 hC _) d k
theorem sC10 (hG : jOk Γ Λ cc own Ts rm) (hC : LC Λ) {o : Nat} (ho : o < 7) {i x : Int32} (pc2 : Nat) (hp : pc + 1 = pc2) (d : decode cc pc = .ok (.iastore, 1)) (k : Sm Γ Λ cs pc2 ls st (up v (10, o, 0) (ix i) x) ex) : Sm Γ Λ cs pc ls (.int x :: .int i :: .ref (Λ.2.2.2.1 (10, o, 0)) :: st) v (ck (inb i 30) ex) :=
  sm_iast hG (10, o, 0) pc2 hp (okb hC (by decide) ho) (ce_10 hC _) d _ (fun k _ h => by rw [up_ne v _ _ h]) (by rw [up_at, ce_10 hC]) k
theorem lC11 (hG : jOk Γ Λ cc own Ts rm) (hC : LC Λ) {o : Nat} (ho : o < 7) {i : Int32} (pc2 : Nat) (hp : pc + 1 = pc2) (d : decode cc pc = .ok (.iaload, 1)) (k : Sm Γ Λ cs pc2 ls (.int (v (11, o, 0) (ix i)) :: st) v ex) : Sm Γ Λ cs pc ls (.int i :: .ref (Λ.2.2.2.1 (11, o, 0)) :: st) v (ck (inb i 30) ex) :=
  sm_iald hG (11, o, 0) pc2 hp (okb hC (by decide) ho) (ce_11 hC _) d k
theorem sC11 (hG : jOk Γ Λ cc own Ts rm) (hC : LC Λ) {o : Nat} (ho : o < 7) {i x : Int32} (pc2 : Nat) (hp : pc + 1 = pc2) (d : decode cc pc = .ok (.iastore, 1)) (k : Sm Γ Λ cs pc2 ls st (up v (11, o, 0) (ix i) x) ex) : Sm Γ Λ cs pc ls (.int x :: .int i :: .ref (Λ.2.2.2.1 (11, o, 0)) :: st) v (ck (inb i 30) ex) :=
  sm_iast hG (11, o, 0) pc2 hp (okb hC (by decide) ho) (ce_11 hC _) d _ (fun k _ h => by rw [up_ne v _ _ h]) (by rw [up_at, ce_11 hC]) k
theorem lC12 (hG : jOk Γ Λ cc own Ts rm) (hC : LC Λ) {o : Nat} (ho : o < 7) {i : Int32} (pc2 : Nat) (hp : pc + 1 = pc2) (d : decode cc pc = .ok (.iaload, 1)) (k : Sm Γ Λ cs pc2 ls (.int (v (12, o, 0) (ix i)) :: st) v ex) : Sm Γ Λ cs pc ls (.int i :: .ref (Λ.2.2.2.1 (12, o, 0)) :: st) v (ck (inb i 30) ex) :=
  sm_iald hG (12, o, 0) pc2 hp (okb hC (by decide) ho) (ce_12 hC _) d k
theorem sC12 (hG : jOk Γ Λ cc own Ts rm) (hC : LC Λ) {o : Nat} (ho : o < 7) {i x : Int32} (pc2 : Nat) (hp : pc + 1 = pc2) (d : decode cc pc = .ok (.iastore, 1)) (k : Sm Γ Λ cs pc2 ls st (up v (12, o, 0) (ix i) x) ex) : Sm Γ Λ cs pc ls (.int x :: .int i :: .ref (Λ.2.2.2.1 (12, o, 0)) :: st) v (ck (inb i 30) ex) :=
  sm_iast hG (12, o, 0) pc2 hp (okb hC (by decide) ho) (ce_12 hC _) d _ (fun k _ h => by rw [up_ne v _ _ h]) (by rw [up_at, ce_12 hC]) k
theorem lC13 (hG : jOk Γ Λ cc own Ts rm) (hC : LC Λ) {o : Nat} (ho : o < 7) {i : Int32} (pc2 : Nat) (hp : pc + 1 = pc2) (d : decode cc pc = .ok (.iaload, 1)) (k : Sm Γ Λ cs pc2 ls (.int (v (13, o, 0) (ix i)) :: st) v ex) : Sm Γ Λ cs pc ls (.int i :: .ref (Λ.2.2.2.1 (13, o, 0)) :: st) v (ck (inb i 30) ex) :=
  sm_iald hG (13, o, 0) pc2 hp (okb hC (by decide) ho) (ce_13 hC _) d k
theorem sC13 (hG : jOk Γ Λ cc own Ts rm) (hC : LC Λ) {o : Nat} (ho : o < 7) {i x : Int32} (pc2 : Nat) (hp : pc + 1 = pc2) (d : decode cc pc = .ok (.iastore, 1)) (k : Sm Γ Λ cs pc2 ls st (up v (13, o, 0) (ix i) x) ex) : Sm Γ Λ cs pc ls (.int x :: .int i :: .ref (Λ.2.2.2.1 (13, o, 0)) :: st) v (ck (inb i 30) ex) :=
  sm_iast hG (13, o, 0) pc2 hp (okb hC (by decide) ho) (ce_13 hC _) d _ (fun k _ h => by rw [up_ne v _ _ h]) (by rw [up_at, ce_13 hC]) k
theorem gC14_0 (hG : jOk Γ Λ cc own Ts rm) (hC : LC Λ) {o : Nat} (ho : o < 7) {n : Nat} (pc2 : Nat) (hp : pc + 3 = pc2) (hin : ∀ w ∈ wsX40, w ∈ Ts) (hw : Cond.fieldLink own n "ChoirRegister$Notes" "count" "I" ∈ Ts) (d : decode cc pc = .ok (.getfield n, 3)) (k : Sm Γ Λ cs pc2 ls (.int (v (14, o, 0) 0) :: st) v ex) : Sm Γ Λ cs pc ls (.ref (Λ.2.2.2.1 (14, o, 0)) :: st) v ex :=
  sm_get (j := 0) hG (14, o, 0) pc2 hp (okb hC (by decide) ho) (ce_14 hC _) (ci := 4) rfl hin (by decide) rfl hw rfl d k
theorem pC14_0 (hG : jOk Γ Λ cc own Ts rm) (hC : LC Λ) {o : Nat} (ho : o < 7) {n : Nat} {x : Int32} (pc2 : Nat) (hp : pc + 3 = pc2) (hin : ∀ w ∈ wsX40, w ∈ Ts) (hw : Cond.fieldLink own n "ChoirRegister$Notes" "count" "I" ∈ Ts) (d : decode cc pc = .ok (.putfield n, 3)) (k : Sm Γ Λ cs pc2 ls st (up v (14, o, 0) 0 x) ex) : Sm Γ Λ cs pc ls (.int x :: .ref (Λ.2.2.2.1 (14, o, 0)) :: st) v ex :=
  sm_put (j := 0) hG (14, o, 0) pc2 hp (okb hC (by decide) ho) (ce_14 hC _) (ci := 4) rfl hin tyX4_ok nmX4 (by decide) rfl rfl hw rfl rfl (Nat.le_of_ble_eq_true rfl) d _ (fun k _ h => by rw [up_ne v 0 x h]) (by rw [up_at, ce_14 hC]; rfl) k
theorem gC14_1 (hG : jOk Γ Λ cc own Ts rm) (hC : LC Λ) {o : Nat} (ho : o < 7) {n : Nat} (pc2 : Nat) (hp : pc + 3 = pc2) (hin : ∀ w ∈ wsX40, w ∈ Ts) (hw : Cond.fieldLink own n "ChoirRegister$Notes" "singers" "[I" ∈ Ts) (d : decode cc pc = .ok (.getfield n, 3)) (k : Sm Γ Λ cs pc2 ls (.ref (Λ.2.2.2.1 (15, o, 0)) :: st) v ex) : Sm Γ Λ cs pc ls (.ref (Λ.2.2.2.1 (14, o, 0)) :: st) v ex :=
  sm_get (j := 1) hG (14, o, 0) pc2 hp (okb hC (by decide) ho) (ce_14 hC _) (ci := 4) rfl hin (by decide) rfl hw rfl d k
theorem gC14_2 (hG : jOk Γ Λ cc own Ts rm) (hC : LC Λ) {o : Nat} (ho : o < 7) {n : Nat} (pc2 : Nat) (hp : pc + 3 = pc2) (hin : ∀ w ∈ wsX40, w ∈ Ts) (hw : Cond.fieldLink own n "ChoirRegister$Notes" "first" "[I" ∈ Ts) (d : decode cc pc = .ok (.getfield n, 3)) (k : Sm Γ Λ cs pc2 ls (.ref (Λ.2.2.2.1 (16, o, 0)) :: st) v ex) : Sm Γ Λ cs pc ls (.ref (Λ.2.2.2.1 (14, o, 0)) :: st) v ex :=
  sm_get (j := 2) hG (14, o, 0) pc2 hp (okb hC (by decide) ho) (ce_14 hC _) (ci := 4) rfl hin (by decide) rfl hw rfl d k
theorem gC14_3 (hG : jOk Γ Λ cc own Ts rm) (hC : LC Λ) {o : Nat} (ho : o < 7) {n : Nat} (pc2 : Nat) (hp : pc + 3 = pc2) (hin : ∀ w ∈ wsX40, w ∈ Ts) (hw : Cond.fieldLink own n "ChoirRegister$Notes" "last" "[I" ∈ Ts) (d : decode cc pc = .ok (.getfield n, 3)) (k : Sm Γ Λ cs pc2 ls (.ref (Λ.2.2.2.1 (17, o, 0)) :: st) v ex) : Sm Γ Λ cs pc ls (.ref (Λ.2.2.2.1 (14, o, 0)) :: st) v ex :=
  sm_get (j := 3) hG (14, o, 0) pc2 hp (okb hC (by decide) ho) (ce_14 hC _) (ci := 4) rfl hin (by decide) rfl hw rfl d k
theorem lC15 (hG : jOk Γ Λ cc own Ts rm) (hC : LC Λ) {o : Nat} (ho : o < 7) {i : Int32} (pc2 : Nat) (hp : pc + 1 = pc2) (d : decode cc pc = .ok (.iaload, 1)) (k : Sm Γ Λ cs pc2 ls (.int (v (15, o, 0) (ix i)) :: st) v ex) : Sm Γ Λ cs pc ls (.int i :: .ref (Λ.2.2.2.1 (15, o, 0)) :: st) v (ck (inb i 60) ex) :=
  sm_iald hG (15, o, 0) pc2 hp (okb hC (by decide) ho) (ce_15 hC _) d k
theorem sC15 (hG : jOk Γ Λ cc own Ts rm) (hC : LC Λ) {o : Nat} (ho : o < 7) {i x : Int32} (pc2 : Nat) (hp : pc + 1 = pc2) (d : decode cc pc = .ok (.iastore, 1)) (k : Sm Γ Λ cs pc2 ls st (up v (15, o, 0) (ix i) x) ex) : Sm Γ Λ cs pc ls (.int x :: .int i :: .ref (Λ.2.2.2.1 (15, o, 0)) :: st) v (ck (inb i 60) ex) :=
  sm_iast hG (15, o, 0) pc2 hp (okb hC (by decide) ho) (ce_15 hC _) d _ (fun k _ h => by rw [up_ne v _ _ h]) (by rw [up_at, ce_15 hC]) k
theorem lC16 (hG : jOk Γ Λ cc own Ts rm) (hC : LC Λ) {o : Nat} (ho : o < 7) {i : Int32} (pc2 : Nat) (hp : pc + 1 = pc2) (d : decode cc pc = .ok (.iaload, 1)) (k : Sm Γ Λ cs pc2 ls (.int (v (16, o, 0) (ix i)) :: st) v ex) : Sm Γ Λ cs pc ls (.int i :: .ref (Λ.2.2.2.1 (16, o, 0)) :: st) v (ck (inb i 60) ex) :=
  sm_iald hG (16, o, 0) pc2 hp (okb hC (by decide) ho) (ce_16 hC _) d k
theorem sC16 (hG : jOk Γ Λ cc own Ts rm) (hC : LC Λ) {o : Nat} (ho : o < 7) {i x : Int32} (pc2 : Nat) (hp : pc + 1 = pc2) (d : decode cc pc = .ok (.iastore, 1)) (k : Sm Γ Λ cs pc2 ls st (up v (16, o, 0) (ix i) x) ex) : Sm Γ Λ cs pc ls (.int x :: .int i :: .ref (Λ.2.2.2.1 (16, o, 0)) :: st) v (ck (inb i 60) ex) :=
  sm_iast hG (16, o, 0) pc2 hp (okb hC (by decide) ho) (ce_16 hC _) d _ (fun k _ h => by rw [up_ne v _ _ h]) (by rw [up_at, ce_16 hC]) k
theorem lC17 (hG : jOk Γ Λ cc own Ts rm) (hC : LC Λ) {o : Nat} (ho : o < 7) {i : Int32} (pc2 : Nat) (hp : pc + 1 = pc2) (d : decode cc pc = .ok (.iaload, 1)) (k : Sm Γ Λ cs pc2 ls (.int (v (17, o, 0) (ix i)) :: st) v ex) : Sm Γ Λ cs pc ls (.int i :: .ref (Λ.2.2.2.1 (17, o, 0)) :: st) v (ck (inb i 60) ex) :=
  sm_iald hG (17, o, 0) pc2 hp (okb hC (by decide) ho) (ce_17 hC _) d k
theorem sC17 (hG : jOk Γ Λ cc own Ts rm) (hC : LC Λ) {o : Nat} (ho : o < 7) {i x : Int32} (pc2 : Nat) (hp : pc + 1 = pc2) (d : decode cc pc = .ok (.iastore, 1)) (k : Sm Γ Λ cs pc2 ls st (up v (17, o, 0) (ix i) x) ex) : Sm Γ Λ cs pc ls (.int x :: .int i :: .ref (Λ.2.2.2.1 (17, o, 0)) :: st) v (ck (inb i 60) ex) :=
  sm_iast hG (17, o, 0) pc2 hp (okb hC (by decide) ho) (ce_17 hC _) d _ (fun k _ h => by rw [up_ne v _ _ h]) (by rw [up_at, ce_17 hC]) k
theorem gC18_0 (hG : jOk Γ Λ cc own Ts rm) (hC : LC Λ) {o : Nat} (ho : o < 7) {n : Nat} (pc2 : Nat) (hp : pc + 3 = pc2) (hin : ∀ w ∈ wsX10, w ∈ Ts) (hw : Cond.fieldLink own n "ChoirRegister$Calendar" "count" "I" ∈ Ts) (d : decode cc pc = .ok (.getfield n, 3)) (k : Sm Γ Λ cs pc2 ls (.int (v (18, o, 0) 0) :: st) v ex) : Sm Γ Λ cs pc ls (.ref (Λ.2.2.2.1 (18, o, 0)) :: st) v ex :=
  sm_get (j := 0) hG (18, o, 0) pc2 hp (okb hC (by decide) ho) (ce_18 hC _) (ci := 1) rfl hin (by decide) rfl hw rfl d k
theorem pC18_0 (hG : jOk Γ Λ cc own Ts rm) (hC : LC Λ) {o : Nat} (ho : o < 7) {n : Nat} {x : Int32} (pc2 : Nat) (hp : pc + 3 = pc2) (hin : ∀ w ∈ wsX10, w ∈ Ts) (hw : Cond.fieldLink own n "ChoirRegister$Calendar" "count" "I" ∈ Ts) (d : decode cc pc = .ok (.putfield n, 3)) (k : Sm Γ Λ cs pc2 ls st (up v (18, o, 0) 0 x) ex) : Sm Γ Λ cs pc ls (.int x :: .ref (Λ.2.2.2.1 (18, o, 0)) :: st) v ex :=
  sm_put (j := 0) hG (18, o, 0) pc2 hp (okb hC (by decide) ho) (ce_18 hC _) (ci := 1) rfl hin tyX1_ok nmX1 (by decide) rfl rfl hw rfl rfl (Nat.le_of_ble_eq_true rfl) d _ (fun k _ h => by rw [up_ne v 0 x h]) (by rw [up_at, ce_18 hC]; rfl) k
theorem gC18_1 (hG : jOk Γ Λ cc own Ts rm) (hC : LC Λ) {o : Nat} (ho : o < 7) {n : Nat} (pc2 : Nat) (hp : pc + 3 = pc2) (hin : ∀ w ∈ wsX10, w ∈ Ts) (hw : Cond.fieldLink own n "ChoirRegister$Calendar" "day" "[I" ∈ Ts) (d : decode cc pc = .ok (.getfield n, 3)) (k : Sm Γ Λ cs pc2 ls (.ref (Λ.2.2.2.1 (19, o, 0)) :: st) v ex) : Sm Γ Λ cs pc ls (.ref (Λ.2.2.2.1 (18, o, 0)) :: st) v ex :=
  sm_get (j := 1) hG (18, o, 0) pc2 hp (okb hC (by decide) ho) (ce_18 hC _) (ci := 1) rfl hin (by decide) rfl hw rfl d k
theorem gC18_2 (hG : jOk Γ Λ cc own Ts rm) (hC : LC Λ) {o : Nat} (ho : o < 7) {n : Nat} (pc2 : Nat) (hp : pc + 3 = pc2) (hin : ∀ w ∈ wsX10, w ∈ Ts) (hw : Cond.fieldLink own n "ChoirRegister$Calendar" "rank" "[I" ∈ Ts) (d : decode cc pc = .ok (.getfield n, 3)) (k : Sm Γ Λ cs pc2 ls (.ref (Λ.2.2.2.1 (20, o, 0)) :: st) v ex) : Sm Γ Λ cs pc ls (.ref (Λ.2.2.2.1 (18, o, 0)) :: st) v ex :=
  sm_get (j := 2) hG (18, o, 0) pc2 hp (okb hC (by decide) ho) (ce_18 hC _) (ci := 1) rfl hin (by decide) rfl hw rfl d k
theorem gC18_3 (hG : jOk Γ Λ cc own Ts rm) (hC : LC Λ) {o : Nat} (ho : o < 7) {n : Nat} (pc2 : Nat) (hp : pc + 3 = pc2) (hin : ∀ w ∈ wsX10, w ∈ Ts) (hw : Cond.fieldLink own n "ChoirRegister$Calendar" "descant" "[I" ∈ Ts) (d : decode cc pc = .ok (.getfield n, 3)) (k : Sm Γ Λ cs pc2 ls (.ref (Λ.2.2.2.1 (21, o, 0)) :: st) v ex) : Sm Γ Λ cs pc ls (.ref (Λ.2.2.2.1 (18, o, 0)) :: st) v ex :=
  sm_get (j := 3) hG (18, o, 0) pc2 hp (okb hC (by decide) ho) (ce_18 hC _) (ci := 1) rfl hin (by decide) rfl hw rfl d k
theorem gC18_4 (hG : jOk Γ Λ cc own Ts rm) (hC : LC Λ) {o : Nat} (ho : o < 7) {n : Nat} (pc2 : Nat) (hp : pc + 3 = pc2) (hin : ∀ w ∈ wsX10, w ∈ Ts) (hw : Cond.fieldLink own n "ChoirRegister$Calendar" "places" "[[I" ∈ Ts) (d : decode cc pc = .ok (.getfield n, 3)) (k : Sm Γ Λ cs pc2 ls (.ref (Λ.2.2.2.1 (22, o, 0)) :: st) v ex) : Sm Γ Λ cs pc ls (.ref (Λ.2.2.2.1 (18, o, 0)) :: st) v ex :=
  sm_get (j := 4) hG (18, o, 0) pc2 hp (okb hC (by decide) ho) (ce_18 hC _) (ci := 1) rfl hin (by decide) rfl hw rfl d k
theorem gC18_5 (hG : jOk Γ Λ cc own Ts rm) (hC : LC Λ) {o : Nat} (ho : o < 7) {n : Nat} (pc2 : Nat) (hp : pc + 3 = pc2) (hin : ∀ w ∈ wsX10, w ∈ Ts) (hw : Cond.fieldLink own n "ChoirRegister$Calendar" "lowest" "[[I" ∈ Ts) (d : decode cc pc = .ok (.getfield n, 3)) (k : Sm Γ Λ cs pc2 ls (.ref (Λ.2.2.2.1 (23, o, 0)) :: st) v ex) : Sm Γ Λ cs pc ls (.ref (Λ.2.2.2.1 (18, o, 0)) :: st) v ex :=
  sm_get (j := 5) hG (18, o, 0) pc2 hp (okb hC (by decide) ho) (ce_18 hC _) (ci := 1) rfl hin (by decide) rfl hw rfl d k
theorem gC18_6 (hG : jOk Γ Λ cc own Ts rm) (hC : LC Λ) {o : Nat} (ho : o < 7) {n : Nat} (pc2 : Nat) (hp : pc + 3 = pc2) (hin : ∀ w ∈ wsX10, w ∈ Ts) (hw : Cond.fieldLink own n "ChoirRegister$Calendar" "highest" "[[I" ∈ Ts) (d : decode cc pc = .ok (.getfield n, 3)) (k : Sm Γ Λ cs pc2 ls (.ref (Λ.2.2.2.1 (24, o, 0)) :: st) v ex) : Sm Γ Λ cs pc ls (.ref (Λ.2.2.2.1 (18, o, 0)) :: st) v ex :=
  sm_get (j := 6) hG (18, o, 0) pc2 hp (okb hC (by decide) ho) (ce_18 hC _) (ci := 1) rfl hin (by decide) rfl hw rfl d k
theorem gC18_7 (hG : jOk Γ Λ cc own Ts rm) (hC : LC Λ) {o : Nat} (ho : o < 7) {n : Nat} (pc2 : Nat) (hp : pc + 3 = pc2) (hin : ∀ w ∈ wsX10, w ∈ Ts) (hw : Cond.fieldLink own n "ChoirRegister$Calendar" "linesSung" "[[I" ∈ Ts) (d : decode cc pc = .ok (.getfield n, 3)) (k : Sm Γ Λ cs pc2 ls (.ref (Λ.2.2.2.1 (25, o, 0)) :: st) v ex) : Sm Γ Λ cs pc ls (.ref (Λ.2.2.2.1 (18, o, 0)) :: st) v ex :=
  sm_get (j := 7) hG (18, o, 0) pc2 hp (okb hC (by decide) ho) (ce_18 hC _) (ci := 1) rfl hin (by decide) rfl hw rfl d k
theorem lC19 (hG : jOk Γ Λ cc own Ts rm) (hC : LC Λ) {o : Nat} (ho : o < 7) {i : Int32} (pc2 : Nat) (hp : pc + 1 = pc2) (d : decode cc pc = .ok (.iaload, 1)) (k : Sm Γ Λ cs pc2 ls (.int (v (19, o, 0) (ix i)) :: st) v ex) : Sm Γ Λ cs pc ls (.int i :: .ref (Λ.2.2.2.1 (19, o, 0)) :: st) v (ck (inb i 20) ex) :=
  sm_iald hG (19, o, 0) pc2 hp (okb hC (by decide) ho) (ce_19 hC _) d k
theorem sC19 (hG : jOk Γ Λ cc own Ts rm) (hC : LC Λ) {o : Nat} (ho : o < 7) {i x : Int32} (pc2 : Nat) (hp : pc + 1 = pc2) (d : decode cc pc = .ok (.iastore, 1)) (k : Sm Γ Λ cs pc2 ls st (up v (19, o, 0) (ix i) x) ex) : Sm Γ Λ cs pc ls (.int x :: .int i :: .ref (Λ.2.2.2.1 (19, o, 0)) :: st) v (ck (inb i 20) ex) :=
  sm_iast hG (19, o, 0) pc2 hp (okb hC (by decide) ho) (ce_19 hC _) d _ (fun k _ h => by rw [up_ne v _ _ h]) (by rw [up_at, ce_19 hC]) k
theorem lC20 (hG : jOk Γ Λ cc own Ts rm) (hC : LC Λ) {o : Nat} (ho : o < 7) {i : Int32} (pc2 : Nat) (hp : pc + 1 = pc2) (d : decode cc pc = .ok (.iaload, 1)) (k : Sm Γ Λ cs pc2 ls (.int (v (20, o, 0) (ix i)) :: st) v ex) : Sm Γ Λ cs pc ls (.int i :: .ref (Λ.2.2.2.1 (20, o, 0)) :: st) v (ck (inb i 20) ex) :=
  sm_iald hG (20, o, 0) pc2 hp (okb hC (by decide) ho) (ce_20 hC _) d k
theorem sC20 (hG : jOk Γ Λ cc own Ts rm) (hC : LC Λ) {o : Nat} (ho : o < 7) {i x : Int32} (pc2 : Nat) (hp : pc + 1 = pc2) (d : decode cc pc = .ok (.iastore, 1)) (k : Sm Γ Λ cs pc2 ls st (up v (20, o, 0) (ix i) x) ex) : Sm Γ Λ cs pc ls (.int x :: .int i :: .ref (Λ.2.2.2.1 (20, o, 0)) :: st) v (ck (inb i 20) ex) :=
  sm_iast hG (20, o, 0) pc2 hp (okb hC (by decide) ho) (ce_20 hC _) d _ (fun k _ h => by rw [up_ne v _ _ h]) (by rw [up_at, ce_20 hC]) k
theorem lC21 (hG : jOk Γ Λ cc own Ts rm) (hC : LC Λ) {o : Nat} (ho : o < 7) {i : Int32} (pc2 : Nat) (hp : pc + 1 = pc2) (d : decode cc pc = .ok (.iaload, 1)) (k : Sm Γ Λ cs pc2 ls (.int (v (21, o, 0) (ix i)) :: st) v ex) : Sm Γ Λ cs pc ls (.int i :: .ref (Λ.2.2.2.1 (21, o, 0)) :: st) v (ck (inb i 20) ex) :=
  sm_iald hG (21, o, 0) pc2 hp (okb hC (by decide) ho) (ce_21 hC _) d k
theorem sC21 (hG : jOk Γ Λ cc own Ts rm) (hC : LC Λ) {o : Nat} (ho : o < 7) {i x : Int32} (pc2 : Nat) (hp : pc + 1 = pc2) (d : decode cc pc = .ok (.iastore, 1)) (k : Sm Γ Λ cs pc2 ls st (up v (21, o, 0) (ix i) x) ex) : Sm Γ Λ cs pc ls (.int x :: .int i :: .ref (Λ.2.2.2.1 (21, o, 0)) :: st) v (ck (inb i 20) ex) :=
  sm_iast hG (21, o, 0) pc2 hp (okb hC (by decide) ho) (ce_21 hC _) d _ (fun k _ h => by rw [up_ne v _ _ h]) (by rw [up_at, ce_21 hC]) k
theorem lC22 (hG : jOk Γ Λ cc own Ts rm) (hC : LC Λ) {o : Nat} (ho : o < 7) {i : Int32} (pc2 : Nat) (hp : pc + 1 = pc2) (d : decode cc pc = .ok (.aaload, 1)) (k : ix i < 20 → Sm Γ Λ cs pc2 ls (.ref (Λ.2.2.2.1 (26, o, ix i)) :: st) v ex) : Sm Γ Λ cs pc ls (.int i :: .ref (Λ.2.2.2.1 (22, o, 0)) :: st) v (ck (inb i 20) ex) := by
  intro r hr
  exact sm_aald (t0 := 2) hG rfl rfl (22, o, 0) pc2 hp (okb hC (by decide) ho) (ce_22 hC _) rfl d (k (inb_ix (ck_s hr).1)) r hr
theorem lC23 (hG : jOk Γ Λ cc own Ts rm) (hC : LC Λ) {o : Nat} (ho : o < 7) {i : Int32} (pc2 : Nat) (hp : pc + 1 = pc2) (d : decode cc pc = .ok (.aaload, 1)) (k : ix i < 20 → Sm Γ Λ cs pc2 ls (.ref (Λ.2.2.2.1 (27, o, ix i)) :: st) v ex) : Sm Γ Λ cs pc ls (.int i :: .ref (Λ.2.2.2.1 (23, o, 0)) :: st) v (ck (inb i 20) ex) := by
  intro r hr
  exact sm_aald (t0 := 2) hG rfl rfl (23, o, 0) pc2 hp (okb hC (by decide) ho) (ce_23 hC _) rfl d (k (inb_ix (ck_s hr).1)) r hr
theorem lC24 (hG : jOk Γ Λ cc own Ts rm) (hC : LC Λ) {o : Nat} (ho : o < 7) {i : Int32} (pc2 : Nat) (hp : pc + 1 = pc2) (d : decode cc pc = .ok (.aaload, 1)) (k : ix i < 20 → Sm Γ Λ cs pc2 ls (.ref (Λ.2.2.2.1 (28, o, ix i)) :: st) v ex) : Sm Γ Λ cs pc ls (.int i :: .ref (Λ.2.2.2.1 (24, o, 0)) :: st) v (ck (inb i 20) ex) := by
  intro r hr
  exact sm_aald (t0 := 2) hG rfl rfl (24, o, 0) pc2 hp (okb hC (by decide) ho) (ce_24 hC _) rfl d (k (inb_ix (ck_s hr).1)) r hr
theorem lC25 (hG : jOk Γ Λ cc own Ts rm) (hC : LC Λ) {o : Nat} (ho : o < 7) {i : Int32} (pc2 : Nat) (hp : pc + 1 = pc2) (d : decode cc pc = .ok (.aaload, 1)) (k : ix i < 20 → Sm Γ Λ cs pc2 ls (.ref (Λ.2.2.2.1 (29, o, ix i)) :: st) v ex) : Sm Γ Λ cs pc ls (.int i :: .ref (Λ.2.2.2.1 (25, o, 0)) :: st) v (ck (inb i 20) ex) := by
  intro r hr
  exact sm_aald (t0 := 2) hG rfl rfl (25, o, 0) pc2 hp (okb hC (by decide) ho) (ce_25 hC _) rfl d (k (inb_ix (ck_s hr).1)) r hr
theorem lC26 (hG : jOk Γ Λ cc own Ts rm) (hC : LC Λ) {o f : Nat} (ho : o < 7) (hf : f < 20) {i : Int32} (pc2 : Nat) (hp : pc + 1 = pc2) (d : decode cc pc = .ok (.iaload, 1)) (k : Sm Γ Λ cs pc2 ls (.int (v (26, o, f) (ix i)) :: st) v ex) : Sm Γ Λ cs pc ls (.int i :: .ref (Λ.2.2.2.1 (26, o, f)) :: st) v (ck (inb i 4) ex) :=
  sm_iald hG (26, o, f) pc2 hp (okr hC (by decide) ho hf) (ce_26 hC _) d k
theorem sC26 (hG : jOk Γ Λ cc own Ts rm) (hC : LC Λ) {o f : Nat} (ho : o < 7) (hf : f < 20) {i x : Int32} (pc2 : Nat) (hp : pc + 1 = pc2) (d : decode cc pc = .ok (.iastore, 1)) (k : Sm Γ Λ cs pc2 ls st (up v (26, o, f) (ix i) x) ex) : Sm Γ Λ cs pc ls (.int x :: .int i :: .ref (Λ.2.2.2.1 (26, o, f)) :: st) v (ck (inb i 4) ex) :=
  sm_iast hG (26, o, f) pc2 hp (okr hC (by decide) ho hf) (ce_26 hC _) d _ (fun k _ h => by rw [up_ne v _ _ h]) (by rw [up_at, ce_26 hC]) k
theorem lC27 (hG : jOk Γ Λ cc own Ts rm) (hC : LC Λ) {o f : Nat} (ho : o < 7) (hf : f < 20) {i : Int32} (pc2 : Nat) (hp : pc + 1 = pc2) (d : decode cc pc = .ok (.iaload, 1)) (k : Sm Γ Λ cs pc2 ls (.int (v (27, o, f) (ix i)) :: st) v ex) : Sm Γ Λ cs pc ls (.int i :: .ref (Λ.2.2.2.1 (27, o, f)) :: st) v (ck (inb i 4) ex) :=
  sm_iald hG (27, o, f) pc2 hp (okr hC (by decide) ho hf) (ce_27 hC _) d k
theorem sC27 (hG : jOk Γ Λ cc own Ts rm) (hC : LC Λ) {o f : Nat} (ho : o < 7) (hf : f < 20) {i x : Int32} (pc2 : Nat) (hp : pc + 1 = pc2) (d : decode cc pc = .ok (.iastore, 1)) (k : Sm Γ Λ cs pc2 ls st (up v (27, o, f) (ix i) x) ex) : Sm Γ Λ cs pc ls (.int x :: .int i :: .ref (Λ.2.2.2.1 (27, o, f)) :: st) v (ck (inb i 4) ex) :=
  sm_iast hG (27, o, f) pc2 hp (okr hC (by decide) ho hf) (ce_27 hC _) d _ (fun k _ h => by rw [up_ne v _ _ h]) (by rw [up_at, ce_27 hC]) k
theorem lC28 (hG : jOk Γ Λ cc own Ts rm) (hC : LC Λ) {o f : Nat} (ho : o < 7) (hf : f < 20) {i : Int32} (pc2 : Nat) (hp : pc + 1 = pc2) (d : decode cc pc = .ok (.iaload, 1)) (k : Sm Γ Λ cs pc2 ls (.int (v (28, o, f) (ix i)) :: st) v ex) : Sm Γ Λ cs pc ls (.int i :: .ref (Λ.2.2.2.1 (28, o, f)) :: st) v (ck (inb i 4) ex) :=
  sm_iald hG (28, o, f) pc2 hp (okr hC (by decide) ho hf) (ce_28 hC _) d k
theorem sC28 (hG : jOk Γ Λ cc own Ts rm) (hC : LC Λ) {o f : Nat} (ho : o < 7) (hf : f < 20) {i x : Int32} (pc2 : Nat) (hp : pc + 1 = pc2) (d : decode cc pc = .ok (.iastore, 1)) (k : Sm Γ Λ cs pc2 ls st (up v (28, o, f) (ix i) x) ex) : Sm Γ Λ cs pc ls (.int x :: .int i :: .ref (Λ.2.2.2.1 (28, o, f)) :: st) v (ck (inb i 4) ex) :=
  sm_iast hG (28, o, f) pc2 hp (okr hC (by decide) ho hf) (ce_28 hC _) d _ (fun k _ h => by rw [up_ne v _ _ h]) (by rw [up_at, ce_28 hC]) k
theorem lC29 (hG : jOk Γ Λ cc own Ts rm) (hC : LC Λ) {o f : Nat} (ho : o < 7) (hf : f < 20) {i : Int32} (pc2 : Nat) (hp : pc + 1 = pc2) (d : decode cc pc = .ok (.iaload, 1)) (k : Sm Γ Λ cs pc2 ls (.int (v (29, o, f) (ix i)) :: st) v ex) : Sm Γ Λ cs pc ls (.int i :: .ref (Λ.2.2.2.1 (29, o, f)) :: st) v (ck (inb i 30) ex) :=
  sm_iald hG (29, o, f) pc2 hp (okr hC (by decide) ho hf) (ce_29 hC _) d k
theorem sC29 (hG : jOk Γ Λ cc own Ts rm) (hC : LC Λ) {o f : Nat} (ho : o < 7) (hf : f < 20) {i x : Int32} (pc2 : Nat) (hp : pc + 1 = pc2) (d : decode cc pc = .ok (.iastore, 1)) (k : Sm Γ Λ cs pc2 ls st (up v (29, o, f) (ix i) x) ex) : Sm Γ Λ cs pc ls (.int x :: .int i :: .ref (Λ.2.2.2.1 (29, o, f)) :: st) v (ck (inb i 30) ex) :=
  sm_iast hG (29, o, f) pc2 hp (okr hC (by decide) ho hf) (ce_29 hC _) d _ (fun k _ h => by rw [up_ne v _ _ h]) (by rw [up_at, ce_29 hC]) k
theorem lC30 (hG : jOk Γ Λ cc own Ts rm) (hC : LC Λ) {o : Nat} (ho : o < 7) {i : Int32} (pc2 : Nat) (hp : pc + 1 = pc2) (d : decode cc pc = .ok (.iaload, 1)) (k : Sm Γ Λ cs pc2 ls (.int (v (30, o, 0) (ix i)) :: st) v ex) : Sm Γ Λ cs pc ls (.int i :: .ref (Λ.2.2.2.1 (30, o, 0)) :: st) v (ck (inb i 5) ex) :=
  sm_iald hG (30, o, 0) pc2 hp (okb hC (by decide) ho) (ce_30 hC _) d k
theorem sC30 (hG : jOk Γ Λ cc own Ts rm) (hC : LC Λ) {o : Nat} (ho : o < 7) {i x : Int32} (pc2 : Nat) (hp : pc + 1 = pc2) (d : decode cc pc = .ok (.iastore, 1)) (k : Sm Γ Λ cs pc2 ls st (up v (30, o, 0) (ix i) x) ex) : Sm Γ Λ cs pc ls (.int x :: .int i :: .ref (Λ.2.2.2.1 (30, o, 0)) :: st) v (ck (inb i 5) ex) :=
  sm_iast hG (30, o, 0) pc2 hp (okb hC (by decide) ho) (ce_30 hC _) d _ (fun k _ h => by rw [up_ne v _ _ h]) (by rw [up_at, ce_30 hC]) k
theorem gC32_0 (hG : jOk Γ Λ cc own Ts rm) (hC : LC Λ) {n : Nat} (pc2 : Nat) (hp : pc + 3 = pc2) (hin : ∀ w ∈ wsX20, w ∈ Ts) (hw : Cond.fieldLink own n "ChoirRegister$Letter" "signs" "[C" ∈ Ts) (d : decode cc pc = .ok (.getfield n, 3)) (k : Sm Γ Λ cs pc2 ls (.ref (Λ.2.2.2.1 (33, 0, 0)) :: st) v ex) : Sm Γ Λ cs pc ls (.ref (Λ.2.2.2.1 (32, 0, 0)) :: st) v ex :=
  sm_get (j := 0) hG (32, 0, 0) pc2 hp (oks hC (by decide)) (ce_32 hC _) (ci := 2) rfl hin (by decide) rfl hw rfl d k
theorem gC32_1 (hG : jOk Γ Λ cc own Ts rm) (hC : LC Λ) {n : Nat} (pc2 : Nat) (hp : pc + 3 = pc2) (hin : ∀ w ∈ wsX20, w ∈ Ts) (hw : Cond.fieldLink own n "ChoirRegister$Letter" "length" "I" ∈ Ts) (d : decode cc pc = .ok (.getfield n, 3)) (k : Sm Γ Λ cs pc2 ls (.int (v (32, 0, 0) 1) :: st) v ex) : Sm Γ Λ cs pc ls (.ref (Λ.2.2.2.1 (32, 0, 0)) :: st) v ex :=
  sm_get (j := 1) hG (32, 0, 0) pc2 hp (oks hC (by decide)) (ce_32 hC _) (ci := 2) rfl hin (by decide) rfl hw rfl d k
theorem pC32_1 (hG : jOk Γ Λ cc own Ts rm) (hC : LC Λ) {n : Nat} {x : Int32} (pc2 : Nat) (hp : pc + 3 = pc2) (hin : ∀ w ∈ wsX20, w ∈ Ts) (hw : Cond.fieldLink own n "ChoirRegister$Letter" "length" "I" ∈ Ts) (d : decode cc pc = .ok (.putfield n, 3)) (k : Sm Γ Λ cs pc2 ls st (up v (32, 0, 0) 1 x) ex) : Sm Γ Λ cs pc ls (.int x :: .ref (Λ.2.2.2.1 (32, 0, 0)) :: st) v ex :=
  sm_put (j := 1) hG (32, 0, 0) pc2 hp (oks hC (by decide)) (ce_32 hC _) (ci := 2) rfl hin tyX2_ok nmX2 (by decide) rfl rfl hw rfl rfl (Nat.le_of_ble_eq_true rfl) d _ (fun k _ h => by rw [up_ne v 1 x h]) (by rw [up_at, ce_32 hC]; rfl) k
theorem gC32_2 (hG : jOk Γ Λ cc own Ts rm) (hC : LC Λ) {n : Nat} (pc2 : Nat) (hp : pc + 3 = pc2) (hin : ∀ w ∈ wsX20, w ∈ Ts) (hw : Cond.fieldLink own n "ChoirRegister$Letter" "at" "I" ∈ Ts) (d : decode cc pc = .ok (.getfield n, 3)) (k : Sm Γ Λ cs pc2 ls (.int (v (32, 0, 0) 2) :: st) v ex) : Sm Γ Λ cs pc ls (.ref (Λ.2.2.2.1 (32, 0, 0)) :: st) v ex :=
  sm_get (j := 2) hG (32, 0, 0) pc2 hp (oks hC (by decide)) (ce_32 hC _) (ci := 2) rfl hin (by decide) rfl hw rfl d k
theorem pC32_2 (hG : jOk Γ Λ cc own Ts rm) (hC : LC Λ) {n : Nat} {x : Int32} (pc2 : Nat) (hp : pc + 3 = pc2) (hin : ∀ w ∈ wsX20, w ∈ Ts) (hw : Cond.fieldLink own n "ChoirRegister$Letter" "at" "I" ∈ Ts) (d : decode cc pc = .ok (.putfield n, 3)) (k : Sm Γ Λ cs pc2 ls st (up v (32, 0, 0) 2 x) ex) : Sm Γ Λ cs pc ls (.int x :: .ref (Λ.2.2.2.1 (32, 0, 0)) :: st) v ex :=
  sm_put (j := 2) hG (32, 0, 0) pc2 hp (oks hC (by decide)) (ce_32 hC _) (ci := 2) rfl hin tyX2_ok nmX2 (by decide) rfl rfl hw rfl rfl (Nat.le_of_ble_eq_true rfl) d _ (fun k _ h => by rw [up_ne v 2 x h]) (by rw [up_at, ce_32 hC]; rfl) k
theorem gC32_3 (hG : jOk Γ Λ cc own Ts rm) (hC : LC Λ) {n : Nat} (pc2 : Nat) (hp : pc + 3 = pc2) (hin : ∀ w ∈ wsX20, w ∈ Ts) (hw : Cond.fieldLink own n "ChoirRegister$Letter" "kind" "I" ∈ Ts) (d : decode cc pc = .ok (.getfield n, 3)) (k : Sm Γ Λ cs pc2 ls (.int (v (32, 0, 0) 3) :: st) v ex) : Sm Γ Λ cs pc ls (.ref (Λ.2.2.2.1 (32, 0, 0)) :: st) v ex :=
  sm_get (j := 3) hG (32, 0, 0) pc2 hp (oks hC (by decide)) (ce_32 hC _) (ci := 2) rfl hin (by decide) rfl hw rfl d k
theorem pC32_3 (hG : jOk Γ Λ cc own Ts rm) (hC : LC Λ) {n : Nat} {x : Int32} (pc2 : Nat) (hp : pc + 3 = pc2) (hin : ∀ w ∈ wsX20, w ∈ Ts) (hw : Cond.fieldLink own n "ChoirRegister$Letter" "kind" "I" ∈ Ts) (d : decode cc pc = .ok (.putfield n, 3)) (k : Sm Γ Λ cs pc2 ls st (up v (32, 0, 0) 3 x) ex) : Sm Γ Λ cs pc ls (.int x :: .ref (Λ.2.2.2.1 (32, 0, 0)) :: st) v ex :=
  sm_put (j := 3) hG (32, 0, 0) pc2 hp (oks hC (by decide)) (ce_32 hC _) (ci := 2) rfl hin tyX2_ok nmX2 (by decide) rfl rfl hw rfl rfl (Nat.le_of_ble_eq_true rfl) d _ (fun k _ h => by rw [up_ne v 3 x h]) (by rw [up_at, ce_32 hC]; rfl) k
theorem gC32_4 (hG : jOk Γ Λ cc own Ts rm) (hC : LC Λ) {n : Nat} (pc2 : Nat) (hp : pc + 3 = pc2) (hin : ∀ w ∈ wsX20, w ∈ Ts) (hw : Cond.fieldLink own n "ChoirRegister$Letter" "numbers" "[I" ∈ Ts) (d : decode cc pc = .ok (.getfield n, 3)) (k : Sm Γ Λ cs pc2 ls (.ref (Λ.2.2.2.1 (34, 0, 0)) :: st) v ex) : Sm Γ Λ cs pc ls (.ref (Λ.2.2.2.1 (32, 0, 0)) :: st) v ex :=
  sm_get (j := 4) hG (32, 0, 0) pc2 hp (oks hC (by decide)) (ce_32 hC _) (ci := 2) rfl hin (by decide) rfl hw rfl d k
theorem gC32_5 (hG : jOk Γ Λ cc own Ts rm) (hC : LC Λ) {n : Nat} (pc2 : Nat) (hp : pc + 3 = pc2) (hin : ∀ w ∈ wsX20, w ∈ Ts) (hw : Cond.fieldLink own n "ChoirRegister$Letter" "number" "I" ∈ Ts) (d : decode cc pc = .ok (.getfield n, 3)) (k : Sm Γ Λ cs pc2 ls (.int (v (32, 0, 0) 5) :: st) v ex) : Sm Γ Λ cs pc ls (.ref (Λ.2.2.2.1 (32, 0, 0)) :: st) v ex :=
  sm_get (j := 5) hG (32, 0, 0) pc2 hp (oks hC (by decide)) (ce_32 hC _) (ci := 2) rfl hin (by decide) rfl hw rfl d k
theorem pC32_5 (hG : jOk Γ Λ cc own Ts rm) (hC : LC Λ) {n : Nat} {x : Int32} (pc2 : Nat) (hp : pc + 3 = pc2) (hin : ∀ w ∈ wsX20, w ∈ Ts) (hw : Cond.fieldLink own n "ChoirRegister$Letter" "number" "I" ∈ Ts) (d : decode cc pc = .ok (.putfield n, 3)) (k : Sm Γ Λ cs pc2 ls st (up v (32, 0, 0) 5 x) ex) : Sm Γ Λ cs pc ls (.int x :: .ref (Λ.2.2.2.1 (32, 0, 0)) :: st) v ex :=
  sm_put (j := 5) hG (32, 0, 0) pc2 hp (oks hC (by decide)) (ce_32 hC _) (ci := 2) rfl hin tyX2_ok nmX2 (by decide) rfl rfl hw rfl rfl (Nat.le_of_ble_eq_true rfl) d _ (fun k _ h => by rw [up_ne v 5 x h]) (by rw [up_at, ce_32 hC]; rfl) k
theorem lC33 (hG : jOk Γ Λ cc own Ts rm) (hC : LC Λ) {i : Int32} (pc2 : Nat) (hp : pc + 1 = pc2) (d : decode cc pc = .ok (.caload, 1)) (k : Sm Γ Λ cs pc2 ls (.int (v (33, 0, 0) (ix i)) :: st) v ex) : Sm Γ Λ cs pc ls (.int i :: .ref (Λ.2.2.2.1 (33, 0, 0)) :: st) v (ck (inb i 80) ex) :=
  sm_cald hG (33, 0, 0) pc2 hp (oks hC (by decide)) (ce_33 hC _) d k
theorem sC33 (hG : jOk Γ Λ cc own Ts rm) (hC : LC Λ) {i x : Int32} (pc2 : Nat) (hp : pc + 1 = pc2) (d : decode cc pc = .ok (.castore, 1)) (k : Sm Γ Λ cs pc2 ls st (up v (33, 0, 0) (ix i) (vp_nar .char x)) ex) : Sm Γ Λ cs pc ls (.int x :: .int i :: .ref (Λ.2.2.2.1 (33, 0, 0)) :: st) v (ck (inb i 80) ex) :=
  sm_cast hG (33, 0, 0) pc2 hp (oks hC (by decide)) (ce_33 hC _) d _ (fun k _ h => by rw [up_ne v _ _ h]) (by rw [up_at, ce_33 hC]) k
theorem lC34 (hG : jOk Γ Λ cc own Ts rm) (hC : LC Λ) {i : Int32} (pc2 : Nat) (hp : pc + 1 = pc2) (d : decode cc pc = .ok (.iaload, 1)) (k : Sm Γ Λ cs pc2 ls (.int (v (34, 0, 0) (ix i)) :: st) v ex) : Sm Γ Λ cs pc ls (.int i :: .ref (Λ.2.2.2.1 (34, 0, 0)) :: st) v (ck (inb i 5) ex) :=
  sm_iald hG (34, 0, 0) pc2 hp (oks hC (by decide)) (ce_34 hC _) d k
theorem sC34 (hG : jOk Γ Λ cc own Ts rm) (hC : LC Λ) {i x : Int32} (pc2 : Nat) (hp : pc + 1 = pc2) (d : decode cc pc = .ok (.iastore, 1)) (k : Sm Γ Λ cs pc2 ls st (up v (34, 0, 0) (ix i) x) ex) : Sm Γ Λ cs pc ls (.int x :: .int i :: .ref (Λ.2.2.2.1 (34, 0, 0)) :: st) v (ck (inb i 5) ex) :=
  sm_iast hG (34, 0, 0) pc2 hp (oks hC (by decide)) (ce_34 hC _) d _ (fun k _ h => by rw [up_ne v _ _ h]) (by rw [up_at, ce_34 hC]) k
theorem gC35_0 (hG : jOk Γ Λ cc own Ts rm) (hC : LC Λ) {n : Nat} (pc2 : Nat) (hp : pc + 3 = pc2) (hin : ∀ w ∈ wsX30, w ∈ Ts) (hw : Cond.fieldLink own n "ChoirRegister$Lineup" "lines" "[I" ∈ Ts) (d : decode cc pc = .ok (.getfield n, 3)) (k : Sm Γ Λ cs pc2 ls (.ref (Λ.2.2.2.1 (36, 0, 0)) :: st) v ex) : Sm Γ Λ cs pc ls (.ref (Λ.2.2.2.1 (35, 0, 0)) :: st) v ex :=
  sm_get (j := 0) hG (35, 0, 0) pc2 hp (oks hC (by decide)) (ce_35 hC _) (ci := 3) rfl hin (by decide) rfl hw rfl d k
theorem gC35_1 (hG : jOk Γ Λ cc own Ts rm) (hC : LC Λ) {n : Nat} (pc2 : Nat) (hp : pc + 3 = pc2) (hin : ∀ w ∈ wsX30, w ∈ Ts) (hw : Cond.fieldLink own n "ChoirRegister$Lineup" "canSing" "[I" ∈ Ts) (d : decode cc pc = .ok (.getfield n, 3)) (k : Sm Γ Λ cs pc2 ls (.ref (Λ.2.2.2.1 (37, 0, 0)) :: st) v ex) : Sm Γ Λ cs pc ls (.ref (Λ.2.2.2.1 (35, 0, 0)) :: st) v ex :=
  sm_get (j := 1) hG (35, 0, 0) pc2 hp (oks hC (by decide)) (ce_35 hC _) (ci := 3) rfl hin (by decide) rfl hw rfl d k
theorem gC35_2 (hG : jOk Γ Λ cc own Ts rm) (hC : LC Λ) {n : Nat} (pc2 : Nat) (hp : pc + 3 = pc2) (hin : ∀ w ∈ wsX30, w ∈ Ts) (hw : Cond.fieldLink own n "ChoirRegister$Lineup" "open" "[I" ∈ Ts) (d : decode cc pc = .ok (.getfield n, 3)) (k : Sm Γ Λ cs pc2 ls (.ref (Λ.2.2.2.1 (38, 0, 0)) :: st) v ex) : Sm Γ Λ cs pc ls (.ref (Λ.2.2.2.1 (35, 0, 0)) :: st) v ex :=
  sm_get (j := 2) hG (35, 0, 0) pc2 hp (oks hC (by decide)) (ce_35 hC _) (ci := 3) rfl hin (by decide) rfl hw rfl d k
theorem gC35_3 (hG : jOk Γ Λ cc own Ts rm) (hC : LC Λ) {n : Nat} (pc2 : Nat) (hp : pc + 3 = pc2) (hin : ∀ w ∈ wsX30, w ∈ Ts) (hw : Cond.fieldLink own n "ChoirRegister$Lineup" "bounds" "[I" ∈ Ts) (d : decode cc pc = .ok (.getfield n, 3)) (k : Sm Γ Λ cs pc2 ls (.ref (Λ.2.2.2.1 (39, 0, 0)) :: st) v ex) : Sm Γ Λ cs pc ls (.ref (Λ.2.2.2.1 (35, 0, 0)) :: st) v ex :=
  sm_get (j := 3) hG (35, 0, 0) pc2 hp (oks hC (by decide)) (ce_35 hC _) (ci := 3) rfl hin (by decide) rfl hw rfl d k
theorem gC35_4 (hG : jOk Γ Λ cc own Ts rm) (hC : LC Λ) {n : Nat} (pc2 : Nat) (hp : pc + 3 = pc2) (hin : ∀ w ∈ wsX30, w ∈ Ts) (hw : Cond.fieldLink own n "ChoirRegister$Lineup" "descants" "[I" ∈ Ts) (d : decode cc pc = .ok (.getfield n, 3)) (k : Sm Γ Λ cs pc2 ls (.ref (Λ.2.2.2.1 (40, 0, 0)) :: st) v ex) : Sm Γ Λ cs pc ls (.ref (Λ.2.2.2.1 (35, 0, 0)) :: st) v ex :=
  sm_get (j := 4) hG (35, 0, 0) pc2 hp (oks hC (by decide)) (ce_35 hC _) (ci := 3) rfl hin (by decide) rfl hw rfl d k
theorem lC36 (hG : jOk Γ Λ cc own Ts rm) (hC : LC Λ) {i : Int32} (pc2 : Nat) (hp : pc + 1 = pc2) (d : decode cc pc = .ok (.iaload, 1)) (k : Sm Γ Λ cs pc2 ls (.int (v (36, 0, 0) (ix i)) :: st) v ex) : Sm Γ Λ cs pc ls (.int i :: .ref (Λ.2.2.2.1 (36, 0, 0)) :: st) v (ck (inb i 30) ex) :=
  sm_iald hG (36, 0, 0) pc2 hp (oks hC (by decide)) (ce_36 hC _) d k
theorem sC36 (hG : jOk Γ Λ cc own Ts rm) (hC : LC Λ) {i x : Int32} (pc2 : Nat) (hp : pc + 1 = pc2) (d : decode cc pc = .ok (.iastore, 1)) (k : Sm Γ Λ cs pc2 ls st (up v (36, 0, 0) (ix i) x) ex) : Sm Γ Λ cs pc ls (.int x :: .int i :: .ref (Λ.2.2.2.1 (36, 0, 0)) :: st) v (ck (inb i 30) ex) :=
  sm_iast hG (36, 0, 0) pc2 hp (oks hC (by decide)) (ce_36 hC _) d _ (fun k _ h => by rw [up_ne v _ _ h]) (by rw [up_at, ce_36 hC]) k
theorem lC37 (hG : jOk Γ Λ cc own Ts rm) (hC : LC Λ) {i : Int32} (pc2 : Nat) (hp : pc + 1 = pc2) (d : decode cc pc = .ok (.iaload, 1)) (k : Sm Γ Λ cs pc2 ls (.int (v (37, 0, 0) (ix i)) :: st) v ex) : Sm Γ Λ cs pc ls (.int i :: .ref (Λ.2.2.2.1 (37, 0, 0)) :: st) v (ck (inb i 30) ex) :=
  sm_iald hG (37, 0, 0) pc2 hp (oks hC (by decide)) (ce_37 hC _) d k
theorem sC37 (hG : jOk Γ Λ cc own Ts rm) (hC : LC Λ) {i x : Int32} (pc2 : Nat) (hp : pc + 1 = pc2) (d : decode cc pc = .ok (.iastore, 1)) (k : Sm Γ Λ cs pc2 ls st (up v (37, 0, 0) (ix i) x) ex) : Sm Γ Λ cs pc ls (.int x :: .int i :: .ref (Λ.2.2.2.1 (37, 0, 0)) :: st) v (ck (inb i 30) ex) :=
  sm_iast hG (37, 0, 0) pc2 hp (oks hC (by decide)) (ce_37 hC _) d _ (fun k _ h => by rw [up_ne v _ _ h]) (by rw [up_at, ce_37 hC]) k
theorem lC38 (hG : jOk Γ Λ cc own Ts rm) (hC : LC Λ) {i : Int32} (pc2 : Nat) (hp : pc + 1 = pc2) (d : decode cc pc = .ok (.iaload, 1)) (k : Sm Γ Λ cs pc2 ls (.int (v (38, 0, 0) (ix i)) :: st) v ex) : Sm Γ Λ cs pc ls (.int i :: .ref (Λ.2.2.2.1 (38, 0, 0)) :: st) v (ck (inb i 4) ex) :=
  sm_iald hG (38, 0, 0) pc2 hp (oks hC (by decide)) (ce_38 hC _) d k
theorem sC38 (hG : jOk Γ Λ cc own Ts rm) (hC : LC Λ) {i x : Int32} (pc2 : Nat) (hp : pc + 1 = pc2) (d : decode cc pc = .ok (.iastore, 1)) (k : Sm Γ Λ cs pc2 ls st (up v (38, 0, 0) (ix i) x) ex) : Sm Γ Λ cs pc ls (.int x :: .int i :: .ref (Λ.2.2.2.1 (38, 0, 0)) :: st) v (ck (inb i 4) ex) :=
  sm_iast hG (38, 0, 0) pc2 hp (oks hC (by decide)) (ce_38 hC _) d _ (fun k _ h => by rw [up_ne v _ _ h]) (by rw [up_at, ce_38 hC]) k
theorem lC39 (hG : jOk Γ Λ cc own Ts rm) (hC : LC Λ) {i : Int32} (pc2 : Nat) (hp : pc + 1 = pc2) (d : decode cc pc = .ok (.iaload, 1)) (k : Sm Γ Λ cs pc2 ls (.int (v (39, 0, 0) (ix i)) :: st) v ex) : Sm Γ Λ cs pc ls (.int i :: .ref (Λ.2.2.2.1 (39, 0, 0)) :: st) v (ck (inb i 16) ex) :=
  sm_iald hG (39, 0, 0) pc2 hp (oks hC (by decide)) (ce_39 hC _) d k
theorem sC39 (hG : jOk Γ Λ cc own Ts rm) (hC : LC Λ) {i x : Int32} (pc2 : Nat) (hp : pc + 1 = pc2) (d : decode cc pc = .ok (.iastore, 1)) (k : Sm Γ Λ cs pc2 ls st (up v (39, 0, 0) (ix i) x) ex) : Sm Γ Λ cs pc ls (.int x :: .int i :: .ref (Λ.2.2.2.1 (39, 0, 0)) :: st) v (ck (inb i 16) ex) :=
  sm_iast hG (39, 0, 0) pc2 hp (oks hC (by decide)) (ce_39 hC _) d _ (fun k _ h => by rw [up_ne v _ _ h]) (by rw [up_at, ce_39 hC]) k
theorem lC40 (hG : jOk Γ Λ cc own Ts rm) (hC : LC Λ) {i : Int32} (pc2 : Nat) (hp : pc + 1 = pc2) (d : decode cc pc = .ok (.iaload, 1)) (k : Sm Γ Λ cs pc2 ls (.int (v (40, 0, 0) (ix i)) :: st) v ex) : Sm Γ Λ cs pc ls (.int i :: .ref (Λ.2.2.2.1 (40, 0, 0)) :: st) v (ck (inb i 30) ex) :=
  sm_iald hG (40, 0, 0) pc2 hp (oks hC (by decide)) (ce_40 hC _) d k
theorem sC40 (hG : jOk Γ Λ cc own Ts rm) (hC : LC Λ) {i x : Int32} (pc2 : Nat) (hp : pc + 1 = pc2) (d : decode cc pc = .ok (.iastore, 1)) (k : Sm Γ Λ cs pc2 ls st (up v (40, 0, 0) (ix i) x) ex) : Sm Γ Λ cs pc ls (.int x :: .int i :: .ref (Λ.2.2.2.1 (40, 0, 0)) :: st) v (ck (inb i 30) ex) :=
  sm_iast hG (40, 0, 0) pc2 hp (oks hC (by decide)) (ce_40 hC _) d _ (fun k _ h => by rw [up_ne v _ _ h]) (by rw [up_at, ce_40 hC]) k
theorem lC31 (hG : jOk Γ Λ cc own Ts rm) (hC : LC Λ) {i : Int32} (pc2 : Nat) (hp : pc + 1 = pc2) (d : decode cc pc = .ok (.aaload, 1)) (k : ix (v (31, 0, 0) (ix i)) < 7 → Sm Γ Λ cs pc2 ls (.ref (Λ.2.2.2.1 (1, ix (v (31, 0, 0) (ix i)), 0)) :: st) v ex) : Sm Γ Λ cs pc ls (.int i :: .ref (Λ.2.2.2.1 (31, 0, 0)) :: st) v (ck (inb i 4) (ck (decide (ix (v (31, 0, 0) (ix i)) < 7)) ex)) := by
  intro r hr
  have h7 := of_decide_eq_true (ck_s (ck_s hr).2).1
  refine sm_aald (t0 := 3) hG rfl rfl (31, 0, 0) pc2 hp (oks hC (by decide)) (ce_31 hC _) rfl d (k h7) r ?_
  rw [decide_eq_true h7] at hr
  exact hr
theorem sC31 (hG : jOk Γ Λ cc own Ts rm) (hC : LC Λ) {i x : Int32} (ho : ix x < 7) (pc2 : Nat) (hp : pc + 1 = pc2) (d : decode cc pc = .ok (.aastore, 1)) (k : Sm Γ Λ cs pc2 ls st (up v (31, 0, 0) (ix i) x) ex) : Sm Γ Λ cs pc ls (.ref (Λ.2.2.2.1 (1, ix x, 0)) :: .int i :: .ref (Λ.2.2.2.1 (31, 0, 0)) :: st) v (ck (inb i 4) ex) := by
  refine sm_aast (t0 := 3) (q := (RX0, TX0, 10)) hG rfl (31, 0, 0) (1, ix x, 0) pc2 hp (oks hC (by decide)) (okb hC (by decide) ho) (ce_31 hC _) (ce_1 hC _) rfl d _ (fun k _ h => by rw [up_ne v _ _ h]) ?_ k
  rw [up_at, ce_31 hC]
  congr 9
  funext j
  by_cases e : j = ix i
  · subst e
    simp [upd, va_up]
  · simp [upd, va_up, e]
end LCr
abbrev mM : Type := Nat → Nat → Int32
def ceM (g : Nat → ClassId) (ad : Nat → Nat) : Nat → (Nat → Int32) → va_E := fun z a => match z with
  | 0 => .inr (7, [.ref (ad 1), .ref (ad 2), .int (a 2), .ref (ad 3), .int (a 4), .ref (ad 4), .ref (ad 5), .ref (ad 6), .ref (ad 7), .ref (ad 8), .ref (ad 9), .int (a 11), .int (a 12), .int (a 13), .ref (ad 10), .int (a 15)])
  | 1 => .inl (g 0, 1483, .inl a)
  | 2 => .inl (g 0, 5932, .inl a)
  | 3 => .inl (g 0, 1483, .inl a)
  | 4 => .inl (g 0, 1483, .inl a)
  | 5 => .inl (g 0, 30, .inl a)
  | 6 => .inl (g 0, 4, .inl a)
  | 7 => .inl (g 0, 16, .inl a)
  | 8 => .inl (g 0, 30, .inl a)
  | 9 => .inl (g 0, 80, .inl a)
  | 10 => .inl (g 0, 168, .inl a)
  | _ => .inl (g 0, 0, .inl a)
def LM (Λ : jL Nat) : Prop := jLok Λ ∧ (∀ k, Λ.2.2.1 k ↔ k < 11) ∧ Λ.2.2.2.2.1 = ceM Λ.2.1 Λ.2.2.2.1
section LMr
variable {ρ : Type} {Γ : jG ρ} {Λ : jL Nat} {cs : Nat × Nat} {pc : Nat} {ls : List (Nat × Value)} {st : List Value} {v : mM} {ex : Option ρ} {cc : ByteArray} {own : String} {Ts : List Cond} {rm : Room}
/-- an int array of the reference, whichever it is -/
def isA {κ : Type} (Λ : jL κ) (k n : Nat) (key : κ) : Prop := Λ.2.2.1 key ∧ ∀ a, Λ.2.2.2.2.1 key a = .inl (Λ.2.1 k, n, .inl a)
end LMr
section LAr
variable {κ : Type} {ρ : Type} {Γ : jG ρ} {Λ : jL κ} {cs : Nat × Nat} {pc : Nat} {ls : List (Nat × Value)} {st : List Value} {v : κ → Nat → Int32} {ex : Option ρ} {cc : ByteArray} {own : String} {Ts : List Cond} {rm : Room}
theorem lA (hG : jOk Γ Λ cc own Ts rm) {n : Nat} {key : κ} (hk : isA Λ 0 n key) {i : Int32} (pc2 : Nat) (hp : pc + 1 = pc2) (d : decode cc pc = .ok (.iaload, 1)) (k : Sm Γ Λ cs pc2 ls (.int (v key (ix i)) :: st) v ex) : Sm Γ Λ cs pc ls (.int i :: .ref (Λ.2.2.2.1 key) :: st) v (ck (inb i n) ex) :=
  sm_iald hG key pc2 hp hk.1 (hk.2 _) d k
theorem sA [DecidableEq κ] (hG : jOk Γ Λ cc own Ts rm) {n : Nat} {key : κ} (hk : isA Λ 0 n key) {i x : Int32} (pc2 : Nat) (hp : pc + 1 = pc2) (d : decode cc pc = .ok (.iastore, 1)) (k : Sm Γ Λ cs pc2 ls st (up v key (ix i) x) ex) : Sm Γ Λ cs pc ls (.int x :: .int i :: .ref (Λ.2.2.2.1 key) :: st) v (ck (inb i n) ex) :=
  sm_iast hG key pc2 hp hk.1 (hk.2 _) d _ (fun k _ h => by rw [up_ne v _ _ h]) (by rw [up_at, hk.2]) k
theorem cA [DecidableEq κ] (hG : jOk Γ Λ cc own Ts rm) {idx n0 n1 : Nat} {sp dp n : Int32} {key0 key : κ} (h0 : isA Λ 0 n0 key0) (h1 : isA Λ 0 n1 key) (pc2 : Nat) (hp : pc + 3 = pc2) (hw1 : Cond.methodLink own idx arraycopyName ∈ Ts) (hw2 : Cond.native arraycopyName ∈ Ts) (hw3 : Cond.static arraycopyName ∈ Ts) (hw4 : Cond.initialized "java/lang/System" ∈ Ts) (hf : 1 ≤ rm.frames) (hlo : (st.map fun v => v.category).sum + (nativeFrameWords "java/lang/System" "arraycopy" 5 + 11) ≤ rm.locals) (d : decode cc pc = .ok (.invokestatic idx, 3)) (k : Sm Γ Λ cs pc2 ls st (upA v key (va_cpy (v key0) (v key) (ix sp) (ix dp) (ix n))) ex) : Sm Γ Λ cs pc ls (.int n :: .int dp :: .ref (Λ.2.2.2.1 key) :: .int sp :: .ref (Λ.2.2.2.1 key0) :: st) v (ck (cpo sp dp n n0 n1) ex) :=
  sm_copy hG key0 key pc2 hp h0.1 h1.1 (h0.2 _) (h1.2 _) rfl hw1 hw2 hw3 hw4 hf hlo d _ (fun k _ h => by rw [upA_ne v _ h]) (by rw [upA_at, h1.2]) k
/-- the length of an array -/
theorem nA (hG : jOk Γ Λ cc own Ts rm) {n : Nat} {key : κ} (hk : isA Λ 0 n key) {x : Int32} (hx : Int32.ofNat n = x) (pc2 : Nat) (hp : pc + 1 = pc2) (d : decode cc pc = .ok (.arraylength, 1)) (k : Sm Γ Λ cs pc2 ls (.int x :: st) v ex) : Sm Γ Λ cs pc ls (.ref (Λ.2.2.2.1 key) :: st) v ex := by
  subst hp; intro r hr a H locs ha hR hS
  exact va_alen hG.1 hG.2.1 hG.2.2.2.2.2.1 (rp_one hR hk.1 (hk.2 _)) 0 0 rfl rfl hx d (k r hr a H locs ha hR hS)
theorem sm_jn {X : Type} {t : X} {b : X → Option ρ} (P : X → Prop) (h1 : P t) (h2 : ∀ j, P j → Sm Γ Λ cs pc ls st v (b j)) : Sm Γ Λ cs pc ls st v (jn t b) := h2 t h1
end LAr
section LCa
variable {Λ : jL kC}
theorem ic_3 (hC : LC Λ) {o : Nat} (ho : o < 7) : isA Λ 0 30 (3, o, 0) := ⟨okb hC (by decide) ho, ce_3 hC⟩
theorem ic_4 (hC : LC Λ) {o : Nat} (ho : o < 7) : isA Λ 0 30 (4, o, 0) := ⟨okb hC (by decide) ho, ce_4 hC⟩
theorem ic_5 (hC : LC Λ) {o : Nat} (ho : o < 7) : isA Λ 0 30 (5, o, 0) := ⟨okb hC (by decide) ho, ce_5 hC⟩
theorem ic_6 (hC : LC Λ) {o : Nat} (ho : o < 7) : isA Λ 0 30 (6, o, 0) := ⟨okb hC (by decide) ho, ce_6 hC⟩
theorem ic_7 (hC : LC Λ) {o : Nat} (ho : o < 7) : isA Λ 0 30 (7, o, 0) := ⟨okb hC (by decide) ho, ce_7 hC⟩
theorem ic_8 (hC : LC Λ) {o : Nat} (ho : o < 7) : isA Λ 0 30 (8, o, 0) := ⟨okb hC (by decide) ho, ce_8 hC⟩
theorem ic_9 (hC : LC Λ) {o : Nat} (ho : o < 7) : isA Λ 0 30 (9, o, 0) := ⟨okb hC (by decide) ho, ce_9 hC⟩
theorem ic_10 (hC : LC Λ) {o : Nat} (ho : o < 7) : isA Λ 0 30 (10, o, 0) := ⟨okb hC (by decide) ho, ce_10 hC⟩
theorem ic_11 (hC : LC Λ) {o : Nat} (ho : o < 7) : isA Λ 0 30 (11, o, 0) := ⟨okb hC (by decide) ho, ce_11 hC⟩
theorem ic_12 (hC : LC Λ) {o : Nat} (ho : o < 7) : isA Λ 0 30 (12, o, 0) := ⟨okb hC (by decide) ho, ce_12 hC⟩
theorem ic_13 (hC : LC Λ) {o : Nat} (ho : o < 7) : isA Λ 0 30 (13, o, 0) := ⟨okb hC (by decide) ho, ce_13 hC⟩
theorem ic_15 (hC : LC Λ) {o : Nat} (ho : o < 7) : isA Λ 0 60 (15, o, 0) := ⟨okb hC (by decide) ho, ce_15 hC⟩
theorem ic_16 (hC : LC Λ) {o : Nat} (ho : o < 7) : isA Λ 0 60 (16, o, 0) := ⟨okb hC (by decide) ho, ce_16 hC⟩
theorem ic_17 (hC : LC Λ) {o : Nat} (ho : o < 7) : isA Λ 0 60 (17, o, 0) := ⟨okb hC (by decide) ho, ce_17 hC⟩
theorem ic_19 (hC : LC Λ) {o : Nat} (ho : o < 7) : isA Λ 0 20 (19, o, 0) := ⟨okb hC (by decide) ho, ce_19 hC⟩
theorem ic_20 (hC : LC Λ) {o : Nat} (ho : o < 7) : isA Λ 0 20 (20, o, 0) := ⟨okb hC (by decide) ho, ce_20 hC⟩
theorem ic_21 (hC : LC Λ) {o : Nat} (ho : o < 7) : isA Λ 0 20 (21, o, 0) := ⟨okb hC (by decide) ho, ce_21 hC⟩
theorem ic_26 (hC : LC Λ) {o f : Nat} (ho : o < 7) (hf : f < 20) : isA Λ 0 4 (26, o, f) := ⟨okr hC (by decide) ho hf, ce_26 hC⟩
theorem ic_27 (hC : LC Λ) {o f : Nat} (ho : o < 7) (hf : f < 20) : isA Λ 0 4 (27, o, f) := ⟨okr hC (by decide) ho hf, ce_27 hC⟩
theorem ic_28 (hC : LC Λ) {o f : Nat} (ho : o < 7) (hf : f < 20) : isA Λ 0 4 (28, o, f) := ⟨okr hC (by decide) ho hf, ce_28 hC⟩
theorem ic_29 (hC : LC Λ) {o f : Nat} (ho : o < 7) (hf : f < 20) : isA Λ 0 30 (29, o, f) := ⟨okr hC (by decide) ho hf, ce_29 hC⟩
theorem ic_30 (hC : LC Λ) {o : Nat} (ho : o < 7) : isA Λ 0 5 (30, o, 0) := ⟨okb hC (by decide) ho, ce_30 hC⟩
theorem ic_34 (hC : LC Λ) : isA Λ 0 5 (34, 0, 0) := ⟨oks hC (by decide), ce_34 hC⟩
theorem ic_36 (hC : LC Λ) : isA Λ 0 30 (36, 0, 0) := ⟨oks hC (by decide), ce_36 hC⟩
theorem ic_37 (hC : LC Λ) : isA Λ 0 30 (37, 0, 0) := ⟨oks hC (by decide), ce_37 hC⟩
theorem ic_38 (hC : LC Λ) : isA Λ 0 4 (38, 0, 0) := ⟨oks hC (by decide), ce_38 hC⟩
theorem ic_39 (hC : LC Λ) : isA Λ 0 16 (39, 0, 0) := ⟨oks hC (by decide), ce_39 hC⟩
theorem ic_40 (hC : LC Λ) : isA Λ 0 30 (40, 0, 0) := ⟨oks hC (by decide), ce_40 hC⟩
end LCa
