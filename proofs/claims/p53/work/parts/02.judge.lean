/-! THE JUDGEMENT: a frame at pc, over a world whose cells are told by keys, does what an expression over the world's numbers says. -/
abbrev jE : Type := Program × Launch × Env × Room × State × MethodId × Array Value × List Frame × Method × Code
abbrev jL (κ : Type) : Type := va_G × (Nat → ClassId) × (κ → Prop) × (κ → Nat) × (κ → (Nat → Int32) → va_E) × (Nat → Prop) × Nat × (State → Heap → Prop)
abbrev jG (ρ : Type) : Type := jE × Nat × (ρ → State → Prop)
abbrev ix (i : Int32) : Nat := i.toNatClampNeg
/-- the array classes' places -/
def jtys (g : Nat → ClassId) : List (ClassId × FieldType) := [(g 0, .int), (g 1, .char), (g 2, .array .int), (g 3, .object "ChoirRegister$Book"), (g 4, .long)]
section JD
variable {κ : Type}
def Rp (Λ : jL κ) (v : κ → Nat → Int32) (H : Heap) : Prop := ∀ k, Λ.2.2.1 k → va_at Λ.1 vwCl (Λ.2.2.2.1 k, Λ.2.2.2.2.1 k (v k)) H
/-- the keys are finitely many, their cells apart and free to write -/
def jLok (Λ : jL κ) : Prop := (∃ ks : List κ, ∀ k, Λ.2.2.1 k ↔ k ∈ ks) ∧ (∀ a b, Λ.2.2.1 a → Λ.2.2.1 b → Λ.2.2.2.1 a = Λ.2.2.2.1 b → a = b) ∧ (∀ k, Λ.2.2.1 k → Λ.2.2.2.2.2.1 (Λ.2.2.2.1 k)) ∧ (∀ q, Λ.2.2.2.2.2.2.1 ≤ q → Λ.2.2.2.2.2.1 q) ∧
  ∀ (u U : State) (H H1 : Heap), u.WarmedH U.vm → Λ.2.2.2.2.2.2.2 u H → H.size ≤ H1.size → (∀ q : Nat, q < H.size → ¬ Λ.2.2.2.2.2.1 q → H1[q]? = H[q]?) → Λ.2.2.2.2.2.2.2 U H1
def St (Λ : jL κ) (v : κ → Nat → Int32) (U : State) : Prop := Λ.2.2.2.2.2.2.1 ≤ U.heap.size ∧ Rp Λ v U.heap ∧ va_K Λ.1 vwCl (jtys Λ.2.1) U ∧ Λ.2.2.2.2.2.2.2 U U.heap
/-- a contract: from the world v the method gives ov and leaves the world v' -/
def Ct (l : Launch) (y : MethodName) (ws : List Cond) (rm : Room) (Λ : jL κ) (args : List Value) (v : κ → Nat → Int32) (ov : Option Value) (v' : κ → Nat → Int32) : Prop :=
  Met l y ws rm (va_Pc args (St Λ v)) (fun _ st o t => o = .returned ov ∧ Rp Λ v' t.heap ∧ va_F Λ.2.2.2.2.2.1 st t) rm.cells rm.slots Λ.2.2.2.2.2.1
variable {ρ : Type}
def Sm (Γ : jG ρ) (Λ : jL κ) (cs : Nat × Nat) (pc : Nat) (ls : List (Nat × Value)) (st : List Value) (v : κ → Nat → Int32) (ex : Option ρ) : Prop :=
  ∀ r, ex = some r → ∀ (a : Array Slot) (H : Heap) (locs : List Loc), lv_has a Γ.2.1 ls → Rp Λ v H → va_S Λ.2.2.2.2.2.1 Γ.1.2.2.2.2.1.heap H locs →
    W Γ.1.1 Γ.1.2.1 Γ.1.2.2.1 Γ.1.2.2.2.1 Γ.1.2.2.2.2.1 Γ.1.2.2.2.2.2.1 Γ.1.2.2.2.2.2.2.1 Γ.1.2.2.2.2.2.2.2.1 Γ.1.2.2.2.2.2.2.2.2.1 Γ.1.2.2.2.2.2.2.2.2.2 H locs cs.1 cs.2 (Γ.2.2 r) (F0 Γ.1.2.2.2.2.2.1 pc a st)
def jOk (Γ : jG ρ) (Λ : jL κ) (cc : ByteArray) (own : String) (Ts : List Cond) (rm : Room) : Prop :=
  Γ.1.1.tables.exec = Jvm.exec ∧ Γ.1.2.2.2.2.2.2.2.2.2.code = cc ∧ Γ.1.2.2.2.2.2.2.2.2.2.maxLocals = Γ.2.1 ∧ Γ.1.2.2.2.2.1.vm.findClass own = some Γ.1.2.2.2.2.2.1.cls ∧ (∀ w ∈ Ts, w.before Γ.1.2.2.2.2.2.2.1 Γ.1.2.2.2.2.1 = true) ∧
  va_K Λ.1 vwCl (jtys Λ.2.1) Γ.1.2.2.2.2.1 ∧ jLok Λ ∧ Γ.1.2.2.2.1 = rm ∧ Λ.2.2.2.2.2.2.1 ≤ Γ.1.2.2.2.2.1.heap.size ∧ Λ.2.2.2.2.2.2.2 Γ.1.2.2.2.2.1 Γ.1.2.2.2.2.1.heap
end JD
def ck {ρ : Type} (b : Bool) (e : Option ρ) : Option ρ := match b with
  | true => e
  | false => none
theorem ck_t {ρ : Type} (e : Option ρ) : ck true e = e := rfl
theorem ck_s {ρ : Type} {b : Bool} {e : Option ρ} {r : ρ} (h : ck b e = some r) : b = true ∧ e = some r := by
  cases b
  · cases h
  · exact ⟨rfl, h⟩
def inb (i : Int32) (n : Nat) : Bool := decide (0 ≤ i.toInt ∧ i.toInt < n)
theorem inb_in {i : Int32} {n : Nat} (h : inb i n = true) : vp_in i n := vp_in_iff.mpr (by simpa [inb] using h)
/-- a loop -/
def lp {X : Type} (bot : X) (F : X → X) : Nat → X
  | 0 => bot
  | n + 1 => F (lp bot F n)
theorem lp_ind {X : Type} (P : X → Prop) {bot : X} {F : X → X} (h0 : P bot) (hs : ∀ self, P self → P (F self)) : ∀ n, P (lp bot F n)
  | 0 => h0
  | n + 1 => hs _ (lp_ind P h0 hs n)
/-- a join -/
def jn {X : Type} {ρ : Type} (t : X) (b : X → Option ρ) : Option ρ := b t
section JW
variable {κ : Type} {Λ : jL κ} {v v' : κ → Nat → Int32} {H H1 : Heap}
def jws (Λ : jL κ) (ks : List κ) (v : κ → Nat → Int32) : va_W := ks.map fun k => (Λ.2.2.2.1 k, Λ.2.2.2.2.1 k (v k))
theorem jws_get {ks : List κ} {i : Nat} {q : Nat × va_E} (h : (jws Λ ks v)[i]? = some q) : ∃ k, ks[i]? = some k ∧ q = (Λ.2.2.2.1 k, Λ.2.2.2.2.1 k (v k)) := by
  unfold jws at h
  rw [List.getElem?_map] at h
  cases hk : ks[i]? with
  | none => rw [hk] at h; cases h
  | some k => rw [hk] at h; exact ⟨k, rfl, (Option.some.inj h).symm⟩
theorem nodup_of {ks : List κ} : ∃ ks' : List κ, ks'.Nodup ∧ ∀ k, k ∈ ks' ↔ k ∈ ks := by
  induction ks with
  | nil => exact ⟨[], List.nodup_nil, fun k => Iff.rfl⟩
  | cons a l ih =>
    obtain ⟨l', h1, h2⟩ := ih
    by_cases h : a ∈ l'
    · refine ⟨l', h1, fun k => ?_⟩
      rw [h2 k, List.mem_cons]
      refine ⟨Or.inr, fun q => q.elim (fun e => by rw [e]; exact (h2 a).mp h) id⟩
    · refine ⟨a :: l', List.nodup_cons.mpr ⟨h, h1⟩, fun k => ?_⟩
      rw [List.mem_cons, List.mem_cons, h2 k]
theorem nd_inj {α : Type} : ∀ {l : List α}, l.Nodup → ∀ {i j : Nat} {x : α}, l[i]? = some x → l[j]? = some x → i = j
  | [], _, i, j, x, h, _ => by simp at h
  | a :: l, hn, i, j, x, hi, hj => by
    obtain ⟨h1, h2⟩ := List.nodup_cons.mp hn
    match i, j with
    | 0, 0 => rfl
    | 0, j + 1 => exact absurd (List.mem_of_getElem? (by simpa using hj)) (by simp at hi; rw [← hi]; exact h1)
    | i + 1, 0 => exact absurd (List.mem_of_getElem? (by simpa using hi)) (by simp at hj; rw [← hj]; exact h1)
    | i + 1, j + 1 => exact congrArg (· + 1) (nd_inj (x := x) h2 (by simpa using hi) (by simpa using hj))
/-- the world as a list -/
theorem rp_list (hΛ : jLok Λ) (hR : Rp Λ v H) {k0 : κ} (hk : Λ.2.2.1 k0) : ∃ (ks : List κ) (q0 : Nat), va_P Λ.1 vwCl (jws Λ ks v) H ∧ va_D Λ.2.2.2.2.2.1 (jws Λ ks v) ∧ (jws Λ ks v)[q0]? = some (Λ.2.2.2.1 k0, Λ.2.2.2.2.1 k0 (v k0)) ∧
    (∀ k1, Λ.2.2.1 k1 → ∃ q1 : Nat, (jws Λ ks v)[q1]? = some (Λ.2.2.2.1 k1, Λ.2.2.2.2.1 k1 (v k1))) ∧
    ∀ (v' : κ → Nat → Int32) (H1 : Heap), (∀ k, Λ.2.2.1 k → k ≠ k0 → Λ.2.2.2.2.1 k (v' k) = Λ.2.2.2.2.1 k (v k)) → va_P Λ.1 vwCl ((jws Λ ks v).set q0 (Λ.2.2.2.1 k0, Λ.2.2.2.2.1 k0 (v' k0))) H1 → Rp Λ v' H1 := by
  obtain ⟨⟨ks0, hks0⟩, hinj, hA, -, -⟩ := hΛ
  obtain ⟨ks, hnd, hks1⟩ := nodup_of (ks := ks0)
  have hks : ∀ k, Λ.2.2.1 k ↔ k ∈ ks := fun k => (hks0 k).trans (hks1 k).symm
  have hget : ∀ k1, Λ.2.2.1 k1 → ∃ q1 : Nat, ks[q1]? = some k1 ∧ (jws Λ ks v)[q1]? = some (Λ.2.2.2.1 k1, Λ.2.2.2.2.1 k1 (v k1)) := fun k1 h1 => by
    obtain ⟨q1, h2⟩ := List.getElem?_of_mem ((hks k1).mp h1)
    exact ⟨q1, h2, by unfold jws; rw [List.getElem?_map, h2]; rfl⟩
  obtain ⟨q0, hq0, hq0'⟩ := hget k0 hk
  refine ⟨ks, q0, fun i q h => ?_, ⟨fun i j a b h1 h2 h3 => ?_, fun i q h => ?_⟩, hq0', fun k1 h1 => ?_, fun v' H1 hv hP k hok => ?_⟩
  · obtain ⟨k, h1, rfl⟩ := jws_get h
    exact hR k ((hks k).mpr (List.mem_of_getElem? h1))
  · obtain ⟨k, g1, rfl⟩ := jws_get h1
    obtain ⟨k', g2, rfl⟩ := jws_get h2
    have e := hinj k k' ((hks k).mpr (List.mem_of_getElem? g1)) ((hks k').mpr (List.mem_of_getElem? g2)) h3
    subst e
    exact nd_inj hnd g1 g2
  · obtain ⟨k, g1, rfl⟩ := jws_get h
    exact hA k ((hks k).mpr (List.mem_of_getElem? g1))
  · obtain ⟨q1, -, h2⟩ := hget k1 h1
    exact ⟨q1, h2⟩
  · obtain ⟨q1, g1, g2⟩ := hget k hok
    have hlt : q1 < (jws Λ ks v).length := (List.getElem?_eq_some_iff.mp g2).1
    by_cases e : q1 = q0
    · subst e
      have e2 : k = k0 := Option.some.inj (g1.symm.trans hq0)
      subst e2
      exact hP q1 (Λ.2.2.2.1 k, Λ.2.2.2.2.1 k (v' k)) (by rw [List.getElem?_set_self hlt])
    · have hne : k ≠ k0 := fun e2 => e (by subst e2; exact nd_inj hnd g1 hq0)
      rw [hv k hok hne]
      exact hP q1 _ (by rw [List.getElem?_set_ne (Ne.symm e)]; exact g2)
theorem rp_one (hR : Rp Λ v H) {k : κ} (hk : Λ.2.2.1 k) {e : va_E} (he : Λ.2.2.2.2.1 k (v k) = e) : va_P Λ.1 vwCl [(Λ.2.2.2.1 k, e)] H := by
  intro i q h
  match i, h with
  | 0, h =>
    cases h
    rw [← he]
    exact hR k hk
  | i + 1, h => simp at h
end JW
theorem inb_ix {i : Int32} {n : Nat} (h : inb i n = true) : ix i < n := by
  have h2 : 0 ≤ i.toInt ∧ i.toInt < n := by simpa [inb] using h
  show i.toInt.toNat < n
  omega
/-- a name -/
def lt {X ρ : Type} (x : X) (f : X → Option ρ) : Option ρ := f x
/-- a switch over lo, lo + 1 .. -/
def swt {ρ : Type} (x : Int32) (lo : Int) (es : List (Option ρ)) (d : Option ρ) : Option ρ := if x.toInt < lo then d else es.getD (x.toInt - lo).toNat d
