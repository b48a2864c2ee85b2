/-! NUMBERS PACKED: a memory as rows of naturals, forty bits a cell, 0 for a cell of which nothing is known -/
abbrev MG : Type := List (List Nat)
noncomputable def nth0 {α : Type} (d : α) (l : List α) : Nat → α := List.rec (motive := fun _ => Nat → α) (fun _ => d) (fun a _ ih i => Nat.rec (motive := fun _ => α) a (fun n _ => ih n) i) l
noncomputable def lsk {α β : Type} (l : List α) : Nat → α → (List α → β) → β := List.rec (motive := fun _ => Nat → α → (List α → β) → β) (fun _ _ k => k []) (fun a t ih i x k => Nat.rec (motive := fun _ => β) (k (x :: t)) (fun n _ => ih n x (fun l' => k (a :: l'))) i) l
noncomputable def gck {α : Type} (b : Bool) (e : Option α) : Option α := Bool.rec (motive := fun _ => Option α) none e b
noncomputable def gif {α : Type} (b : Bool) (x y : α) : α := Bool.rec (motive := fun _ => α) y x b
noncomputable def gsq {α : Type} (n : Nat) (k : Nat → α) : α := Nat.rec (motive := fun _ => α) (k 0) (fun m _ => k m) (Nat.succ n)
noncomputable def gbd {α β : Type} (F : Option α) (f : α → Option β) : Option β := Option.rec (motive := fun _ => Option β) none f F
noncomputable def gtb (F : Option (Nat × Nat × MG)) (f : Nat → MG → Option (Nat × Nat × MG)) : Option (Nat × Nat × MG) := gbd F fun q => Nat.rec (motive := fun _ => Option (Nat × Nat × MG)) (f q.1 q.2.2) (fun _ _ => some (0, q.2.1, q.2.2)) q.2.1
noncomputable def gnn (F : Option (Nat × Nat × MG)) : Option (Nat × MG) := gbd F fun q => Nat.rec (motive := fun _ => Option (Nat × MG)) (some (q.1, q.2.2)) (fun _ _ => none) q.2.1
noncomputable def glp {α : Type} (bot : α) (F : α → α) (n : Nat) : α := Nat.rec (motive := fun _ => α) bot (fun _ ih => F ih) n
def gjn {α β : Type} (t : α) (b : α → Option β) : Option β := b t
def dig (a p : Nat) : Nat := Nat.mod (Nat.shiftRight a (Nat.mul 40 p)) 1099511627776
def put (a p y : Nat) : Nat := Nat.xor a (Nat.shiftLeft (Nat.xor (dig a p) (Nat.succ (Nat.mod y 4294967296))) (Nat.mul 40 p))
def blk (a p c q n : Nat) : Nat := Nat.xor a (Nat.shiftLeft (Nat.xor (Nat.mod (Nat.shiftRight a (Nat.mul 40 p)) (Nat.pow 2 (Nat.mul 40 n))) (Nat.mod (Nat.shiftRight c (Nat.mul 40 q)) (Nat.pow 2 (Nat.mul 40 n)))) (Nat.mul 40 p))
noncomputable def grd {α : Type} (G : MG) (b s p : Nat) (k : Nat → Option α) : Option α := Nat.rec (motive := fun _ => Option α) none (fun d _ => k d) (dig (nth0 0 (nth0 [] G b) s) p)
noncomputable def gwr {α : Type} (G : MG) (b s p y : Nat) (k : MG → Option α) : Option α := gsq (put (nth0 0 (nth0 [] G b) s) p y) fun a => lsk (nth0 [] G b) s a fun r => lsk G b r k
noncomputable def gcp {α : Type} (G : MG) (b s p b2 s2 p2 n : Nat) (k : MG → Option α) : Option α := gsq (blk (nth0 0 (nth0 [] G b) s) p (nth0 0 (nth0 [] G b2) s2) p2 n) fun a => lsk (nth0 [] G b) s a fun r => lsk G b r k
noncomputable def gfil (y p a : Nat) (L : Nat) : Nat := Nat.rec (motive := fun _ => Nat) a (fun i ih => put ih (Nat.add p i) y) L
noncomputable def gfill {α : Type} (L : Nat) (G : MG) (b s p y : Nat) (k : MG → Option α) : Option α := gsq (gfil y p (nth0 0 (nth0 [] G b) s) L) fun a => lsk (nth0 [] G b) s a fun r => lsk G b r k
def gadd (a b : Nat) : Nat := Nat.mod (Nat.add a b) 4294967296
def gsub (a b : Nat) : Nat := Nat.mod (Nat.add a (Nat.mul 4294967295 b)) 4294967296
def gmul (a b : Nat) : Nat := Nat.mod (Nat.mul a b) 4294967296
def gneg (a : Nat) : Nat := Nat.mod (Nat.mul 4294967295 a) 4294967296
def gand (a b : Nat) : Nat := Nat.land a b
def gor (a b : Nat) : Nat := Nat.lor a b
def gbit (a : Nat) : Nat := Nat.pow 2 a
def gdiv (a d : Nat) : Nat := Nat.div a d
def gch (a : Nat) : Nat := Nat.mod a 65536
def gcle (a b : Nat) : Bool := Nat.ble (Nat.mod (Nat.add a 2147483648) 4294967296) (Nat.mod (Nat.add b 2147483648) 4294967296)
def gclt (a b : Nat) : Bool := Nat.ble (Nat.succ (Nat.mod (Nat.add a 2147483648) 4294967296)) (Nat.mod (Nat.add b 2147483648) 4294967296)
def gceq (a b : Nat) : Bool := Nat.beq (Nat.mod a 4294967296) (Nat.mod b 4294967296)
noncomputable def gswt {α : Type} (a : Nat) (es : List (Option α)) (d : Option α) : Option α := gif (Nat.ble (Nat.succ (Nat.mod a 4294967296)) 2147483648) (nth0 d es (Nat.mod a 4294967296)) d
noncomputable def gT_FP (a : Nat) : Nat := nth0 0 [0, 5, 7, 12, 15, 18, 19, 20] a
noncomputable def gT_LN (a : Nat) : Nat := nth0 0 [7, 90, 0, 0, 12, 1, 1, 0, 0, 0, 0, 0, 0, 1, 1, 0, 0, 1, 0, 1] a
noncomputable def gT_GN (a : Nat) : Nat := nth0 0 [70, 210, 48, 48, 17, 9999, 3, 19, 3, 6, 48, 48, 29, 9999, 9999, 29, 4, 90, 29, 99] a
def gOS : List Nat := [106, 102, 108, 110, 111, 120, 116]
noncomputable def gPS (a : Nat) : Nat := nth0 0 [106, 104, 114, 45, 98, 102, 42, 108, 46, 61, 114, 45, 110, 58, 45, 111, 62, 43, 120, 116] a
noncomputable def gsix (a : Nat) (l : List Nat) : Nat → Nat := List.rec (motive := fun _ => Nat → Nat) (fun _ => 4294967295) (fun b _ ih k => gif (gceq b a) k (ih (Nat.succ k))) l
theorem nth0_e {α : Type} (d : α) : ∀ (l : List α) (i : Nat), nth0 d l i = l.getD i d
  | [], i => by simp [nth0]
  | a :: t, 0 => rfl
  | a :: t, i + 1 => (nth0_e d t i).trans (by simp)
theorem lsk_e {α β : Type} : ∀ (l : List α) (i : Nat) (x : α) (k : List α → β), lsk l i x k = k (l.set i x)
  | [], i, x, k => by simp [lsk]
  | a :: t, 0, x, k => rfl
  | a :: t, i + 1, x, k => lsk_e t i x (fun l' => k (a :: l'))
theorem gsq_e {α : Type} (n : Nat) (k : Nat → α) : gsq n k = k n := rfl
theorem set_d {α : Type} (d : α) (l : List α) (i j : Nat) (x : α) : nth0 d (l.set i x) j = if i = j ∧ j < l.length then x else nth0 d l j := by
  rw [nth0_e, nth0_e, List.getD_eq_getElem?_getD, List.getD_eq_getElem?_getD, List.getElem?_set]
  by_cases h : i = j
  · subst h
    by_cases h2 : i < l.length
    · simp [h2]
    · simp [h2, List.getElem?_eq_none (Nat.not_lt.mp h2)]
  · rw [if_neg h, if_neg (fun q => h q.1)]
theorem nth0_out {α : Type} (d : α) (l : List α) (j : Nat) (h : ¬ j < l.length) : nth0 d l j = d := by
  rw [nth0_e, List.getD_eq_getElem?_getD, List.getElem?_eq_none (Nat.not_lt.mp h)]
  rfl
theorem dig_tb (a p i : Nat) : (dig a p).testBit i = (decide (i < 40) && a.testBit (40 * p + i)) := by
  show ((a >>> (40 * p)) % 2 ^ 40).testBit i = _
  rw [Nat.testBit_mod_two_pow, Nat.testBit_shiftRight]
theorem put_tb (a p y i : Nat) : (put a p y).testBit i = (a.testBit i ^^ (decide (40 * p ≤ i) && ((dig a p).testBit (i - 40 * p) ^^ (y % 4294967296 + 1).testBit (i - 40 * p)))) := by
  show (a ^^^ ((dig a p ^^^ (y % 4294967296 + 1)) <<< (40 * p))).testBit i = _
  rw [Nat.testBit_xor, Nat.testBit_shiftLeft, Nat.testBit_xor]
theorem small_tb {x i n : Nat} (h : x < 2 ^ n) (hi : n ≤ i) : x.testBit i = false := Nat.testBit_lt_two_pow (Nat.lt_of_lt_of_le h (Nat.pow_le_pow_right (by omega) hi))
theorem dig_put (a p y q : Nat) : dig (put a p y) q = if q = p then y % 4294967296 + 1 else dig a q := by
  have hy : y % 4294967296 + 1 < 2 ^ 40 := by
    have := Nat.mod_lt y (show 0 < 4294967296 by omega)
    omega
  apply Nat.eq_of_testBit_eq
  intro i
  rw [dig_tb]
  by_cases hi : i < 40
  · rw [decide_eq_true hi, Bool.true_and, put_tb]
    by_cases h : q = p
    · subst h
      rw [if_pos rfl, decide_eq_true (show 40 * q ≤ 40 * q + i by omega), Bool.true_and, show 40 * q + i - 40 * q = i by omega, dig_tb, decide_eq_true hi, Bool.true_and]
      cases a.testBit (40 * q + i) <;> simp
    · rw [if_neg h, dig_tb a q, decide_eq_true hi, Bool.true_and]
      by_cases h2 : 40 * p ≤ 40 * q + i
      · have e1 : (dig a p).testBit (40 * q + i - 40 * p) = false := by
          rw [dig_tb, decide_eq_false (show ¬ 40 * q + i - 40 * p < 40 by omega), Bool.false_and]
        rw [e1, small_tb hy (show 40 ≤ 40 * q + i - 40 * p by omega)]
        simp
      · rw [decide_eq_false h2]
        simp
  · rw [decide_eq_false hi, Bool.false_and]
    by_cases h : q = p
    · rw [if_pos h, small_tb hy (by omega)]
    · rw [if_neg h, dig_tb, decide_eq_false hi, Bool.false_and]
theorem blk_tb (a p c q n i : Nat) : (blk a p c q n).testBit i = (a.testBit i ^^ (decide (40 * p ≤ i) && ((decide (i - 40 * p < 40 * n) && a.testBit (40 * p + (i - 40 * p))) ^^ (decide (i - 40 * p < 40 * n) && c.testBit (40 * q + (i - 40 * p)))))) := by
  show (a ^^^ (((a >>> (40 * p)) % 2 ^ (40 * n) ^^^ (c >>> (40 * q)) % 2 ^ (40 * n)) <<< (40 * p))).testBit i = _
  rw [Nat.testBit_xor, Nat.testBit_shiftLeft, Nat.testBit_xor, Nat.testBit_mod_two_pow, Nat.testBit_mod_two_pow, Nat.testBit_shiftRight, Nat.testBit_shiftRight]
theorem dig_blk (a p c q n r : Nat) : dig (blk a p c q n) r = if p ≤ r ∧ r < p + n then dig c (q + (r - p)) else dig a r := by
  apply Nat.eq_of_testBit_eq
  intro i
  rw [dig_tb]
  by_cases hi : i < 40
  · rw [decide_eq_true hi, Bool.true_and, blk_tb]
    by_cases h : p ≤ r ∧ r < p + n
    · rw [if_pos h, dig_tb, decide_eq_true hi, Bool.true_and, decide_eq_true (show 40 * p ≤ 40 * r + i by omega), decide_eq_true (show 40 * r + i - 40 * p < 40 * n by omega), Bool.true_and, Bool.true_and, Bool.true_and, show 40 * p + (40 * r + i - 40 * p) = 40 * r + i by omega, show 40 * q + (40 * r + i - 40 * p) = 40 * (q + (r - p)) + i by omega]
      cases a.testBit (40 * r + i) <;> simp
    · rw [if_neg h, dig_tb, decide_eq_true hi, Bool.true_and]
      by_cases h2 : 40 * p ≤ 40 * r + i
      · rw [decide_eq_false (show ¬ 40 * r + i - 40 * p < 40 * n by omega)]
        simp
      · rw [decide_eq_false h2]
        simp
  · rw [decide_eq_false hi, Bool.false_and]
    by_cases h : p ≤ r ∧ r < p + n
    · rw [if_pos h, dig_tb, decide_eq_false hi, Bool.false_and]
    · rw [if_neg h, dig_tb, decide_eq_false hi, Bool.false_and]
theorem dig_fil (y p a : Nat) : ∀ (L q : Nat), dig (gfil y p a L) q = if p ≤ q ∧ q < p + L then y % 4294967296 + 1 else dig a q
  | 0, q => by
    rw [if_neg (by omega)]
    rfl
  | L + 1, q => by
    show dig (put (gfil y p a L) (p + L) y) q = _
    rw [dig_put, dig_fil y p a L q]
    by_cases h : q = p + L
    · rw [if_pos h, if_pos (by omega)]
    · rw [if_neg h]
      by_cases h2 : p ≤ q ∧ q < p + L
      · rw [if_pos h2, if_pos (by omega)]
      · rw [if_neg h2, if_neg (by omega)]
/-! numbers -/
theorem nI_mod (n : Nat) : nI (n % 4294967296) = nI n := by
  apply Int32.toBitVec_inj.mp
  apply BitVec.eq_of_toNat_eq
  simp [nI]
theorem nI_ti (n : Nat) : (nI n).toInt = ((n : Int) + 2147483648) % 4294967296 - 2147483648 := by
  have e : (nI n).toInt = (BitVec.ofNat 32 n).toInt := rfl
  rw [e, BitVec.toInt_eq_toNat_bmod, BitVec.toNat_ofNat, Int.bmod_def]
  have h : ((2 ^ 32 : Nat) : Int) = 4294967296 := rfl
  have h3 : (2 ^ 32 : Nat) = 4294967296 := rfl
  rw [h, h3]
  split <;> omega
theorem il_m1 : (-1 : Int32) = nI 4294967295 := by decide +kernel
theorem il_m3 : (-3 : Int32) = nI 4294967293 := by decide +kernel
section IA
variable {x y : Int32} {a b : Nat}
theorem ia_add (hx : x = nI a) (hy : y = nI b) : x + y = nI (gadd a b) := by
  show _ = nI ((a + b) % 4294967296)
  rw [nI_mod, hx, hy, qi_add]
theorem ia_mul (hx : x = nI a) (hy : y = nI b) : x * y = nI (gmul a b) := by
  show _ = nI (a * b % 4294967296)
  rw [nI_mod, hx, hy, qi_mul]
theorem ia_sub (hx : x = nI a) (hy : y = nI b) : x - y = nI (gsub a b) := by
  show _ = nI ((a + 4294967295 * b) % 4294967296)
  rw [nI_mod, hx, hy]
  apply Int32.toBitVec_inj.mp
  apply BitVec.eq_of_toNat_eq
  simp [nI]
  omega
theorem ia_neg (hx : x = nI a) : -x = nI (gneg a) := by
  show _ = nI (4294967295 * a % 4294967296)
  rw [nI_mod, hx]
  apply Int32.toBitVec_inj.mp
  apply BitVec.eq_of_toNat_eq
  simp [nI]
  omega
theorem ia_and (hx : x = nI a) (hy : y = nI b) : x &&& y = nI (gand a b) := by
  rw [hx, hy]
  apply Int32.toBitVec_inj.mp
  show BitVec.ofNat 32 a &&& BitVec.ofNat 32 b = BitVec.ofNat 32 (a &&& b)
  exact (BitVec.ofNat_and).symm
theorem ia_or (hx : x = nI a) (hy : y = nI b) : x ||| y = nI (gor a b) := by
  rw [hx, hy]
  apply Int32.toBitVec_inj.mp
  show BitVec.ofNat 32 a ||| BitVec.ofNat 32 b = BitVec.ofNat 32 (a ||| b)
  exact (BitVec.ofNat_or).symm
theorem bit_all : ∀ b, b < 4 → (1 : Int32) <<< (nI b &&& 31) = nI (2 ^ b) := by decide +kernel
theorem ia_bit (hx : x = nI a) (ha : a < 4) : (1 : Int32) <<< (x &&& 31) = nI (gbit a) := by
  rw [hx]
  exact bit_all a ha
theorem ia_div {d : Nat} (hx : x = nI a) (ha : a < 2147483648) (h0 : 0 < d) (hd : d < 2147483648) : x / nI d = nI (gdiv a d) := by
  rw [hx]
  exact pk_div (by omega) h0 (by omega)
theorem ia_nar (hx : x = nI a) : vp_nar .char x = nI (gch a) := by
  rw [hx, vp_nar_char, nr_1]
  have e : (nI a).toUInt32.toUInt16.toNat = a % 65536 := by
    simp [nI]
  rw [e]
  rfl
theorem ix_of (hx : x = nI a) (ha : a < 2147483648) : ix x = a := by rw [hx]; exact qi_ix ha
theorem ia_tab (T : Nat → Int32) (l : List Nat) (hT : ∀ i, T i = (l.map nI).getD i 0) (hx : x = nI a) (ha : a < 2147483648) : T (ix x) = nI (nth0 0 l a) := by
  rw [ix_of hx ha, hT, nth0_e, List.getD_eq_getElem?_getD, List.getD_eq_getElem?_getD, List.getElem?_map]
  cases l[a]? <;> rfl
theorem ia_T_FP (hx : x = nI a) (ha : a < 2147483648) : T_FP (ix x) = nI (gT_FP a) := ia_tab T_FP _ (fun _ => rfl) hx ha
theorem ia_T_LN (hx : x = nI a) (ha : a < 2147483648) : T_LN (ix x) = nI (gT_LN a) := ia_tab T_LN _ (fun _ => rfl) hx ha
theorem ia_T_GN (hx : x = nI a) (ha : a < 2147483648) : T_GN (ix x) = nI (gT_GN a) := ia_tab T_GN _ (fun _ => rfl) hx ha
theorem ia_PS (hx : x = nI a) (ha : a < 2147483648) : S_PS.getD (ix x) 0 = nI (gPS a) := ia_tab (fun i => S_PS.getD i 0) _ (fun _ => rfl) hx ha
theorem ic_eq (hx : x = nI a) (hy : y = nI b) : gceq a b = true ↔ x = y := by
  rw [hx, hy, qi_eq, nI_ti, nI_ti]
  show Nat.beq (a % 4294967296) (b % 4294967296) = true ↔ _
  rw [Nat.beq_eq]
  omega
theorem ic_le (hx : x = nI a) (hy : y = nI b) : gcle a b = true ↔ x ≤ y := by
  rw [hx, hy, qi_le, nI_ti, nI_ti]
  show Nat.ble ((a + 2147483648) % 4294967296) ((b + 2147483648) % 4294967296) = true ↔ _
  rw [Nat.ble_eq]
  omega
theorem ic_lt (hx : x = nI a) (hy : y = nI b) : gclt a b = true ↔ x < y := by
  rw [hx, hy, qi_lt, nI_ti, nI_ti]
  show Nat.ble ((a + 2147483648) % 4294967296 + 1) ((b + 2147483648) % 4294967296) = true ↔ _
  rw [Nat.ble_eq]
  omega
theorem six_e (a : Nat) : ∀ (l : List Nat) (k : Nat), sIxF (nI a) (l.map nI) k = nI (gsix a l k)
  | [], k => il_m1
  | b :: l, k => by
    show (if nI b = nI a then nI k else sIxF (nI a) (l.map nI) (k + 1)) = nI (gif (gceq b a) k (gsix a l (k + 1)))
    by_cases h : nI b = nI a
    · rw [if_pos h, (ic_eq rfl rfl).mpr h]
      rfl
    · rw [if_neg h, Bool.eq_false_iff.mpr (fun q => h ((ic_eq rfl rfl).mp q))]
      exact six_e a l (k + 1)
theorem ia_six (hx : x = nI a) : sIxF x S_OS 0 = nI (gsix a gOS 0) := by
  rw [hx]
  exact six_e a gOS 0
end IA
