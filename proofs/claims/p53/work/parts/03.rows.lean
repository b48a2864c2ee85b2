/-! ROWS: one for each kind of instruction, over Sm (printed by wip/whole/genrows.py) -/
section JR
variable {κ ρ : Type} {Γ : jG ρ} {Λ : jL κ} {cs : Nat × Nat} {pc : Nat} {ls : List (Nat × Value)} {st : List Value} {v : κ → Nat → Int32} {ex : Option ρ} {cc : ByteArray} {own : String} {Ts : List Cond} {rm : Room}
theorem sm_none : Sm Γ Λ cs pc ls st v (none : Option ρ) := fun _ h => nomatch h
theorem sm_iconst (hG : jOk Γ Λ cc own Ts rm) {n : Int} {x : Int32} (pc2 : Nat) (hp : pc + 1 = pc2) (d : decode cc pc = .ok (.iconst n, 1)) (hv : Int32.ofInt n = x) (k : Sm Γ Λ cs pc2 ls (.int x :: st) v ex) : Sm Γ Λ cs pc ls (st) v ex := by
  subst hp; intro r hr a H locs ha hR hS; exact lv_iconst hG.1 hG.2.1 d hv (k r hr a H locs ha hR hS)
theorem sm_bipush (hG : jOk Γ Λ cc own Ts rm) {n : Int} {x : Int32} (pc2 : Nat) (hp : pc + 2 = pc2) (d : decode cc pc = .ok (.bipush n, 2)) (hv : (Int8.ofInt n).toInt32 = x) (k : Sm Γ Λ cs pc2 ls (.int x :: st) v ex) : Sm Γ Λ cs pc ls (st) v ex := by
  subst hp; intro r hr a H locs ha hR hS; exact lv_bipush hG.1 hG.2.1 d hv (k r hr a H locs ha hR hS)
theorem sm_sipush (hG : jOk Γ Λ cc own Ts rm) {n : Int} {x : Int32} (pc2 : Nat) (hp : pc + 3 = pc2) (d : decode cc pc = .ok (.sipush n, 3)) (hv : (Int16.ofInt n).toInt32 = x) (k : Sm Γ Λ cs pc2 ls (.int x :: st) v ex) : Sm Γ Λ cs pc ls (st) v ex := by
  subst hp; intro r hr a H locs ha hR hS; exact lv_sipush hG.1 hG.2.1 d hv (k r hr a H locs ha hR hS)
theorem sm_ldc (hG : jOk Γ Λ cc own Ts rm) {n : Nat} {x : Int32} (pc2 : Nat) (hp : pc + 2 = pc2) (d : decode cc pc = .ok (.ldc n, 2)) (hw : Jvm.Cond.constant own n x ∈ Ts) (k : Sm Γ Λ cs pc2 ls (.int x :: st) v ex) : Sm Γ Λ cs pc ls (st) v ex := by
  subst hp; intro r hr a H locs ha hR hS; exact lv_ldc hG.1 hG.2.1 hG.2.2.2.1 (hG.2.2.2.2.1 _ hw) d (k r hr a H locs ha hR hS)
theorem sm_lconst (hG : jOk Γ Λ cc own Ts rm) {n : Fin 2} {x : Int64} (pc2 : Nat) (hp : pc + 1 = pc2) (d : decode cc pc = .ok (.lconst n, 1)) (hv : Int64.ofNat (n : Nat) = x) (k : Sm Γ Λ cs pc2 ls (.long x :: st) v ex) : Sm Γ Λ cs pc ls (st) v ex := by
  subst hp; intro r hr a H locs ha hR hS; exact lv_lconst hG.1 hG.2.1 d hv (k r hr a H locs ha hR hS)
theorem sm_iload_n (hG : jOk Γ Λ cc own Ts rm) {q : Fin 4} {i : Nat} {x : Int32} (pc2 : Nat) (hp : pc + 1 = pc2) (d : decode cc pc = .ok (.iload_n q, 1)) (hi : (q : Nat) = i) (j : Nat) (hj : ls[j]? = some (i, .int x)) (k : Sm Γ Λ cs pc2 ls (.int x :: st) v ex) : Sm Γ Λ cs pc ls (st) v ex := by
  subst hp; intro r hr a H locs ha hR hS; exact lv_iload_n hG.1 hG.2.1 d hi (lv_at ha j hj) (k r hr a H locs ha hR hS)
theorem sm_iload (hG : jOk Γ Λ cc own Ts rm) {i : Nat} {x : Int32} (pc2 : Nat) (hp : pc + 2 = pc2) (d : decode cc pc = .ok (.iload i, 2)) (j : Nat) (hj : ls[j]? = some (i, .int x)) (k : Sm Γ Λ cs pc2 ls (.int x :: st) v ex) : Sm Γ Λ cs pc ls (st) v ex := by
  subst hp; intro r hr a H locs ha hR hS; exact lv_iload hG.1 hG.2.1 d (lv_at ha j hj) (k r hr a H locs ha hR hS)
theorem sm_istore_n (hG : jOk Γ Λ cc own Ts rm) {q : Fin 4} {i : Nat} {x : Int32} (pc2 : Nat) (hp : pc + 1 = pc2) (d : decode cc pc = .ok (.istore_n q, 1)) (hi : (q : Nat) = i) (hn : i < Γ.2.1) (ls2 : List (Nat × Value)) (hl : (i, Value.int x) :: ls.filter (fun q => !(q.1 == i) && !(q.1 + 1 == i && q.2.category == 2)) = ls2) (k : Sm Γ Λ cs pc2 ls2 st v ex) : Sm Γ Λ cs pc ls (.int x :: st) v ex := by
  subst hp; intro r hr a H locs ha hR hS; exact lv_istore_n hG.1 hG.2.1 d hi ha hn hl (fun a2 ha2 => k r hr a2 H locs ha2 hR hS)
theorem sm_istore (hG : jOk Γ Λ cc own Ts rm) {i : Nat} {x : Int32} (pc2 : Nat) (hp : pc + 2 = pc2) (d : decode cc pc = .ok (.istore i, 2)) (hn : i < Γ.2.1) (ls2 : List (Nat × Value)) (hl : (i, Value.int x) :: ls.filter (fun q => !(q.1 == i) && !(q.1 + 1 == i && q.2.category == 2)) = ls2) (k : Sm Γ Λ cs pc2 ls2 st v ex) : Sm Γ Λ cs pc ls (.int x :: st) v ex := by
  subst hp; intro r hr a H locs ha hR hS; exact lv_istore hG.1 hG.2.1 d ha hn hl (fun a2 ha2 => k r hr a2 H locs ha2 hR hS)
theorem sm_aload_n (hG : jOk Γ Λ cc own Ts rm) {q : Fin 4} {i : Nat} {x : Nat} (pc2 : Nat) (hp : pc + 1 = pc2) (d : decode cc pc = .ok (.aload_n q, 1)) (hi : (q : Nat) = i) (j : Nat) (hj : ls[j]? = some (i, .ref x)) (k : Sm Γ Λ cs pc2 ls (.ref x :: st) v ex) : Sm Γ Λ cs pc ls (st) v ex := by
  subst hp; intro r hr a H locs ha hR hS; exact lv_aload_n hG.1 hG.2.1 d hi (lv_at ha j hj) (k r hr a H locs ha hR hS)
theorem sm_aload (hG : jOk Γ Λ cc own Ts rm) {i : Nat} {x : Nat} (pc2 : Nat) (hp : pc + 2 = pc2) (d : decode cc pc = .ok (.aload i, 2)) (j : Nat) (hj : ls[j]? = some (i, .ref x)) (k : Sm Γ Λ cs pc2 ls (.ref x :: st) v ex) : Sm Γ Λ cs pc ls (st) v ex := by
  subst hp; intro r hr a H locs ha hR hS; exact lv_aload hG.1 hG.2.1 d (lv_at ha j hj) (k r hr a H locs ha hR hS)
theorem sm_astore_n (hG : jOk Γ Λ cc own Ts rm) {q : Fin 4} {i : Nat} {x : Nat} (pc2 : Nat) (hp : pc + 1 = pc2) (d : decode cc pc = .ok (.astore_n q, 1)) (hi : (q : Nat) = i) (hn : i < Γ.2.1) (ls2 : List (Nat × Value)) (hl : (i, Value.ref x) :: ls.filter (fun q => !(q.1 == i) && !(q.1 + 1 == i && q.2.category == 2)) = ls2) (k : Sm Γ Λ cs pc2 ls2 st v ex) : Sm Γ Λ cs pc ls (.ref x :: st) v ex := by
  subst hp; intro r hr a H locs ha hR hS; exact lv_astore_n hG.1 hG.2.1 d hi ha hn hl (fun a2 ha2 => k r hr a2 H locs ha2 hR hS)
theorem sm_astore (hG : jOk Γ Λ cc own Ts rm) {i : Nat} {x : Nat} (pc2 : Nat) (hp : pc + 2 = pc2) (d : decode cc pc = .ok (.astore i, 2)) (hn : i < Γ.2.1) (ls2 : List (Nat × Value)) (hl : (i, Value.ref x) :: ls.filter (fun q => !(q.1 == i) && !(q.1 + 1 == i && q.2.category == 2)) = ls2) (k : Sm Γ Λ cs pc2 ls2 st v ex) : Sm Γ Λ cs pc ls (.ref x :: st) v ex := by
  subst hp; intro r hr a H locs ha hR hS; exact lv_astore hG.1 hG.2.1 d ha hn hl (fun a2 ha2 => k r hr a2 H locs ha2 hR hS)
theorem sm_iinc (hG : jOk Γ Λ cc own Ts rm) {i j : Nat} {n : Int} {x y : Int32} (pc2 : Nat) (hp : pc + 3 = pc2) (d : decode cc pc = .ok (.iinc i n, 3)) (hj : ls[j]? = some (i, .int x)) (hv : x + Int32.ofInt n = y) (hn : i < Γ.2.1) (ls2 : List (Nat × Value)) (hl : (i, Value.int y) :: ls.filter (fun q => !(q.1 == i) && !(q.1 + 1 == i && q.2.category == 2)) = ls2) (k : Sm Γ Λ cs pc2 ls2 st v ex) : Sm Γ Λ cs pc ls st v ex := by
  subst hp; intro r hr a H locs ha hR hS; exact lv_iinc hG.1 hG.2.1 d ha hj hv hn hl (fun a2 ha2 => k r hr a2 H locs ha2 hR hS)
theorem sm_iadd (hG : jOk Γ Λ cc own Ts rm) {x y : Int32} (pc2 : Nat) (hp : pc + 1 = pc2) (d : decode cc pc = .ok (.iadd, 1)) (k : Sm Γ Λ cs pc2 ls (.int (x + y) :: st) v ex) : Sm Γ Λ cs pc ls (.int y :: .int x :: st) v ex := by
  subst hp; intro r hr a H locs ha hR hS; exact lv_iadd hG.1 hG.2.1 d (k r hr a H locs ha hR hS)
theorem sm_isub (hG : jOk Γ Λ cc own Ts rm) {x y : Int32} (pc2 : Nat) (hp : pc + 1 = pc2) (d : decode cc pc = .ok (.isub, 1)) (k : Sm Γ Λ cs pc2 ls (.int (x - y) :: st) v ex) : Sm Γ Λ cs pc ls (.int y :: .int x :: st) v ex := by
  subst hp; intro r hr a H locs ha hR hS; exact lv_isub hG.1 hG.2.1 d (k r hr a H locs ha hR hS)
theorem sm_imul (hG : jOk Γ Λ cc own Ts rm) {x y : Int32} (pc2 : Nat) (hp : pc + 1 = pc2) (d : decode cc pc = .ok (.imul, 1)) (k : Sm Γ Λ cs pc2 ls (.int (x * y) :: st) v ex) : Sm Γ Λ cs pc ls (.int y :: .int x :: st) v ex := by
  subst hp; intro r hr a H locs ha hR hS; exact lv_imul hG.1 hG.2.1 d (k r hr a H locs ha hR hS)
theorem sm_iand (hG : jOk Γ Λ cc own Ts rm) {x y : Int32} (pc2 : Nat) (hp : pc + 1 = pc2) (d : decode cc pc = .ok (.iand, 1)) (k : Sm Γ Λ cs pc2 ls (.int (x &&& y) :: st) v ex) : Sm Γ Λ cs pc ls (.int y :: .int x :: st) v ex := by
  subst hp; intro r hr a H locs ha hR hS; exact lv_iand hG.1 hG.2.1 d (k r hr a H locs ha hR hS)
theorem sm_ior (hG : jOk Γ Λ cc own Ts rm) {x y : Int32} (pc2 : Nat) (hp : pc + 1 = pc2) (d : decode cc pc = .ok (.ior, 1)) (k : Sm Γ Λ cs pc2 ls (.int (x ||| y) :: st) v ex) : Sm Γ Λ cs pc ls (.int y :: .int x :: st) v ex := by
  subst hp; intro r hr a H locs ha hR hS; exact lv_ior hG.1 hG.2.1 d (k r hr a H locs ha hR hS)
theorem sm_ishl (hG : jOk Γ Λ cc own Ts rm) {x y : Int32} (pc2 : Nat) (hp : pc + 1 = pc2) (d : decode cc pc = .ok (.ishl, 1)) (k : Sm Γ Λ cs pc2 ls (.int (x <<< (y &&& 31)) :: st) v ex) : Sm Γ Λ cs pc ls (.int y :: .int x :: st) v ex := by
  subst hp; intro r hr a H locs ha hR hS; exact lv_ishl hG.1 hG.2.1 d (k r hr a H locs ha hR hS)
theorem sm_ishr (hG : jOk Γ Λ cc own Ts rm) {x y : Int32} (pc2 : Nat) (hp : pc + 1 = pc2) (d : decode cc pc = .ok (.ishr, 1)) (k : Sm Γ Λ cs pc2 ls (.int (x >>> (y &&& 31)) :: st) v ex) : Sm Γ Λ cs pc ls (.int y :: .int x :: st) v ex := by
  subst hp; intro r hr a H locs ha hR hS; exact lv_ishr hG.1 hG.2.1 d (k r hr a H locs ha hR hS)
theorem sm_idiv (hG : jOk Γ Λ cc own Ts rm) {x y : Int32} (pc2 : Nat) (hp : pc + 1 = pc2) (d : decode cc pc = .ok (.idiv, 1)) (hne : ¬ y = 0) (k : Sm Γ Λ cs pc2 ls (.int (x / y) :: st) v ex) : Sm Γ Λ cs pc ls (.int y :: .int x :: st) v ex := by
  subst hp; intro r hr a H locs ha hR hS; exact lv_idiv hG.1 hG.2.1 d hne (k r hr a H locs ha hR hS)
theorem sm_irem (hG : jOk Γ Λ cc own Ts rm) {x y : Int32} (pc2 : Nat) (hp : pc + 1 = pc2) (d : decode cc pc = .ok (.irem, 1)) (hne : ¬ y = 0) (k : Sm Γ Λ cs pc2 ls (.int (x - x / y * y) :: st) v ex) : Sm Γ Λ cs pc ls (.int y :: .int x :: st) v ex := by
  subst hp; intro r hr a H locs ha hR hS; exact lv_irem hG.1 hG.2.1 d hne (k r hr a H locs ha hR hS)
theorem sm_ineg (hG : jOk Γ Λ cc own Ts rm) {x : Int32} (pc2 : Nat) (hp : pc + 1 = pc2) (d : decode cc pc = .ok (.ineg, 1)) (k : Sm Γ Λ cs pc2 ls (.int (-x) :: st) v ex) : Sm Γ Λ cs pc ls (.int x :: st) v ex := by
  subst hp; intro r hr a H locs ha hR hS; exact lv_ineg hG.1 hG.2.1 d (k r hr a H locs ha hR hS)
theorem sm_i2l (hG : jOk Γ Λ cc own Ts rm) {x : Int32} (pc2 : Nat) (hp : pc + 1 = pc2) (d : decode cc pc = .ok (.i2l, 1)) (k : Sm Γ Λ cs pc2 ls (.long x.toInt64 :: st) v ex) : Sm Γ Λ cs pc ls (.int x :: st) v ex := by
  subst hp; intro r hr a H locs ha hR hS; exact lv_i2l hG.1 hG.2.1 d rfl (k r hr a H locs ha hR hS)
theorem sm_i2c (hG : jOk Γ Λ cc own Ts rm) {x : Int32} (pc2 : Nat) (hp : pc + 1 = pc2) (d : decode cc pc = .ok (.i2c, 1)) (k : Sm Γ Λ cs pc2 ls (.int (x.toUInt32 % 65536).toInt32 :: st) v ex) : Sm Γ Λ cs pc ls (.int x :: st) v ex := by
  subst hp; intro r hr a H locs ha hR hS; exact lv_i2c hG.1 hG.2.1 d rfl (k r hr a H locs ha hR hS)
theorem sm_pop (hG : jOk Γ Λ cc own Ts rm) {x : Value} (pc2 : Nat) (hp : pc + 1 = pc2) (d : decode cc pc = .ok (.pop, 1)) (hc : x.category = 1) (k : Sm Γ Λ cs pc2 ls (st) v ex) : Sm Γ Λ cs pc ls (x :: st) v ex := by
  subst hp; intro r hr a H locs ha hR hS; exact lv_pop hG.1 hG.2.1 d hc (k r hr a H locs ha hR hS)
theorem sm_dup (hG : jOk Γ Λ cc own Ts rm) {x : Value} (pc2 : Nat) (hp : pc + 1 = pc2) (d : decode cc pc = .ok (.dup, 1)) (hc : x.category = 1) (k : Sm Γ Λ cs pc2 ls (x :: x :: st) v ex) : Sm Γ Λ cs pc ls (x :: st) v ex := by
  subst hp; intro r hr a H locs ha hR hS; exact lv_dup hG.1 hG.2.1 d hc (k r hr a H locs ha hR hS)
theorem sm_dup2 (hG : jOk Γ Λ cc own Ts rm) {x y : Value} (pc2 : Nat) (hp : pc + 1 = pc2) (d : decode cc pc = .ok (.dup2, 1)) (hx : x.category = 1) (hy : y.category = 1) (k : Sm Γ Λ cs pc2 ls (x :: y :: x :: y :: st) v ex) : Sm Γ Λ cs pc ls (x :: y :: st) v ex := by
  subst hp; intro r hr a H locs ha hR hS; exact lv_dup2_11 hG.1 hG.2.1 d hx hy (k r hr a H locs ha hR hS)
theorem sm_goto (hG : jOk Γ Λ cc own Ts rm) {off : Int} (tgt : Nat) (d : decode cc pc = .ok (.goto off, 3)) (ht : (pc : Int) + off = (tgt : Int)) (k : Sm Γ Λ cs tgt ls st v ex) : Sm Γ Λ cs pc ls st v ex := by
  intro r hr a H locs ha hR hS; exact lv_goto hG.1 hG.2.1 d ht (k r hr a H locs ha hR hS)
theorem sm_icmp_eq (hG : jOk Γ Λ cc own Ts rm) {x y : Int32} {e1 e2 : Option ρ} {off : Int} (tgt pc2 : Nat) (hp : pc + 3 = pc2) (d : decode cc pc = .ok (.if_icmp .eq off, 3)) (ht : (pc : Int) + off = (tgt : Int)) (k1 : Sm Γ Λ cs tgt ls st v e1) (k2 : Sm Γ Λ cs pc2 ls st v e2) : Sm Γ Λ cs pc ls (.int y :: .int x :: st) v (if x = y then e1 else e2) := by
  subst hp; intro r hr a H locs ha hR hS
  exact lv_icmp_eq hG.1 hG.2.1 d ht (fun q => k1 r (by rw [if_pos q] at hr; exact hr) a H locs ha hR hS) (fun q => k2 r (by rw [if_neg q] at hr; exact hr) a H locs ha hR hS)
theorem sm_if_eq (hG : jOk Γ Λ cc own Ts rm) {x : Int32} {e1 e2 : Option ρ} {off : Int} (tgt pc2 : Nat) (hp : pc + 3 = pc2) (d : decode cc pc = .ok (.ifCond .eq off, 3)) (ht : (pc : Int) + off = (tgt : Int)) (k1 : Sm Γ Λ cs tgt ls st v e1) (k2 : Sm Γ Λ cs pc2 ls st v e2) : Sm Γ Λ cs pc ls (.int x :: st) v (if x = 0 then e1 else e2) := by
  subst hp; intro r hr a H locs ha hR hS
  exact lv_if_eq hG.1 hG.2.1 d ht (fun q => k1 r (by rw [if_pos q] at hr; exact hr) a H locs ha hR hS) (fun q => k2 r (by rw [if_neg q] at hr; exact hr) a H locs ha hR hS)
theorem sm_icmp_ne (hG : jOk Γ Λ cc own Ts rm) {x y : Int32} {e1 e2 : Option ρ} {off : Int} (tgt pc2 : Nat) (hp : pc + 3 = pc2) (d : decode cc pc = .ok (.if_icmp .ne off, 3)) (ht : (pc : Int) + off = (tgt : Int)) (k1 : Sm Γ Λ cs tgt ls st v e2) (k2 : Sm Γ Λ cs pc2 ls st v e1) : Sm Γ Λ cs pc ls (.int y :: .int x :: st) v (if x = y then e1 else e2) := by
  subst hp; intro r hr a H locs ha hR hS
  exact lv_icmp_ne hG.1 hG.2.1 d ht (fun q => k1 r (by rw [if_neg q] at hr; exact hr) a H locs ha hR hS) (fun q => k2 r (by rw [if_pos q] at hr; exact hr) a H locs ha hR hS)
theorem sm_if_ne (hG : jOk Γ Λ cc own Ts rm) {x : Int32} {e1 e2 : Option ρ} {off : Int} (tgt pc2 : Nat) (hp : pc + 3 = pc2) (d : decode cc pc = .ok (.ifCond .ne off, 3)) (ht : (pc : Int) + off = (tgt : Int)) (k1 : Sm Γ Λ cs tgt ls st v e2) (k2 : Sm Γ Λ cs pc2 ls st v e1) : Sm Γ Λ cs pc ls (.int x :: st) v (if x = 0 then e1 else e2) := by
  subst hp; intro r hr a H locs ha hR hS
  exact lv_if_ne hG.1 hG.2.1 d ht (fun q => k1 r (by rw [if_neg q] at hr; exact hr) a H locs ha hR hS) (fun q => k2 r (by rw [if_pos q] at hr; exact hr) a H locs ha hR hS)
theorem sm_icmp_lt (hG : jOk Γ Λ cc own Ts rm) {x y : Int32} {e1 e2 : Option ρ} {off : Int} (tgt pc2 : Nat) (hp : pc + 3 = pc2) (d : decode cc pc = .ok (.if_icmp .lt off, 3)) (ht : (pc : Int) + off = (tgt : Int)) (k1 : Sm Γ Λ cs tgt ls st v e1) (k2 : Sm Γ Λ cs pc2 ls st v e2) : Sm Γ Λ cs pc ls (.int y :: .int x :: st) v (if x < y then e1 else e2) := by
  subst hp; intro r hr a H locs ha hR hS
  exact lv_icmp_lt hG.1 hG.2.1 d ht (fun q => k1 r (by rw [if_pos q] at hr; exact hr) a H locs ha hR hS) (fun q => k2 r (by rw [if_neg q] at hr; exact hr) a H locs ha hR hS)
theorem sm_if_lt (hG : jOk Γ Λ cc own Ts rm) {x : Int32} {e1 e2 : Option ρ} {off : Int} (tgt pc2 : Nat) (hp : pc + 3 = pc2) (d : decode cc pc = .ok (.ifCond .lt off, 3)) (ht : (pc : Int) + off = (tgt : Int)) (k1 : Sm Γ Λ cs tgt ls st v e1) (k2 : Sm Γ Λ cs pc2 ls st v e2) : Sm Γ Λ cs pc ls (.int x :: st) v (if x < 0 then e1 else e2) := by
  subst hp; intro r hr a H locs ha hR hS
  exact lv_if_lt hG.1 hG.2.1 d ht (fun q => k1 r (by rw [if_pos q] at hr; exact hr) a H locs ha hR hS) (fun q => k2 r (by rw [if_neg q] at hr; exact hr) a H locs ha hR hS)
theorem sm_icmp_ge (hG : jOk Γ Λ cc own Ts rm) {x y : Int32} {e1 e2 : Option ρ} {off : Int} (tgt pc2 : Nat) (hp : pc + 3 = pc2) (d : decode cc pc = .ok (.if_icmp .ge off, 3)) (ht : (pc : Int) + off = (tgt : Int)) (k1 : Sm Γ Λ cs tgt ls st v e1) (k2 : Sm Γ Λ cs pc2 ls st v e2) : Sm Γ Λ cs pc ls (.int y :: .int x :: st) v (if y ≤ x then e1 else e2) := by
  subst hp; intro r hr a H locs ha hR hS
  exact lv_icmp_ge hG.1 hG.2.1 d ht (fun q => k1 r (by rw [if_pos q] at hr; exact hr) a H locs ha hR hS) (fun q => k2 r (by rw [if_neg q] at hr; exact hr) a H locs ha hR hS)
theorem sm_if_ge (hG : jOk Γ Λ cc own Ts rm) {x : Int32} {e1 e2 : Option ρ} {off : Int} (tgt pc2 : Nat) (hp : pc + 3 = pc2) (d : decode cc pc = .ok (.ifCond .ge off, 3)) (ht : (pc : Int) + off = (tgt : Int)) (k1 : Sm Γ Λ cs tgt ls st v e1) (k2 : Sm Γ Λ cs pc2 ls st v e2) : Sm Γ Λ cs pc ls (.int x :: st) v (if 0 ≤ x then e1 else e2) := by
  subst hp; intro r hr a H locs ha hR hS
  exact lv_if_ge hG.1 hG.2.1 d ht (fun q => k1 r (by rw [if_pos q] at hr; exact hr) a H locs ha hR hS) (fun q => k2 r (by rw [if_neg q] at hr; exact hr) a H locs ha hR hS)
theorem sm_icmp_gt (hG : jOk Γ Λ cc own Ts rm) {x y : Int32} {e1 e2 : Option ρ} {off : Int} (tgt pc2 : Nat) (hp : pc + 3 = pc2) (d : decode cc pc = .ok (.if_icmp .gt off, 3)) (ht : (pc : Int) + off = (tgt : Int)) (k1 : Sm Γ Λ cs tgt ls st v e1) (k2 : Sm Γ Λ cs pc2 ls st v e2) : Sm Γ Λ cs pc ls (.int y :: .int x :: st) v (if y < x then e1 else e2) := by
  subst hp; intro r hr a H locs ha hR hS
  exact lv_icmp_gt hG.1 hG.2.1 d ht (fun q => k1 r (by rw [if_pos q] at hr; exact hr) a H locs ha hR hS) (fun q => k2 r (by rw [if_neg q] at hr; exact hr) a H locs ha hR hS)
theorem sm_if_gt (hG : jOk Γ Λ cc own Ts rm) {x : Int32} {e1 e2 : Option ρ} {off : Int} (tgt pc2 : Nat) (hp : pc + 3 = pc2) (d : decode cc pc = .ok (.ifCond .gt off, 3)) (ht : (pc : Int) + off = (tgt : Int)) (k1 : Sm Γ Λ cs tgt ls st v e1) (k2 : Sm Γ Λ cs pc2 ls st v e2) : Sm Γ Λ cs pc ls (.int x :: st) v (if 0 < x then e1 else e2) := by
  subst hp; intro r hr a H locs ha hR hS
  exact lv_if_gt hG.1 hG.2.1 d ht (fun q => k1 r (by rw [if_pos q] at hr; exact hr) a H locs ha hR hS) (fun q => k2 r (by rw [if_neg q] at hr; exact hr) a H locs ha hR hS)
theorem sm_icmp_le (hG : jOk Γ Λ cc own Ts rm) {x y : Int32} {e1 e2 : Option ρ} {off : Int} (tgt pc2 : Nat) (hp : pc + 3 = pc2) (d : decode cc pc = .ok (.if_icmp .le off, 3)) (ht : (pc : Int) + off = (tgt : Int)) (k1 : Sm Γ Λ cs tgt ls st v e1) (k2 : Sm Γ Λ cs pc2 ls st v e2) : Sm Γ Λ cs pc ls (.int y :: .int x :: st) v (if x ≤ y then e1 else e2) := by
  subst hp; intro r hr a H locs ha hR hS
  exact lv_icmp_le hG.1 hG.2.1 d ht (fun q => k1 r (by rw [if_pos q] at hr; exact hr) a H locs ha hR hS) (fun q => k2 r (by rw [if_neg q] at hr; exact hr) a H locs ha hR hS)
theorem sm_if_le (hG : jOk Γ Λ cc own Ts rm) {x : Int32} {e1 e2 : Option ρ} {off : Int} (tgt pc2 : Nat) (hp : pc + 3 = pc2) (d : decode cc pc = .ok (.ifCond .le off, 3)) (ht : (pc : Int) + off = (tgt : Int)) (k1 : Sm Γ Λ cs tgt ls st v e1) (k2 : Sm Γ Λ cs pc2 ls st v e2) : Sm Γ Λ cs pc ls (.int x :: st) v (if x ≤ 0 then e1 else e2) := by
  subst hp; intro r hr a H locs ha hR hS
  exact lv_if_le hG.1 hG.2.1 d ht (fun q => k1 r (by rw [if_pos q] at hr; exact hr) a H locs ha hR hS) (fun q => k2 r (by rw [if_neg q] at hr; exact hr) a H locs ha hR hS)
/-- fewer locals, in another order -/
theorem sm_loc (is : List Nat) (ls2 : List (Nat × Value)) (hl : lv_pick ls is = ls2) (k : Sm Γ Λ cs pc ls2 st v ex) : Sm Γ Λ cs pc ls st v ex := fun r hr a H locs ha hR hS => k r hr a H locs (lv_sub ha is hl) hR hS
theorem sm_wide (cs2 : Nat × Nat) (h : cs.1 ≤ cs2.1 ∧ cs.2 ≤ cs2.2) (k : Sm Γ Λ cs2 pc ls st v ex) : Sm Γ Λ cs pc ls st v ex := fun r hr a H locs ha hR hS => W.widen h.1 h.2 (k r hr a H locs ha hR hS)
theorem sm_get (hG : jOk Γ Λ cc own Ts rm) {n ci N j : Nat} {ref C : String} {T : u_T} {fs : List Value} {x : Value} (key : κ) (pc2 : Nat) (hp : pc + 3 = pc2) (hok : Λ.2.2.1 key) (he : Λ.2.2.2.2.1 key (v key) = .inr (ci, fs)) (hc : vwCl[ci]? = some (C, T, N)) (hin : ∀ w ∈ u_ws C T N, w ∈ Ts) (hj : j < N) (href : (T j).1 = ref) (hw : Cond.fieldLink own n ref (T j).2.1 (T j).2.2.1 ∈ Ts) (hx : fs[j]? = some x) (d : decode cc pc = .ok (.getfield n, 3)) (k : Sm Γ Λ cs pc2 ls (x :: st) v ex) : Sm Γ Λ cs pc ls (.ref (Λ.2.2.2.1 key) :: st) v ex := by
  subst hp; intro r hr a H locs ha hR hS
  exact va_get hG.1 hG.2.1 hG.2.2.2.2.1 hin hG.2.2.2.1 hG.2.2.2.2.2.1 (rp_one hR hok he) 0 rfl hc j hj (hG.2.2.2.2.1 _ hw) (fun z h => by rw [← href]; exact h) hx d (k r hr a H locs ha hR hS)
theorem sm_put (hG : jOk Γ Λ cc own Ts rm) {n ci N j : Nat} {ref C : String} {T : u_T} {fs : List Value} {x : Value} {ty0 : Nat → FieldType} (key : κ) (pc2 : Nat) (hp : pc + 3 = pc2) (hok : Λ.2.2.1 key) (he : Λ.2.2.2.2.1 key (v key) = .inr (ci, fs)) (hc : vwCl[ci]? = some (C, T, N)) (hin : ∀ w ∈ u_ws C T N, w ∈ Ts) (hty : ∀ k, k < N → parseFieldDescriptor (T k).2.2.1 = some (ty0 k)) (hnm : ∀ a, a < N → ∀ b, b < N → a ≠ b → (T a).2.1 ≠ (T b).2.1) (hj : j < N) (href : (T j).1 = ref) (hfin : (T j).2.2.2 = false) (hw : Cond.fieldLink own n ref (T j).2.1 (T j).2.2.1 ∈ Ts) (hn : narrow (ty0 j) x = x) (hfit : fits (ty0 j) x = true) (hlen : j < fs.length) (d : decode cc pc = .ok (.putfield n, 3)) (v2 : κ → Nat → Int32) (hv : ∀ k, Λ.2.2.1 k → k ≠ key → Λ.2.2.2.2.1 k (v2 k) = Λ.2.2.2.2.1 k (v k)) (he2 : Λ.2.2.2.2.1 key (v2 key) = .inr (ci, fs.set j x)) (k : Sm Γ Λ cs pc2 ls st v2 ex) : Sm Γ Λ cs pc ls (x :: .ref (Λ.2.2.2.1 key) :: st) v ex := by
  subst hp; intro r hr a H locs ha hR hS
  obtain ⟨ks, q0, hP, hD, hq, -, back⟩ := rp_list hG.2.2.2.2.2.2.1 hR hok
  rw [he] at hq
  refine va_put hG.1 hG.2.1 hG.2.2.2.2.1 hin ty0 hty hnm hG.2.2.2.1 hG.2.2.2.2.2.1 hP hD hS q0 hq hc j hj (hG.2.2.2.2.1 _ hw) (fun z h => by rw [← href]; exact h) hfin (hty j hj) hn hfit hlen d (fun H1 locs1 hP1 _ hS1 => ?_)
  rw [← he2] at hP1
  exact k r hr a H1 locs1 ha (back v2 H1 hv hP1) hS1
theorem sm_iald (hG : jOk Γ Λ cc own Ts rm) {n : Nat} {f : Nat → Int32} {i : Int32} (key : κ) (pc2 : Nat) (hp : pc + 1 = pc2) (hok : Λ.2.2.1 key) (he : Λ.2.2.2.2.1 key (v key) = .inl (Λ.2.1 0, n, .inl f)) (d : decode cc pc = .ok (.iaload, 1)) (k : Sm Γ Λ cs pc2 ls (.int (f (ix i)) :: st) v ex) : Sm Γ Λ cs pc ls (.int i :: .ref (Λ.2.2.2.1 key) :: st) v (ck (inb i n) ex) := by
  subst hp; intro r hr a H locs ha hR hS
  obtain ⟨hb, hr⟩ := ck_s hr
  exact va_iald hG.1 hG.2.1 hG.2.2.2.2.2.1 (rp_one hR hok he) 0 0 rfl rfl (inb_in hb) d (k r hr a H locs ha hR hS)
theorem sm_cald (hG : jOk Γ Λ cc own Ts rm) {n : Nat} {f : Nat → Int32} {i : Int32} (key : κ) (pc2 : Nat) (hp : pc + 1 = pc2) (hok : Λ.2.2.1 key) (he : Λ.2.2.2.2.1 key (v key) = .inl (Λ.2.1 1, n, .inl f)) (d : decode cc pc = .ok (.caload, 1)) (k : Sm Γ Λ cs pc2 ls (.int (f (ix i)) :: st) v ex) : Sm Γ Λ cs pc ls (.int i :: .ref (Λ.2.2.2.1 key) :: st) v (ck (inb i n) ex) := by
  subst hp; intro r hr a H locs ha hR hS
  obtain ⟨hb, hr⟩ := ck_s hr
  exact va_cald hG.1 hG.2.1 hG.2.2.2.2.2.1 (rp_one hR hok he) 0 1 rfl rfl (inb_in hb) d (k r hr a H locs ha hR hS)
theorem sm_iast (hG : jOk Γ Λ cc own Ts rm) {n : Nat} {f : Nat → Int32} {i x : Int32} (key : κ) (pc2 : Nat) (hp : pc + 1 = pc2) (hok : Λ.2.2.1 key) (he : Λ.2.2.2.2.1 key (v key) = .inl (Λ.2.1 0, n, .inl f)) (d : decode cc pc = .ok (.iastore, 1)) (v2 : κ → Nat → Int32) (hv : ∀ k, Λ.2.2.1 k → k ≠ key → Λ.2.2.2.2.1 k (v2 k) = Λ.2.2.2.2.1 k (v k)) (he2 : Λ.2.2.2.2.1 key (v2 key) = .inl (Λ.2.1 0, n, .inl (upd f (ix i) x))) (k : Sm Γ Λ cs pc2 ls st v2 ex) : Sm Γ Λ cs pc ls (.int x :: .int i :: .ref (Λ.2.2.2.1 key) :: st) v (ck (inb i n) ex) := by
  subst hp; intro r hr a H locs ha hR hS
  obtain ⟨hb, hr⟩ := ck_s hr
  obtain ⟨ks, q0, hP, hD, hq, -, back⟩ := rp_list hG.2.2.2.2.2.2.1 hR hok
  rw [he] at hq
  refine va_iast hG.1 hG.2.1 hG.2.2.2.2.2.1 hP hD hS q0 0 hq rfl (inb_in hb) d (fun H1 locs1 hP1 _ hS1 => ?_)
  rw [← he2] at hP1
  exact k r hr a H1 locs1 ha (back v2 H1 hv hP1) hS1
theorem sm_cast (hG : jOk Γ Λ cc own Ts rm) {n : Nat} {f : Nat → Int32} {i x : Int32} (key : κ) (pc2 : Nat) (hp : pc + 1 = pc2) (hok : Λ.2.2.1 key) (he : Λ.2.2.2.2.1 key (v key) = .inl (Λ.2.1 1, n, .inl f)) (d : decode cc pc = .ok (.castore, 1)) (v2 : κ → Nat → Int32) (hv : ∀ k, Λ.2.2.1 k → k ≠ key → Λ.2.2.2.2.1 k (v2 k) = Λ.2.2.2.2.1 k (v k)) (he2 : Λ.2.2.2.2.1 key (v2 key) = .inl (Λ.2.1 1, n, .inl (upd f (ix i) (vp_nar .char x)))) (k : Sm Γ Λ cs pc2 ls st v2 ex) : Sm Γ Λ cs pc ls (.int x :: .int i :: .ref (Λ.2.2.2.1 key) :: st) v (ck (inb i n) ex) := by
  subst hp; intro r hr a H locs ha hR hS
  obtain ⟨hb, hr⟩ := ck_s hr
  obtain ⟨ks, q0, hP, hD, hq, -, back⟩ := rp_list hG.2.2.2.2.2.2.1 hR hok
  rw [he] at hq
  refine va_cast hG.1 hG.2.1 hG.2.2.2.2.2.1 hP hD hS q0 1 hq rfl (inb_in hb) d (fun H1 locs1 hP1 _ hS1 => ?_)
  rw [← he2] at hP1
  exact k r hr a H1 locs1 ha (back v2 H1 hv hP1) hS1
theorem sm_aald (hG : jOk Γ Λ cc own Ts rm) {n t0 : Nat} {cA : ClassId} {ty : FieldType} (htk : refKind ty = true) (ht : (jtys Λ.2.1)[t0]? = some (cA, ty)) {f : Nat → Option Nat} {i : Int32} {y : Nat} (key : κ) (pc2 : Nat) (hp : pc + 1 = pc2) (hok : Λ.2.2.1 key) (he : Λ.2.2.2.2.1 key (v key) = .inl (cA, n, .inr (.inr (.inr (.inr f))))) (hy : f (ix i) = some y) (d : decode cc pc = .ok (.aaload, 1)) (k : Sm Γ Λ cs pc2 ls (.ref y :: st) v ex) : Sm Γ Λ cs pc ls (.int i :: .ref (Λ.2.2.2.1 key) :: st) v (ck (inb i n) ex) := by
  subst hp; intro r hr a H locs ha hR hS
  obtain ⟨hb, hr⟩ := ck_s hr
  have hin := inb_in hb
  have hlt : i.toNatClampNeg < n := Nat.not_le.mp fun q => hin (Or.inr q)
  have hP := rp_one hR hok he
  have kk := k r hr a H locs ha hR hS
  refine W.aald (v := .ref y) (ty := ty) hG.1 hG.2.1 (hP 0 _ rfl) ((hG.2.2.2.2.2.1.2 t0 _ ht).1 n (fun j => va_rf (f j))) htk (fun q => by cases q) (by show ¬ (i < 0 ∨ (arrV _ _ _).slots.size ≤ _); rw [arrV_size]; exact hin) (by show (arrV _ _ _).slots[_]? = _; rw [arrV_read _ _ hlt]; show some (va_rf (f (ix i))) = _; rw [hy]; rfl) rfl rfl d kk
theorem sm_aast (hG : jOk Γ Λ cc own Ts rm) {n ci t0 : Nat} {q : vw_C} {cA : ClassId} {vs : List Value} {f : Nat → Option Nat} {i : Int32} (ht : (jtys Λ.2.1)[t0]? = some (cA, .object q.1)) (key key1 : κ) (pc2 : Nat) (hp : pc + 1 = pc2) (hok : Λ.2.2.1 key) (hok1 : Λ.2.2.1 key1) (he : Λ.2.2.2.2.1 key (v key) = .inl (cA, n, .inr (.inr (.inr (.inr f))))) (he1 : Λ.2.2.2.2.1 key1 (v key1) = .inr (ci, vs)) (hc : vwCl[ci]? = some q) (d : decode cc pc = .ok (.aastore, 1)) (v2 : κ → Nat → Int32) (hv : ∀ k, Λ.2.2.1 k → k ≠ key → Λ.2.2.2.2.1 k (v2 k) = Λ.2.2.2.2.1 k (v k)) (he2 : Λ.2.2.2.2.1 key (v2 key) = .inl (cA, n, .inr (.inr (.inr (.inr (va_up f (ix i) (some (Λ.2.2.2.1 key1)))))))) (k : Sm Γ Λ cs pc2 ls st v2 ex) : Sm Γ Λ cs pc ls (.ref (Λ.2.2.2.1 key1) :: .int i :: .ref (Λ.2.2.2.1 key) :: st) v (ck (inb i n) ex) := by
  subst hp; intro r hr a H locs ha hR hS
  obtain ⟨hb, hr⟩ := ck_s hr
  obtain ⟨ks, q0, hP, hD, hq, hall, back⟩ := rp_list hG.2.2.2.2.2.2.1 hR hok
  obtain ⟨q1, hq1⟩ := hall key1 hok1
  rw [he] at hq
  rw [he1] at hq1
  refine va_astq hG.1 hG.2.1 hG.2.2.2.2.2.1 hP hD hS q0 t0 q1 ci hq ht hq1 hc (inb_in hb) d (fun H1 locs1 hP1 _ hS1 => ?_)
  rw [← he2] at hP1
  exact k r hr a H1 locs1 ha (back v2 H1 hv hP1) hS1
def cpo (sp dp n : Int32) (n0 n1 : Nat) : Bool := decide (0 ≤ sp.toInt ∧ 0 ≤ dp.toInt ∧ 0 ≤ n.toInt ∧ sp.toInt + n.toInt ≤ n0 ∧ dp.toInt + n.toInt ≤ n1)
theorem cpo_s {sp dp n : Int32} {n0 n1 : Nat} (h : cpo sp dp n n0 n1 = true) : ¬ sp < 0 ∧ ¬ dp < 0 ∧ ¬ n < 0 ∧ sp.toNatClampNeg + n.toNatClampNeg ≤ n0 ∧ dp.toNatClampNeg + n.toNatClampNeg ≤ n1 := by
  obtain ⟨h1, h2, h3, h4, h5⟩ : 0 ≤ sp.toInt ∧ 0 ≤ dp.toInt ∧ 0 ≤ n.toInt ∧ sp.toInt + n.toInt ≤ n0 ∧ dp.toInt + n.toInt ≤ n1 := by simpa [cpo] using h
  have e : ∀ z : Int32, z < 0 ↔ z.toInt < 0 := fun z => by rw [Int32.lt_iff_toInt_lt]; rfl
  refine ⟨by rw [e]; omega, by rw [e]; omega, by rw [e]; omega, ?_, ?_⟩
  · show sp.toInt.toNat + n.toInt.toNat ≤ n0
    omega
  · show dp.toInt.toNat + n.toInt.toNat ≤ n1
    omega
theorem sm_copy (hG : jOk Γ Λ cc own Ts rm) {idx n0 n1 : Nat} {f g : Nat → Int32} {sp dp n : Int32} (key0 key : κ) (pc2 : Nat) (hp : pc + 3 = pc2) (hok0 : Λ.2.2.1 key0) (hok : Λ.2.2.1 key) (he0 : Λ.2.2.2.2.1 key0 (v key0) = .inl (Λ.2.1 0, n0, .inl f)) (he : Λ.2.2.2.2.1 key (v key) = .inl (Λ.2.1 0, n1, .inl g)) (hml : Γ.2.1 = Γ.2.1) (hw1 : Cond.methodLink own idx arraycopyName ∈ Ts) (hw2 : Cond.native arraycopyName ∈ Ts) (hw3 : Cond.static arraycopyName ∈ Ts) (hw4 : Cond.initialized "java/lang/System" ∈ Ts) (hf : 1 ≤ rm.frames) (hlo : (st.map fun v => v.category).sum + (nativeFrameWords "java/lang/System" "arraycopy" 5 + 11) ≤ rm.locals) (d : decode cc pc = .ok (.invokestatic idx, 3)) (v2 : κ → Nat → Int32) (hv : ∀ k, Λ.2.2.1 k → k ≠ key → Λ.2.2.2.2.1 k (v2 k) = Λ.2.2.2.2.1 k (v k)) (he2 : Λ.2.2.2.2.1 key (v2 key) = .inl (Λ.2.1 0, n1, .inl (va_cpy f g (ix sp) (ix dp) (ix n)))) (k : Sm Γ Λ cs pc2 ls st v2 ex) : Sm Γ Λ cs pc ls (.int n :: .int dp :: .ref (Λ.2.2.2.1 key) :: .int sp :: .ref (Λ.2.2.2.1 key0) :: st) v (ck (cpo sp dp n n0 n1) ex) := by
  subst hp; intro r hr a H locs ha hR hS
  obtain ⟨hb, hr⟩ := ck_s hr
  obtain ⟨b1, b2, b3, b4, b5⟩ := cpo_s hb
  obtain ⟨ks, q0, hP, hD, hq, hall, back⟩ := rp_list hG.2.2.2.2.2.2.1 hR hok
  obtain ⟨q1, hq1⟩ := hall key0 hok0
  rw [he] at hq
  rw [he0] at hq1
  have hR8 : Γ.1.2.2.2.1 = rm := hG.2.2.2.2.2.2.2.1
  refine va_copyi hG.1 hG.2.1 (hG.2.2.1.trans ha.1.symm) hG.2.2.2.1 (hG.2.2.2.2.1 _ hw1) (hG.2.2.2.2.1 _ hw2) (hG.2.2.2.2.1 _ hw3) (hG.2.2.2.2.1 _ hw4) hG.2.2.2.2.2.1 hP hD hS q1 q0 0 0 hq1 hq rfl rfl rfl b1 b2 b3 b4 b5 (fun _ _ => rfl) (by rw [hR8]; exact hf) (by rw [hR8]; exact hlo) d (fun H1 locs1 hP1 _ hS1 => ?_)
  rw [← he2] at hP1
  exact k r hr a H1 locs1 ha (back v2 H1 hv hP1) hS1
end JR
