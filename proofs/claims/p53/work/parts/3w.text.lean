/-! TEXTS: the JDK's indexOf and charAt over the two texts that the class reads -/
def tLen : List Nat := [7, 20]
def tByt : List (List Int32) := [[106, 102, 108, 110, 111, 120, 116], [106, 104, 114, 45, 98, 102, 42, 108, 46, 61, 114, 45, 110, 58, 45, 111, 62, 43, 120, 116]]
/-- what the walks over texts ask of the world around -/
def XT (adK adV : Nat → Nat) (tS : Value) (A : Nat → Prop) (U : State) (H : Heap) : Prop :=
  vk_S 2 tLen tByt adK adV A U H ∧ va_Z "java/lang/String" "COMPACT_STRINGS" "Z" (.int 1) A U H ∧ VZ tS A U H
def LX {κ : Type} (Λ : jL κ) (X : State → Heap → Prop) : jL κ := (Λ.1, Λ.2.1, Λ.2.2.1, Λ.2.2.2.1, Λ.2.2.2.2.1, Λ.2.2.2.2.2.1, Λ.2.2.2.2.2.2.1, X)
theorem XT_keep {adK adV : Nat → Nat} {tS : Value} {A : Nat → Prop} {u U : State} {H H1 : Heap} (hvm : u.vm.Alike U.vm) (hq : ∀ q : Nat, q < H.size → ¬ A q → H1[q]? = H[q]?) (h : XT adK adV tS A u H) : XT adK adV tS A U H1 :=
  ⟨(h.1.moved hvm).kept hq, (h.2.1.moved hvm).kept hq, h.2.2.1, (h.2.2.2.moved hvm).kept hq⟩
theorem LX_ok {κ : Type} {Λ : jL κ} {adK adV : Nat → Nat} {tS : Value} (h : jLok Λ) : jLok (LX Λ (XT adK adV tS Λ.2.2.2.2.2.1)) :=
  ⟨h.1, h.2.1, h.2.2.1, h.2.2.2.1, fun _ _ _ _ hW hX _ hq => XT_keep hW.alike hq hX⟩
section ST
variable {κ ρ : Type} {Γ : jG ρ} {Λ : jL κ} {cs : Nat × Nat} {pc : Nat} {ls : List (Nat × Value)} {st : List Value} {v : κ → Nat → Int32} {ex : Option ρ} {cc : ByteArray} {own : String} {Ts : List Cond} {rm : Room}
theorem st_gets (hG : jOk Γ Λ cc own Ts rm) {C n d : String} {x : Value} {index : Nat} (pc2 : Nat) (hp : pc + 3 = pc2) (hZ : va_Z C n d x Λ.2.2.2.2.2.1 Γ.1.2.2.2.2.1 Γ.1.2.2.2.2.1.heap) (hw : Cond.fieldLink own index C n d ∈ Ts) (dd : decode cc pc = .ok (.getstatic index, 3)) (k : Sm Γ Λ cs pc2 ls (x :: st) v ex) : Sm Γ Λ cs pc ls st v ex := by
  subst hp; intro r hr a H locs ha hR hS
  exact va_gets hG.1 hG.2.1 hZ hS hG.2.2.2.1 (hG.2.2.2.2.1 _ hw) (fun _ h => h) dd (k r hr a H locs ha hR hS)
theorem sm_gst (hG : jOk Γ Λ cc own Ts rm) {C n d host : String} {x : Value} {index : Nat} (pc2 : Nat) (hp : pc + 3 = pc2) (hZ : va_Z C n d x Λ.2.2.2.2.2.1 Γ.1.2.2.2.2.1 Γ.1.2.2.2.2.1.heap) (hw : va_Nw (.fieldLinkNest own index C n d host) Γ.1.2.2.2.2.1) (dd : decode cc pc = .ok (.getstatic index, 3)) (k : Sm Γ Λ cs pc2 ls (x :: st) v ex) : Sm Γ Λ cs pc ls st v ex := by
  subst hp; intro r hr a H locs ha hR hS
  exact va_getsN hG.1 hG.2.1 hZ hS hG.2.2.2.1 (va_Nw.use rfl hw) (fun _ h => h) dd (k r hr a H locs ha hR hS)
theorem sm_tld (hG : jOk Γ Λ cc own Ts rm) {t N : Nat} {f : Nat → Int32} {i : Int32} (pc2 : Nat) (hp : pc + 1 = pc2) (hT : va_T .int t N (fun j => .int (f j)) Λ.2.2.2.2.2.1 Γ.1.2.2.2.2.1 Γ.1.2.2.2.2.1.heap) (dd : decode cc pc = .ok (.iaload, 1)) (k : Sm Γ Λ cs pc2 ls (.int (f (ix i)) :: st) v ex) : Sm Γ Λ cs pc ls (.int i :: .ref t :: st) v (ck (inb i N) ex) := by
  subst hp; intro r hr a H locs ha hR hS
  obtain ⟨hb, hr⟩ := ck_s hr
  exact va_ti hG.1 hG.2.1 hT hS (inb_in hb) rfl dd (k r hr a H locs ha hR hS)
theorem st_bld (hG : jOk Γ Λ cc own Ts rm) {t N : Nat} {f : Nat → Int32} {i : Int32} (pc2 : Nat) (hp : pc + 1 = pc2) (hT : va_T .byte t N (fun j => .int (f j)) Λ.2.2.2.2.2.1 Γ.1.2.2.2.2.1 Γ.1.2.2.2.2.1.heap) (dd : decode cc pc = .ok (.baload, 1)) (k : Sm Γ Λ cs pc2 ls (.int (f (ix i)) :: st) v ex) : Sm Γ Λ cs pc ls (.int i :: .ref t :: st) v (ck (inb i N) ex) := by
  subst hp; intro r hr a H locs ha hR hS
  obtain ⟨hb, hr⟩ := ck_s hr
  exact va_tb hG.1 hG.2.1 hT hS (inb_in hb) rfl dd (k r hr a H locs ha hR hS)
theorem st_len (hG : jOk Γ Λ cc own Ts rm) {ty : FieldType} {t N : Nat} {f : Nat → Value} (pc2 : Nat) (hp : pc + 1 = pc2) (hT : va_T ty t N f Λ.2.2.2.2.2.1 Γ.1.2.2.2.2.1 Γ.1.2.2.2.2.1.heap) (dd : decode cc pc = .ok (.arraylength, 1)) (k : Sm Γ Λ cs pc2 ls (.int (Int32.ofNat N) :: st) v ex) : Sm Γ Λ cs pc ls (.ref t :: st) v ex := by
  subst hp; intro r hr a H locs ha hR hS
  exact va_tlen hG.1 hG.2.1 hT hS rfl dd (k r hr a H locs ha hR hS)
theorem st_getf (hG : jOk Γ Λ cc own Ts rm) {o n d : String} {q : Nat} {x : Value} {index : Nat} (pc2 : Nat) (hp : pc + 3 = pc2) (hE : va_OF o n d x q Λ.2.2.2.2.2.1 Γ.1.2.2.2.2.1 Γ.1.2.2.2.2.1.heap) (hw : Cond.fieldLink own index o n d ∈ Ts) (dd : decode cc pc = .ok (.getfield index, 3)) (k : Sm Γ Λ cs pc2 ls (x :: st) v ex) : Sm Γ Λ cs pc ls (.ref q :: st) v ex := by
  subst hp; intro r hr a H locs ha hR hS
  exact vk_getf hG.1 hG.2.1 hE hS hG.2.2.2.1 (hG.2.2.2.2.1 _ hw) (fun _ h => h) dd (k r hr a H locs ha hR hS)
theorem sm_ldcs (hG : jOk Γ Λ cc own Ts rm) {tx : String} {q index : Nat} (pc2 : Nat) (hp : pc + 2 = pc2) (hZ : vk_R own index tx q Γ.1.2.2.2.2.1) (dd : decode cc pc = .ok (.ldc index, 2)) (k : Sm Γ Λ cs pc2 ls (.ref q :: st) v ex) : Sm Γ Λ cs pc ls st v ex := by
  subst hp; intro r hr a H locs ha hR hS
  exact va_ldcS hG.1 hG.2.1 hG.2.2.2.1 hZ dd (k r hr a H locs ha hR hS)
theorem st_i2b (hG : jOk Γ Λ cc own Ts rm) {x : Int32} (pc2 : Nat) (hp : pc + 1 = pc2) (dd : decode cc pc = .ok (.i2b, 1)) (k : Sm Γ Λ cs pc2 ls (.int x.toInt8.toInt32 :: st) v ex) : Sm Γ Λ cs pc ls (.int x :: st) v ex := by
  subst hp; intro r hr a H locs ha hR hS; exact lv_i2b hG.1 hG.2.1 dd rfl (k r hr a H locs ha hR hS)
theorem st_max (hG : jOk Γ Λ cc own Ts rm) {x y : Int32} {index : Nat} (pc2 : Nat) (hp : pc + 3 = pc2) (w1 : Cond.methodLink own index Lib.Math.max.name ∈ Ts) (w2 : Cond.static Lib.Math.max.name ∈ Ts) (w3 : Cond.initialized "java/lang/Math" ∈ Ts) (w4 : Cond.code Lib.Math.max.name Lib.Math.max.code 2 (some .int) ∈ Ts) (hf : 1 ≤ rm.frames) (hl : (st.map fun v => v.category).sum + 13 ≤ rm.locals) (hc : cs.1 ≤ rm.cells ∧ cs.2 ≤ rm.slots) (dd : decode cc pc = .ok (.invokestatic index, 3)) (k : Sm Γ Λ cs pc2 ls (.int (if x < y then y else x) :: st) v ex) : Sm Γ Λ cs pc ls (.int y :: .int x :: st) v ex := by
  subst hp; intro r hr a H locs ha hR hS
  have h8 : Γ.1.2.2.2.1 = rm := hG.2.2.2.2.2.2.2.1
  exact va_mmax hG.1 hG.2.1 (hG.2.2.1.trans ha.1.symm) hG.2.2.2.1 (hG.2.2.2.2.1 _ w1) (hG.2.2.2.2.1 _ w2) (hG.2.2.2.2.1 _ w3) (hG.2.2.2.2.1 _ w4) (by rw [h8]; exact hf) (by rw [h8]; exact hl) (by rw [h8]; exact hc.1) (by rw [h8]; exact hc.2) dd (k r hr a H locs ha hR hS)
theorem st_min (hG : jOk Γ Λ cc own Ts rm) {x y : Int32} {index : Nat} (pc2 : Nat) (hp : pc + 3 = pc2) (w1 : Cond.methodLink own index Lib.Math.min.name ∈ Ts) (w2 : Cond.static Lib.Math.min.name ∈ Ts) (w3 : Cond.initialized "java/lang/Math" ∈ Ts) (w4 : Cond.code Lib.Math.min.name Lib.Math.min.code 2 (some .int) ∈ Ts) (hf : 1 ≤ rm.frames) (hl : (st.map fun v => v.category).sum + 13 ≤ rm.locals) (hc : cs.1 ≤ rm.cells ∧ cs.2 ≤ rm.slots) (dd : decode cc pc = .ok (.invokestatic index, 3)) (k : Sm Γ Λ cs pc2 ls (.int (if y < x then y else x) :: st) v ex) : Sm Γ Λ cs pc ls (.int y :: .int x :: st) v ex := by
  subst hp; intro r hr a H locs ha hR hS
  have h8 : Γ.1.2.2.2.1 = rm := hG.2.2.2.2.2.2.2.1
  exact va_mmin hG.1 hG.2.1 (hG.2.2.1.trans ha.1.symm) hG.2.2.2.1 (hG.2.2.2.2.1 _ w1) (hG.2.2.2.2.1 _ w2) (hG.2.2.2.2.1 _ w3) (hG.2.2.2.2.1 _ w4) (by rw [h8]; exact hf) (by rw [h8]; exact hl) (by rw [h8]; exact hc.1) (by rw [h8]; exact hc.2) dd (k r hr a H locs ha hR hS)
/-- a call on a text -/
theorem sm_callT (hG : jOk Γ Λ cc own Ts rm) {adK adV : Nat → Nat} {tS : Value} {i : Nat} (hX : XT adK adV tS Λ.2.2.2.2.2.1 Γ.1.2.2.2.2.1 Γ.1.2.2.2.2.1.heap) (hi : i < 2) {y : MethodName} {ws ws' : List Cond} {bytes : ByteArray} {maxL n index : Nat} {ret : Option FieldType} {rmc : Room} {x : Int32} (As : List Value) {stk : List Value} (pc2 : Nat) (hp : pc + 3 = pc2)
    (hM : Ct Γ.1.2.1 y ws rmc (LX Λ (XT adK adV tS Λ.2.2.2.2.2.1)) (.ref (adK i) :: As) v (some (.int x)) v) (hT : GoodIn Ts (wsV own index "java/lang/String" y ws)) (hw : ws = Cond.code y bytes maxL ret :: ws') (hd : y.cls = "java/lang/String" ∧ y.cls ≠ "java/lang/invoke/MethodHandle" ∧ y.cls ≠ "java/lang/invoke/VarHandle" ∧ (parseMethodDescriptor y.desc).map (fun d => d.parameters.length) = some n) (hRm : rmc.frames + 1 ≤ rm.frames ∧ 8 + (maxL + 11) + rmc.locals ≤ rm.locals) (hn : As.length = n) (hst : (st.map fun v => v.category).sum ≤ 8) (hz : rmc.cells = 0 ∧ rmc.slots = 0) (hcs : cs.1 ≤ rm.cells ∧ cs.2 ≤ rm.slots) (hstk : As.reverse ++ .ref (adK i) :: st = stk) (d : decode cc pc = .ok (.invokevirtual index, 3))
    (k : Sm Γ Λ cs pc2 ls (.int x :: st) v ex) : Sm Γ Λ cs pc ls stk v ex := by
  subst hp hstk
  intro r hr a H locs ha hR hS
  have hR8 : Γ.1.2.2.2.1 = rm := hG.2.2.2.2.2.2.2.1
  have hM1 := hM
  unfold Ct at hM1
  have hpre : ∀ U : State, U.heap = H → Γ.1.2.2.2.2.1.WarmedH U.vm → St (LX Λ (XT adK adV tS Λ.2.2.2.2.2.1)) v U := fun U hU hW => by
    obtain ⟨s1, s2, s3, -⟩ := jSt_at hG hR hS hW hU
    exact ⟨s1, s2, s3, by rw [hU]; exact XT_keep hW.alike (fun q h1 h2 => hS.2.1 q h1 h2) hX⟩
  have hrun := va_runV (e := Γ.1.2.2.1) (below := Γ.1.2.2.2.2.2.2.2.1) (meth := Γ.1.2.2.2.2.2.2.2.2.1) (R := Γ.1.2.2.2.1) (cells := cs.1) (slots := cs.2) (locs := locs) (H := H) (g := F0 Γ.1.2.2.2.2.2.1 pc a (As.reverse ++ .ref (adK i) :: st)) (As := As) (rest := st) ⟨hG.1, hG.2.1, hG.2.2.1, hG.2.2.2.1, hG.2.2.2.2.1⟩ hM1 (cwV n hG.2.2.2.2.1 hT hw rfl rfl hd (by rw [hR8]; exact hRm)) ⟨jfb (LX_ok hG.2.2.2.2.2.2.1), vk_recv hX.1 hi hS, fun U hU hW => ⟨rfl, hpre U hU hW⟩⟩ rfl hn ha.1 rfl (lv_room hst) d (by rw [hz.1, hz.2, hR8]; exact hcs)
  refine sm_after hG (fun _ h => h) hS ha hrun hr ?_
  rw [hz.1, hz.2]
  exact k
end ST
section TW
variable {κ : Type} {Λ : jL κ} {adK adV : Nat → Nat} {tS : Value} {l : Launch} {v : κ → Nat → Int32}
/-- the layout carries what the walks over texts ask -/
def TL (Λ : jL κ) (adK adV : Nat → Nat) (tS : Value) : Prop := jLok Λ ∧ ∀ U H, Λ.2.2.2.2.2.2.2 U H → XT adK adV tS Λ.2.2.2.2.2.1 U H
theorem TL_LX (h : jLok Λ) : TL (LX Λ (XT adK adV tS Λ.2.2.2.2.2.1)) adK adV tS := ⟨LX_ok h, fun _ _ h => h⟩
theorem TL_in (h : TL Λ adK adV tS) : TL (LX Λ (XT adK adV tS Λ.2.2.2.2.2.1)) adK adV tS := TL_LX h.1
abbrev rmT0 : Room := { frames := 0, cells := 0, slots := 0, locals := 0 }
set_option maxRecDepth 100000 in
theorem c_T_isLatin1 (hT : TL Λ adK adV tS) {i : Nat} (hi : i < 2) : Ct l yJ0_isLatin1_aae02 wsJ0_isLatin1_aae02 rmT0 Λ [.ref (adK i)] v (some (.int 1)) v := by
  refine ct_of (cc := cJ0_isLatin1_aae02) (maxL := 1) (ret := some .boolean) (r := ()) (ex := if (1 : Int32) = 0 then none else if (0 : Int32) = 0 then some () else none) (fun _ => (some (.int 1), v)) hT.1 rfl (by decide) rfl (Nat.le_of_ble_eq_true rfl) (fun Γ hG hR hN hl => ?_)
  subst hl
  obtain ⟨hVS, hCS, hSF⟩ := hT.2 _ _ hG.2.2.2.2.2.2.2.2.2
  show Sm Γ Λ (0, 0) 0 [(0, .ref (adK i))] [] v _
  refine st_gets hG 3 rfl hCS (by decide +kernel) dJ0_isLatin1_aae02_0 ?_
  refine sm_if_eq hG 17 6 rfl dJ0_isLatin1_aae02_3 (by decide) sm_none ?_
  refine sm_aload_n hG 7 rfl dJ0_isLatin1_aae02_6 rfl 0 rfl ?_
  refine st_getf hG 10 rfl (hVS.1 i hi).2.1 (by decide +kernel) dJ0_isLatin1_aae02_7 ?_
  refine sm_if_ne hG 17 13 rfl dJ0_isLatin1_aae02_10 (by decide) sm_none ?_
  refine sm_iconst (x := (1 : Int32)) hG 14 rfl dJ0_isLatin1_aae02_13 rfl ?_
  refine sm_goto hG 18 dJ0_isLatin1_aae02_14 (by decide) ?_
  exact sm_zret hG hR ⟨Nat.zero_le _, Nat.zero_le _⟩ dJ0_isLatin1_aae02_18 rfl rfl
set_option maxRecDepth 100000 in
theorem c_T_coder (hT : TL Λ adK adV tS) {i : Nat} (hi : i < 2) : Ct l yJ0_coder_7d493 wsJ0_coder_7d493 rmT0 Λ [.ref (adK i)] v (some (.int 0)) v := by
  refine ct_of (cc := cJ0_coder_7d493) (maxL := 1) (ret := some .byte) (r := ()) (ex := if (1 : Int32) = 0 then none else some ()) (fun _ => (some (.int 0), v)) hT.1 rfl (by decide) rfl (Nat.le_of_ble_eq_true rfl) (fun Γ hG hR hN hl => ?_)
  subst hl
  obtain ⟨hVS, hCS, hSF⟩ := hT.2 _ _ hG.2.2.2.2.2.2.2.2.2
  show Sm Γ Λ (0, 0) 0 [(0, .ref (adK i))] [] v _
  refine st_gets hG 3 rfl hCS (by decide +kernel) dJ0_coder_7d493_0 ?_
  refine sm_if_eq hG 13 6 rfl dJ0_coder_7d493_3 (by decide) sm_none ?_
  refine sm_aload_n hG 7 rfl dJ0_coder_7d493_6 rfl 0 rfl ?_
  refine st_getf hG 10 rfl (hVS.1 i hi).2.1 (by decide +kernel) dJ0_coder_7d493_7 ?_
  refine sm_goto hG 14 dJ0_coder_7d493_10 (by decide) ?_
  exact sm_zret hG hR ⟨Nat.zero_le _, Nat.zero_le _⟩ dJ0_coder_7d493_14 rfl rfl
abbrev rmT1 : Room := { frames := 1, cells := 0, slots := 0, locals := 40 }
theorem tl_shr : ∀ i, i < 2 → Int32.ofNat (tLen.getD i 0) >>> ((0 : Int32) &&& 31) = nI (tLen.getD i 0) := by decide
set_option maxRecDepth 100000 in
theorem c_T_length (hT : TL Λ adK adV tS) {i : Nat} (hi : i < 2) : Ct l yJ0_length_8abf5 wsJ0_length_8abf5 rmT1 Λ [.ref (adK i)] v (some (.int (nI (tLen.getD i 0)))) v := by
  refine ct_of (cc := cJ0_length_8abf5) (maxL := 1) (ret := some .int) (r := ()) (ex := some ()) (fun _ => (some (.int (nI (tLen.getD i 0))), v)) hT.1 rfl (by decide) rfl (Nat.le_of_ble_eq_true rfl) (fun Γ hG hR hN hl => ?_)
  subst hl
  have hX := hT.2 _ _ hG.2.2.2.2.2.2.2.2.2
  have hX2 := hX
  obtain ⟨hVS, hCS, hSF⟩ := hX2
  show Sm Γ Λ (0, 0) 0 [(0, .ref (adK i))] [] v _
  refine sm_aload_n hG 1 rfl dJ0_length_8abf5_0 rfl 0 rfl ?_
  refine st_getf hG 4 rfl (hVS.1 i hi).2.2.1 (by decide +kernel) dJ0_length_8abf5_1 ?_
  refine st_len hG 5 rfl (hVS.1 i hi).2.2.2 dJ0_length_8abf5_4 ?_
  refine sm_aload_n hG 6 rfl dJ0_length_8abf5_5 rfl 0 rfl ?_
  refine sm_callT hG hX hi [] 9 rfl (c_T_coder (TL_in hT) hi) gJ0_length_8abf5_J0_coder_7d493 rfl (by decide) (by decide) (n := 0) rfl (Nat.le_of_ble_eq_true rfl) (by decide) ⟨Nat.zero_le _, Nat.zero_le _⟩ rfl dJ0_length_8abf5_6 ?_
  refine sm_ishr hG 10 rfl dJ0_length_8abf5_9 ?_
  rw [tl_shr i hi]
  exact sm_iret hG hR ⟨Nat.zero_le _, Nat.zero_le _⟩ dJ0_length_8abf5_10 rfl
def canE (c : Int32) : Int32 := if c < 0 then 0 else if 255 < c then 0 else 1
theorem canE_e (c : Int32) : (if c < 0 then some (0 : Int32) else if 255 < c then some 0 else some 1) = some (canE c) := by
  unfold canE
  by_cases h : c < 0
  · rw [if_pos h, if_pos h]
  · rw [if_neg h, if_neg h]
    by_cases h2 : 255 < c
    · rw [if_pos h2, if_pos h2]
    · rw [if_neg h2, if_neg h2]
set_option maxRecDepth 100000 in
theorem c_T_canEncode (hT : TL Λ adK adV tS) (c : Int32) : Ct l yJ1_canEncode_9a6ad wsJ1_canEncode_9a6ad rmT0 Λ [.int c] v (some (.int (canE c))) v := by
  refine ct_of (cc := cJ1_canEncode_9a6ad) (maxL := 1) (ret := some .boolean) (r := canE c) (ex := if c < 0 then some (0 : Int32) else if 255 < c then some 0 else some 1) (fun x => (some (.int x), v)) hT.1 (canE_e c) (by decide) rfl (Nat.le_of_ble_eq_true rfl) (fun Γ hG hR hN hl => ?_)
  subst hl
  show Sm Γ Λ (0, 0) 0 [(0, .int c)] [] v _
  refine sm_iload_n hG 1 rfl dJ1_canEncode_9a6ad_0 rfl 0 rfl ?_
  refine sm_if_lt hG 15 4 rfl dJ1_canEncode_9a6ad_1 (by decide) ?_ ?_
  · refine sm_iconst (x := (0 : Int32)) hG 16 rfl dJ1_canEncode_9a6ad_15 rfl ?_
    exact sm_zret hG hR ⟨Nat.zero_le _, Nat.zero_le _⟩ dJ1_canEncode_9a6ad_16 rfl rfl
  refine sm_iload_n hG 5 rfl dJ1_canEncode_9a6ad_4 rfl 0 rfl ?_
  refine sm_sipush (x := (255 : Int32)) hG 8 rfl dJ1_canEncode_9a6ad_5 rfl ?_
  refine sm_icmp_gt hG 15 11 rfl dJ1_canEncode_9a6ad_8 (by decide) ?_ ?_
  · refine sm_iconst (x := (0 : Int32)) hG 16 rfl dJ1_canEncode_9a6ad_15 rfl ?_
    exact sm_zret hG hR ⟨Nat.zero_le _, Nat.zero_le _⟩ dJ1_canEncode_9a6ad_16 rfl rfl
  refine sm_iconst (x := (1 : Int32)) hG 12 rfl dJ1_canEncode_9a6ad_11 rfl ?_
  refine sm_goto hG 16 dJ1_canEncode_9a6ad_12 (by decide) ?_
  exact sm_zret hG hR ⟨Nat.zero_le _, Nat.zero_le _⟩ dJ1_canEncode_9a6ad_16 rfl rfl
/-- the search -/
def ixL (B : List Int32) (n : Nat) (c : Int32) (self : Int32 → Option Int32) : Int32 → Option Int32 := fun x => if Int32.ofNat n ≤ x then some (-1) else ck (inb x n) (if B.getD (ix x) 0 = c then some x else self (x + (1 : Int32)))
theorem ixL_e : ∀ i, i < 2 → ∀ n, n < 256 → lp (fun _ => none) (ixL (tByt.getD i []) (tLen.getD i 0) (nI n).toInt8.toInt32) 100 0 = some (sIxF (nI n) (tByt.getD i []) 0) := by decide +kernel
theorem sIx_out {c : Int32} : ∀ {l : List Int32}, (∀ b ∈ l, ¬ b = c) → ∀ k, sIxF c l k = -1
  | [], _, _ => rfl
  | b :: l, h, k => by
    show (if b = c then nI k else sIxF c l (k + 1)) = -1
    rw [if_neg (h b List.mem_cons_self)]
    exact sIx_out (fun x hx => h x (List.mem_cons_of_mem _ hx)) (k + 1)
theorem tB_s : ∀ i, i < 2 → ∀ b ∈ tByt.getD i [], 0 ≤ b ∧ b ≤ 255 := by decide
theorem canE_0 {c : Int32} {i : Nat} (hi : i < 2) (h : canE c = 0) : sIxF c (tByt.getD i []) 0 = -1 := by
  refine sIx_out (fun b hb e => ?_) 0
  obtain ⟨h1, h2⟩ := tB_s i hi b hb
  rw [e] at h1 h2
  unfold canE at h
  rw [if_neg (Int32.not_lt.mpr h1), if_neg (Int32.not_lt.mpr h2)] at h
  exact absurd h (by decide)
theorem canE_1 {c : Int32} (h : ¬ canE c = 0) : ∃ n, n < 256 ∧ c = nI n := by
  unfold canE at h
  by_cases h1 : c < 0
  · rw [if_pos h1] at h; exact absurd rfl h
  · rw [if_neg h1] at h
    by_cases h2 : 255 < c
    · rw [if_pos h2] at h; exact absurd rfl h
    · obtain ⟨n, hn, rfl⟩ := nI_of h1
      refine ⟨n, ?_, rfl⟩
      refine Nat.lt_of_not_le fun q => h2 ?_
      exact nI_lt (a := 255) (b := n) (by omega) hn
abbrev rmT0b : Room := { frames := 0, cells := 0, slots := 0, locals := 0 }
set_option maxRecDepth 100000 in
theorem c_T_indexOfChar (hT : TL Λ adK adV tS) {i : Nat} (hi : i < 2) {c r : Int32} (hr : lp (fun _ => none) (ixL (tByt.getD i []) (tLen.getD i 0) c.toInt8.toInt32) 100 0 = some r) : Ct l yJ1_indexOfChar_4cfef wsJ1_indexOfChar_4cfef rmT0 Λ [.ref (adV i), .int c, .int 0, .int (Int32.ofNat (tLen.getD i 0))] v (some (.int r)) v := by
  refine ct_of (cc := cJ1_indexOfChar_4cfef) (maxL := 6) (ret := some .int) (fun x => (some (.int x), v)) hT.1 hr (by decide) rfl (Nat.le_of_ble_eq_true rfl) (fun Γ hG hR hN hl => ?_)
  subst hl
  obtain ⟨hVS, hCS, hSF⟩ := hT.2 _ _ hG.2.2.2.2.2.2.2.2.2
  show Sm Γ Λ (0, 0) 0 [(0, .ref (adV i)), (1, .int c), (2, .int 0), (3, .int (Int32.ofNat (tLen.getD i 0)))] [] v _
  refine sm_iload_n hG 1 rfl dJ1_indexOfChar_4cfef_0 rfl 1 rfl ?_
  refine st_i2b hG 2 rfl dJ1_indexOfChar_4cfef_1 ?_
  refine sm_istore hG 4 rfl dJ1_indexOfChar_4cfef_2 (jlt hN rfl) [(4, .int c.toInt8.toInt32), (0, .ref (adV i)), (1, .int c), (2, .int 0), (3, .int (Int32.ofNat (tLen.getD i 0)))] rfl ?_
  refine sm_iload_n hG 5 rfl dJ1_indexOfChar_4cfef_4 rfl 3 rfl ?_
  refine sm_istore hG 7 rfl dJ1_indexOfChar_4cfef_5 (jlt hN rfl) [(5, .int 0), (4, .int c.toInt8.toInt32), (0, .ref (adV i)), (1, .int c), (2, .int 0), (3, .int (Int32.ofNat (tLen.getD i 0)))] rfl ?_
  refine lp_ind (fun (X : Int32 → Option Int32) => ∀ (x : Int32), Sm Γ Λ (0, 0) 7 [(5, .int x), (4, .int c.toInt8.toInt32), (0, .ref (adV i)), (1, .int c), (2, .int 0), (3, .int (Int32.ofNat (tLen.getD i 0)))] [] v (X x)) (fun x => sm_none) (fun self hs x => ?_) 100 0
  refine sm_iload hG 9 rfl dJ1_indexOfChar_4cfef_7 0 rfl ?_
  refine sm_iload_n hG 10 rfl dJ1_indexOfChar_4cfef_9 rfl 5 rfl ?_
  refine sm_icmp_ge hG 31 13 rfl dJ1_indexOfChar_4cfef_10 (by decide) ?_ ?_
  · refine sm_iconst (x := (-1 : Int32)) hG 32 rfl dJ1_indexOfChar_4cfef_31 rfl ?_
    exact sm_iret hG hR ⟨Nat.zero_le _, Nat.zero_le _⟩ dJ1_indexOfChar_4cfef_32 rfl
  refine sm_aload_n hG 14 rfl dJ1_indexOfChar_4cfef_13 rfl 2 rfl ?_
  refine sm_iload hG 16 rfl dJ1_indexOfChar_4cfef_14 0 rfl ?_
  refine st_bld hG 17 rfl (hVS.1 i hi).2.2.2 dJ1_indexOfChar_4cfef_16 ?_
  refine sm_iload hG 19 rfl dJ1_indexOfChar_4cfef_17 1 rfl ?_
  refine sm_icmp_ne hG 25 22 rfl dJ1_indexOfChar_4cfef_19 (by decide) ?_ ?_
  · refine sm_iinc hG 28 rfl dJ1_indexOfChar_4cfef_25 (j := 0) rfl rfl (jlt hN rfl) [(5, .int (x + (1 : Int32))), (4, .int c.toInt8.toInt32), (0, .ref (adV i)), (1, .int c), (2, .int 0), (3, .int (Int32.ofNat (tLen.getD i 0)))] rfl ?_
    refine sm_goto hG 7 dJ1_indexOfChar_4cfef_28 (by decide) ?_
    exact hs _
  · refine sm_iload hG 24 rfl dJ1_indexOfChar_4cfef_22 0 rfl ?_
    exact sm_iret hG hR ⟨Nat.zero_le _, Nat.zero_le _⟩ dJ1_indexOfChar_4cfef_24 rfl
abbrev rmT2 : Room := { frames := 1, cells := 0, slots := 0, locals := 30 }
theorem tl_min : ∀ i, i < 2 → (if Int32.ofNat (tLen.getD i 0) < nI (tLen.getD i 0) then Int32.ofNat (tLen.getD i 0) else nI (tLen.getD i 0)) = Int32.ofNat (tLen.getD i 0) := by decide
theorem tl_pos : ∀ i, i < 2 → (0 : Int32) < Int32.ofNat (tLen.getD i 0) := by decide
set_option maxRecDepth 100000 in
theorem c_T_indexOf4 (hT : TL Λ adK adV tS) {i : Nat} (hi : i < 2) (c : Int32) : Ct l yJ1_indexOf_4cfef wsJ1_indexOf_4cfef rmT2 Λ [.ref (adV i), .int c, .int 0, .int (nI (tLen.getD i 0))] v (some (.int (sIxF c (tByt.getD i []) 0))) v := by
  refine ct_of (cc := cJ1_indexOf_4cfef) (maxL := 4) (ret := some .int) (ex := if canE c = 0 then some (-1 : Int32) else if (0 : Int32) < Int32.ofNat (tLen.getD i 0) then lp (fun _ => none) (ixL (tByt.getD i []) (tLen.getD i 0) c.toInt8.toInt32) 100 0 else none) (fun x => (some (.int x), v)) hT.1 (by
    by_cases h : canE c = 0
    · rw [if_pos h, canE_0 hi h]
    · obtain ⟨n, hn, e⟩ := canE_1 h
      rw [if_neg h, if_pos (tl_pos i hi), e, ixL_e i hi n hn]) (by decide) rfl (Nat.le_of_ble_eq_true rfl) (fun Γ hG hR hN hl => ?_)
  subst hl
  have hX := hT.2 _ _ hG.2.2.2.2.2.2.2.2.2
  have hX2 := hX
  obtain ⟨hVS, hCS, hSF⟩ := hX2
  show Sm Γ Λ (0, 0) 0 [(0, .ref (adV i)), (1, .int c), (2, .int 0), (3, .int (nI (tLen.getD i 0)))] [] v _
  refine sm_iload_n hG 1 rfl dJ1_indexOf_4cfef_0 rfl 1 rfl ?_
  refine sm_callS hG (F := some (canE c)) (e2 := fun q => if q = 0 then some (-1 : Int32) else if (0 : Int32) < Int32.ofNat (tLen.getD i 0) then lp (fun _ => none) (ixL (tByt.getD i []) (tLen.getD i 0) c.toInt8.toInt32) 100 0 else none) (fun (q : Int32) => (some (Value.int q), v)) [.int c] 4 rfl (fun r_ h_ => Option.some.inj h_ ▸ c_T_canEncode hT c) gJ1_indexOf_4cfef_J1_canEncode_9a6ad rfl (by decide) (by decide) (n := 1) rfl (Nat.le_of_ble_eq_true rfl) (by decide) ⟨Nat.zero_le _, Nat.zero_le _⟩ rfl dJ1_indexOf_4cfef_1 (fun q => ?_)
  refine sm_if_ne hG 9 7 rfl dJ1_indexOf_4cfef_4 (by decide) ?_ ?_
  · refine sm_iload_n hG 10 rfl dJ1_indexOf_4cfef_9 rfl 2 rfl ?_
    refine sm_iconst (x := (0 : Int32)) hG 11 rfl dJ1_indexOf_4cfef_10 rfl ?_
    refine st_max hG 14 rfl (by decide +kernel) (by decide +kernel) (by decide +kernel) (by decide +kernel) (by decide) (by decide) ⟨Nat.zero_le _, Nat.zero_le _⟩ dJ1_indexOf_4cfef_11 ?_
    show Sm Γ Λ (0, 0) 14 _ [.int 0] v _
    refine sm_istore_n hG 15 rfl dJ1_indexOf_4cfef_14 rfl (jlt hN rfl) [(2, .int 0), (0, .ref (adV i)), (1, .int c), (3, .int (nI (tLen.getD i 0)))] rfl ?_
    refine sm_iload_n hG 16 rfl dJ1_indexOf_4cfef_15 rfl 3 rfl ?_
    refine sm_aload_n hG 17 rfl dJ1_indexOf_4cfef_16 rfl 1 rfl ?_
    refine st_len hG 18 rfl (hVS.1 i hi).2.2.2 dJ1_indexOf_4cfef_17 ?_
    refine st_min hG 21 rfl (by decide +kernel) (by decide +kernel) (by decide +kernel) (by decide +kernel) (by decide) (by decide) ⟨Nat.zero_le _, Nat.zero_le _⟩ dJ1_indexOf_4cfef_18 ?_
    rw [tl_min i hi]
    refine sm_istore_n hG 22 rfl dJ1_indexOf_4cfef_21 rfl (jlt hN rfl) [(3, .int (Int32.ofNat (tLen.getD i 0))), (2, .int 0), (0, .ref (adV i)), (1, .int c)] rfl ?_
    refine sm_iload_n hG 23 rfl dJ1_indexOf_4cfef_22 rfl 1 rfl ?_
    refine sm_iload_n hG 24 rfl dJ1_indexOf_4cfef_23 rfl 0 rfl ?_
    refine sm_icmp_lt hG 29 27 rfl dJ1_indexOf_4cfef_24 (by decide) ?_ sm_none
    refine sm_aload_n hG 30 rfl dJ1_indexOf_4cfef_29 rfl 2 rfl ?_
    refine sm_iload_n hG 31 rfl dJ1_indexOf_4cfef_30 rfl 3 rfl ?_
    refine sm_iload_n hG 32 rfl dJ1_indexOf_4cfef_31 rfl 1 rfl ?_
    refine sm_iload_n hG 33 rfl dJ1_indexOf_4cfef_32 rfl 0 rfl ?_
    have e : ∀ F : Option Int32, F = F.bind fun q => some q := fun F => by cases F <;> rfl
    rw [e (lp (fun _ => none) (ixL (tByt.getD i []) (tLen.getD i 0) c.toInt8.toInt32) 100 0)]
    refine sm_callS hG (fun (q : Int32) => (some (Value.int q), v)) [.ref (adV i), .int c, .int 0, .int (Int32.ofNat (tLen.getD i 0))] 36 rfl (fun r_ h_ => c_T_indexOfChar hT hi h_) gJ1_indexOf_4cfef_J1_indexOfChar_4cfef rfl (by decide) (by decide) (n := 4) rfl (Nat.le_of_ble_eq_true rfl) (by decide) ⟨Nat.zero_le _, Nat.zero_le _⟩ rfl dJ1_indexOf_4cfef_33 (fun q => ?_)
    exact sm_iret hG hR ⟨Nat.zero_le _, Nat.zero_le _⟩ dJ1_indexOf_4cfef_36 rfl
  · refine sm_iconst (x := (-1 : Int32)) hG 8 rfl dJ1_indexOf_4cfef_7 rfl ?_
    exact sm_iret hG hR ⟨Nat.zero_le _, Nat.zero_le _⟩ dJ1_indexOf_4cfef_8 rfl
abbrev rmT3 : Room := { frames := 3, cells := 0, slots := 0, locals := 80 }
set_option maxRecDepth 100000 in
theorem c_T_indexOf2 (hT : TL Λ adK adV tS) {i : Nat} (hi : i < 2) (c : Int32) : Ct l yJ0_indexOf_7cf53 wsJ0_indexOf_7cf53 rmT3 Λ [.ref (adK i), .int c, .int 0] v (some (.int (sIxF c (tByt.getD i []) 0))) v := by
  refine ct_of (cc := cJ0_indexOf_7cf53) (maxL := 3) (ret := some .int) (r := sIxF c (tByt.getD i []) 0) (ex := if (1 : Int32) = 0 then none else some (sIxF c (tByt.getD i []) 0)) (fun x => (some (.int x), v)) hT.1 rfl (by decide) rfl (Nat.le_of_ble_eq_true rfl) (fun Γ hG hR hN hl => ?_)
  subst hl
  have hX := hT.2 _ _ hG.2.2.2.2.2.2.2.2.2
  have hX2 := hX
  obtain ⟨hVS, hCS, hSF⟩ := hX2
  show Sm Γ Λ (0, 0) 0 [(0, .ref (adK i)), (1, .int c), (2, .int 0)] [] v _
  refine sm_aload_n hG 1 rfl dJ0_indexOf_7cf53_0 rfl 0 rfl ?_
  refine sm_callT hG hX hi [] 4 rfl (c_T_isLatin1 (TL_in hT) hi) gJ0_indexOf_7cf53_J0_isLatin1_aae02 rfl (by decide) (by decide) (n := 0) rfl (Nat.le_of_ble_eq_true rfl) (by decide) ⟨Nat.zero_le _, Nat.zero_le _⟩ rfl dJ0_indexOf_7cf53_1 ?_
  refine sm_if_eq hG 23 7 rfl dJ0_indexOf_7cf53_4 (by decide) sm_none ?_
  refine sm_aload_n hG 8 rfl dJ0_indexOf_7cf53_7 rfl 0 rfl ?_
  refine st_getf hG 11 rfl (hVS.1 i hi).2.2.1 (by decide +kernel) dJ0_indexOf_7cf53_8 ?_
  refine sm_iload_n hG 12 rfl dJ0_indexOf_7cf53_11 rfl 1 rfl ?_
  refine sm_iload_n hG 13 rfl dJ0_indexOf_7cf53_12 rfl 2 rfl ?_
  refine sm_aload_n hG 14 rfl dJ0_indexOf_7cf53_13 rfl 0 rfl ?_
  refine sm_callT hG hX hi [] 17 rfl (c_T_length (TL_in hT) hi) gJ0_indexOf_7cf53_J0_length_8abf5 rfl (by decide) (by decide) (n := 0) rfl (Nat.le_of_ble_eq_true rfl) (by decide) ⟨Nat.zero_le _, Nat.zero_le _⟩ rfl dJ0_indexOf_7cf53_14 ?_
  refine sm_callS hG (F := some (sIxF c (tByt.getD i []) 0)) (e2 := fun q => some q) (fun (q : Int32) => (some (Value.int q), v)) [.ref (adV i), .int c, .int 0, .int (nI (tLen.getD i 0))] 20 rfl (fun r_ h_ => Option.some.inj h_ ▸ c_T_indexOf4 hT hi c) gJ0_indexOf_7cf53_J1_indexOf_4cfef rfl (by decide) (by decide) (n := 4) rfl (Nat.le_of_ble_eq_true rfl) (by decide) ⟨Nat.zero_le _, Nat.zero_le _⟩ rfl dJ0_indexOf_7cf53_17 (fun q => ?_)
  refine sm_goto hG 36 dJ0_indexOf_7cf53_20 (by decide) ?_
  exact sm_iret hG hR ⟨Nat.zero_le _, Nat.zero_le _⟩ dJ0_indexOf_7cf53_36 rfl
abbrev rmT4 : Room := { frames := 4, cells := 0, slots := 0, locals := 110 }
set_option maxRecDepth 100000 in
theorem c_T_indexOf (hT : TL Λ adK adV tS) {i : Nat} (hi : i < 2) (c : Int32) : Ct l yJ0_indexOf_0f7a4 wsJ0_indexOf_0f7a4 rmT4 Λ [.ref (adK i), .int c] v (some (.int (sIxF c (tByt.getD i []) 0))) v := by
  refine ct_of (cc := cJ0_indexOf_0f7a4) (maxL := 2) (ret := some .int) (r := sIxF c (tByt.getD i []) 0) (ex := some (sIxF c (tByt.getD i []) 0)) (fun x => (some (.int x), v)) hT.1 rfl (by decide) rfl (Nat.le_of_ble_eq_true rfl) (fun Γ hG hR hN hl => ?_)
  subst hl
  have hX := hT.2 _ _ hG.2.2.2.2.2.2.2.2.2
  show Sm Γ Λ (0, 0) 0 [(0, .ref (adK i)), (1, .int c)] [] v _
  refine sm_aload_n hG 1 rfl dJ0_indexOf_0f7a4_0 rfl 0 rfl ?_
  refine sm_iload_n hG 2 rfl dJ0_indexOf_0f7a4_1 rfl 1 rfl ?_
  refine sm_iconst (x := (0 : Int32)) hG 3 rfl dJ0_indexOf_0f7a4_2 rfl ?_
  refine sm_callT hG hX hi [.int c, .int 0] 6 rfl (c_T_indexOf2 (TL_in hT) hi c) gJ0_indexOf_0f7a4_J0_indexOf_7cf53 rfl (by decide) (by decide) (n := 2) rfl (Nat.le_of_ble_eq_true rfl) (by decide) ⟨Nat.zero_le _, Nat.zero_le _⟩ rfl dJ0_indexOf_0f7a4_3 ?_
  exact sm_iret hG hR ⟨Nat.zero_le _, Nat.zero_le _⟩ dJ0_indexOf_0f7a4_6 rfl
theorem dJ3_chk_0 : decode cJ3_checkIndex_8e157 0 = .ok (.iload_n 0, 1) := by decide +kernel
theorem dJ3_chk_1 : decode cJ3_checkIndex_8e157 1 = .ok (.ifCond .lt 8, 3) := by decide +kernel
theorem dJ3_chk_4 : decode cJ3_checkIndex_8e157 4 = .ok (.iload_n 0, 1) := by decide +kernel
theorem dJ3_chk_5 : decode cJ3_checkIndex_8e157 5 = .ok (.iload_n 1, 1) := by decide +kernel
theorem dJ3_chk_6 : decode cJ3_checkIndex_8e157 6 = .ok (.if_icmp .lt 10, 3) := by decide +kernel
theorem dJ3_chk_16 : decode cJ3_checkIndex_8e157 16 = .ok (.iload_n 0, 1) := by decide +kernel
theorem dJ3_chk_17 : decode cJ3_checkIndex_8e157 17 = .ok (.ireturn, 1) := by decide +kernel
set_option maxRecDepth 100000 in
theorem c_T_chk3 (hT : TL Λ adK adV tS) {x n : Int32} {q : Value} (hq : q = .null ∨ ∃ t : Nat, q = .ref t) (h0 : ¬ x < 0) (h1 : x < n) : Ct l yJ3_checkIndex_8e157 wsJ3_checkIndex_8e157 rmT0 Λ [.int x, .int n, q] v (some (.int x)) v := by
  rcases hq with rfl | ⟨q, rfl⟩
  · refine ct_of (cc := cJ3_checkIndex_8e157) (maxL := 3) (ret := some .int) (r := x) (ex := if x < 0 then none else if x < n then some x else none) (fun x => (some (.int x), v)) hT.1 (by rw [if_neg h0, if_pos h1]) (by decide) rfl (Nat.le_of_ble_eq_true rfl) (fun Γ hG hR hN hl => ?_)
    subst hl
    show Sm Γ Λ (0, 0) 0 [(0, .int x), (1, .int n), (2, .null)] [] v _
    refine sm_iload_n hG 1 rfl dJ3_chk_0 rfl 0 rfl ?_
    refine sm_if_lt hG 9 4 rfl dJ3_chk_1 (by decide) sm_none ?_
    refine sm_iload_n hG 5 rfl dJ3_chk_4 rfl 0 rfl ?_
    refine sm_iload_n hG 6 rfl dJ3_chk_5 rfl 1 rfl ?_
    refine sm_icmp_lt hG 16 9 rfl dJ3_chk_6 (by decide) ?_ sm_none
    refine sm_iload_n hG 17 rfl dJ3_chk_16 rfl 0 rfl ?_
    exact sm_iret hG hR ⟨Nat.zero_le _, Nat.zero_le _⟩ dJ3_chk_17 rfl
  · refine ct_of (cc := cJ3_checkIndex_8e157) (maxL := 3) (ret := some .int) (r := x) (ex := if x < 0 then none else if x < n then some x else none) (fun x => (some (.int x), v)) hT.1 (by rw [if_neg h0, if_pos h1]) (by decide) rfl (Nat.le_of_ble_eq_true rfl) (fun Γ hG hR hN hl => ?_)
    subst hl
    show Sm Γ Λ (0, 0) 0 [(0, .int x), (1, .int n), (2, .ref q)] [] v _
    refine sm_iload_n hG 1 rfl dJ3_chk_0 rfl 0 rfl ?_
    refine sm_if_lt hG 9 4 rfl dJ3_chk_1 (by decide) sm_none ?_
    refine sm_iload_n hG 5 rfl dJ3_chk_4 rfl 0 rfl ?_
    refine sm_iload_n hG 6 rfl dJ3_chk_5 rfl 1 rfl ?_
    refine sm_icmp_lt hG 16 9 rfl dJ3_chk_6 (by decide) ?_ sm_none
    refine sm_iload_n hG 17 rfl dJ3_chk_16 rfl 0 rfl ?_
    exact sm_iret hG hR ⟨Nat.zero_le _, Nat.zero_le _⟩ dJ3_chk_17 rfl
set_option maxRecDepth 100000 in
theorem c_T_chk0 (hT : TL Λ adK adV tS) {x n : Int32} (h0 : ¬ x < 0) (h1 : x < n) : Ct l yJ0_checkIndex_df160 wsJ0_checkIndex_df160 rmT1 Λ [.int x, .int n] v none v := by
  refine ct_of (cc := cJ0_checkIndex_df160) (maxL := 2) (ret := none) (r := ()) (ex := some ()) (fun _ => (none, v)) hT.1 rfl (by decide) rfl (Nat.le_of_ble_eq_true rfl) (fun Γ hG hR hN hl => ?_)
  subst hl
  obtain ⟨hVS, hCS, hSF⟩ := hT.2 _ _ hG.2.2.2.2.2.2.2.2.2
  show Sm Γ Λ (0, 0) 0 [(0, .int x), (1, .int n)] [] v _
  refine sm_iload_n hG 1 rfl dJ0_checkIndex_df160_0 rfl 0 rfl ?_
  refine sm_iload_n hG 2 rfl dJ0_checkIndex_df160_1 rfl 1 rfl ?_
  refine st_gets hG 5 rfl hSF.2 (by decide +kernel) dJ0_checkIndex_df160_2 ?_
  refine sm_callS hG (F := some x) (e2 := fun _ => some ()) (rmc := rmT0) (fun (q : Int32) => (some (Value.int q), v)) [.int x, .int n, tS] 8 rfl (fun r_ h_ => by cases h_; exact c_T_chk3 hT hSF.1 h0 h1) gJ0_checkIndex_df160_J3_checkIndex_8e157 rfl (by decide) (by decide) (n := 3) rfl (Nat.le_of_ble_eq_true rfl) (by decide) ⟨Nat.zero_le _, Nat.zero_le _⟩ rfl dJ0_checkIndex_df160_5 (fun q => ?_)
  refine sm_pop hG 9 rfl dJ0_checkIndex_df160_8 rfl ?_
  exact sm_vret hG hR ⟨Nat.zero_le _, Nat.zero_le _⟩ dJ0_checkIndex_df160_9 rfl
theorem tc_n : ∀ i, i < 2 → ∀ k, k < tLen.getD i 0 → (((tByt.getD i []).getD k 0 &&& 255).toUInt32 % 65536).toInt32 = (tByt.getD i []).getD k 0 ∧ narrow .char (.int ((tByt.getD i []).getD k 0)) = .int ((tByt.getD i []).getD k 0) := by decide
theorem inb_lt {x : Int32} {n : Nat} (hn : n < 2147483648) (h : inb x n = true) : ¬ x < 0 ∧ x < Int32.ofNat n := by
  obtain ⟨k, hk, rfl⟩ := vp_in_of (inb_in h) hn
  exact ⟨nI_nlt (b := 0) (Nat.zero_le _) (by omega), nI_lt (a := k) (b := n) hk (by omega)⟩
theorem tl_b : ∀ i, i < 2 → tLen.getD i 0 < 2147483648 := by decide
abbrev rmT5 : Room := { frames := 2, cells := 0, slots := 0, locals := 65 }
set_option maxRecDepth 100000 in
theorem c_T_charAt1 (hT : TL Λ adK adV tS) {i : Nat} (hi : i < 2) {x : Int32} (hx : inb x (tLen.getD i 0) = true) : Ct l yJ1_charAt_3b067 wsJ1_charAt_3b067 rmT5 Λ [.ref (adV i), .int x] v (some (.int ((tByt.getD i []).getD (ix x) 0))) v := by
  obtain ⟨h0, h1⟩ := inb_lt (tl_b i hi) hx
  obtain ⟨g1, g2⟩ := tc_n i hi (ix x) (inb_ix hx)
  refine ct_of (cc := cJ1_charAt_3b067) (maxL := 2) (ret := some .char) (r := ()) (ex := ck (inb x (tLen.getD i 0)) (some ())) (fun _ => (some (.int ((tByt.getD i []).getD (ix x) 0)), v)) hT.1 (by rw [hx, ck_t]) (by decide) rfl (Nat.le_of_ble_eq_true rfl) (fun Γ hG hR hN hl => ?_)
  subst hl
  obtain ⟨hVS, hCS, hSF⟩ := hT.2 _ _ hG.2.2.2.2.2.2.2.2.2
  show Sm Γ Λ (0, 0) 0 [(0, .ref (adV i)), (1, .int x)] [] v _
  refine sm_iload_n hG 1 rfl dJ1_charAt_3b067_0 rfl 1 rfl ?_
  refine sm_aload_n hG 2 rfl dJ1_charAt_3b067_1 rfl 0 rfl ?_
  refine st_len hG 3 rfl (hVS.1 i hi).2.2.2 dJ1_charAt_3b067_2 ?_
  refine sm_callS hG (F := some ()) (e2 := fun _ => ck (inb x (tLen.getD i 0)) (some ())) (fun (_ : Unit) => ((none : Option Value), v)) [.int x, .int (Int32.ofNat (tLen.getD i 0))] 6 rfl (fun r_ h_ => c_T_chk0 hT h0 h1) gJ1_charAt_3b067_J0_checkIndex_df160 rfl (by decide) (by decide) (n := 2) rfl (Nat.le_of_ble_eq_true rfl) (by decide) ⟨Nat.zero_le _, Nat.zero_le _⟩ rfl dJ1_charAt_3b067_3 (fun q => ?_)
  show Sm Γ Λ (0, 0) 6 _ [] v _
  refine sm_aload_n hG 7 rfl dJ1_charAt_3b067_6 rfl 0 rfl ?_
  refine sm_iload_n hG 8 rfl dJ1_charAt_3b067_7 rfl 1 rfl ?_
  refine st_bld hG 9 rfl (hVS.1 i hi).2.2.2 dJ1_charAt_3b067_8 ?_
  refine sm_sipush (x := (255 : Int32)) hG 12 rfl dJ1_charAt_3b067_9 rfl ?_
  refine sm_iand hG 13 rfl dJ1_charAt_3b067_12 ?_
  refine sm_i2c hG 14 rfl dJ1_charAt_3b067_13 ?_
  rw [g1]
  exact sm_zret hG hR ⟨Nat.zero_le _, Nat.zero_le _⟩ dJ1_charAt_3b067_14 g2 rfl
abbrev rmT6 : Room := { frames := 3, cells := 0, slots := 0, locals := 100 }
set_option maxRecDepth 100000 in
theorem c_T_charAt (hT : TL Λ adK adV tS) {i : Nat} (hi : i < 2) {x : Int32} (hx : inb x (tLen.getD i 0) = true) : Ct l yJ0_charAt_5068e wsJ0_charAt_5068e rmT6 Λ [.ref (adK i), .int x] v (some (.int ((tByt.getD i []).getD (ix x) 0))) v := by
  obtain ⟨g1, g2⟩ := tc_n i hi (ix x) (inb_ix hx)
  refine ct_of (cc := cJ0_charAt_5068e) (maxL := 2) (ret := some .char) (r := (tByt.getD i []).getD (ix x) 0) (ex := if (1 : Int32) = 0 then none else some ((tByt.getD i []).getD (ix x) 0)) (fun y => (some (.int y), v)) hT.1 rfl (by decide) rfl (Nat.le_of_ble_eq_true rfl) (fun Γ hG hR hN hl => ?_)
  subst hl
  have hX := hT.2 _ _ hG.2.2.2.2.2.2.2.2.2
  have hX2 := hX
  obtain ⟨hVS, hCS, hSF⟩ := hX2
  show Sm Γ Λ (0, 0) 0 [(0, .ref (adK i)), (1, .int x)] [] v _
  refine sm_aload_n hG 1 rfl dJ0_charAt_5068e_0 rfl 0 rfl ?_
  refine sm_callT hG hX hi [] 4 rfl (c_T_isLatin1 (TL_in hT) hi) gJ0_charAt_5068e_J0_isLatin1_aae02 rfl (by decide) (by decide) (n := 0) rfl (Nat.le_of_ble_eq_true rfl) (by decide) ⟨Nat.zero_le _, Nat.zero_le _⟩ rfl dJ0_charAt_5068e_1 ?_
  refine sm_if_eq hG 16 7 rfl dJ0_charAt_5068e_4 (by decide) sm_none ?_
  refine sm_aload_n hG 8 rfl dJ0_charAt_5068e_7 rfl 0 rfl ?_
  refine st_getf hG 11 rfl (hVS.1 i hi).2.2.1 (by decide +kernel) dJ0_charAt_5068e_8 ?_
  refine sm_iload_n hG 12 rfl dJ0_charAt_5068e_11 rfl 1 rfl ?_
  have e : (some ((tByt.getD i []).getD (ix x) 0) : Option Int32) = (some () : Option Unit).bind fun _ => some ((tByt.getD i []).getD (ix x) 0) := rfl
  rw [e]
  refine sm_callS hG (fun (_ : Unit) => (some (Value.int ((tByt.getD i []).getD (ix x) 0)), v)) [.ref (adV i), .int x] 15 rfl (fun r_ h_ => c_T_charAt1 hT hi hx) gJ0_charAt_5068e_J1_charAt_3b067 rfl (by decide) (by decide) (n := 2) rfl (Nat.le_of_ble_eq_true rfl) (by decide) ⟨Nat.zero_le _, Nat.zero_le _⟩ rfl dJ0_charAt_5068e_12 (fun q => ?_)
  exact sm_zret hG hR ⟨Nat.zero_le _, Nat.zero_le _⟩ dJ0_charAt_5068e_15 g2 rfl
end TW
section TC
variable {κ ρ : Type} {Γ : jG ρ} {Λ : jL κ} {cs : Nat × Nat} {pc : Nat} {ls : List (Nat × Value)} {st : List Value} {v : κ → Nat → Int32} {ex : Option ρ} {cc : ByteArray} {own : String} {Ts : List Cond} {rm : Room}
theorem sm_sidx (hG : jOk Γ Λ cc own Ts rm) {adK adV : Nat → Nat} {tS : Value} {i index : Nat} {c : Int32} (h1 : vk_S 2 tLen tByt adK adV Λ.2.2.2.2.2.1 Γ.1.2.2.2.2.1 Γ.1.2.2.2.2.1.heap) (h2 : va_Z "java/lang/String" "COMPACT_STRINGS" "Z" (.int 1) Λ.2.2.2.2.2.1 Γ.1.2.2.2.2.1 Γ.1.2.2.2.2.1.heap) (h3 : VZ tS Λ.2.2.2.2.2.1 Γ.1.2.2.2.2.1 Γ.1.2.2.2.2.1.heap) (hi : i < 2) (pc2 : Nat) (hp : pc + 3 = pc2)
    (hT : GoodIn Ts (wsV own index "java/lang/String" yJ0_indexOf_0f7a4 wsJ0_indexOf_0f7a4)) (hRm : rmT4.frames + 1 ≤ rm.frames ∧ 8 + (2 + 11) + rmT4.locals ≤ rm.locals) (hst : (st.map fun v => v.category).sum ≤ 8) (hcs : cs.1 ≤ rm.cells ∧ cs.2 ≤ rm.slots) (d : decode cc pc = .ok (.invokevirtual index, 3)) (k : Sm Γ Λ cs pc2 ls (.int (sIxF c (tByt.getD i []) 0) :: st) v ex) : Sm Γ Λ cs pc ls (.int c :: .ref (adK i) :: st) v ex :=
  sm_callT hG ⟨h1, h2, h3⟩ hi [.int c] pc2 hp (c_T_indexOf (TL_LX hG.2.2.2.2.2.2.1) hi c) hT rfl (by decide) hRm (n := 1) rfl hst (by decide) hcs rfl d k
theorem sm_scha (hG : jOk Γ Λ cc own Ts rm) {adK adV : Nat → Nat} {tS : Value} {i index : Nat} {x : Int32} (h1 : vk_S 2 tLen tByt adK adV Λ.2.2.2.2.2.1 Γ.1.2.2.2.2.1 Γ.1.2.2.2.2.1.heap) (h2 : va_Z "java/lang/String" "COMPACT_STRINGS" "Z" (.int 1) Λ.2.2.2.2.2.1 Γ.1.2.2.2.2.1 Γ.1.2.2.2.2.1.heap) (h3 : VZ tS Λ.2.2.2.2.2.1 Γ.1.2.2.2.2.1 Γ.1.2.2.2.2.1.heap) (hi : i < 2) (pc2 : Nat) (hp : pc + 3 = pc2)
    (hT : GoodIn Ts (wsV own index "java/lang/String" yJ0_charAt_5068e wsJ0_charAt_5068e)) (hRm : rmT6.frames + 1 ≤ rm.frames ∧ 8 + (2 + 11) + rmT6.locals ≤ rm.locals) (hst : (st.map fun v => v.category).sum ≤ 8) (hcs : cs.1 ≤ rm.cells ∧ cs.2 ≤ rm.slots) (d : decode cc pc = .ok (.invokevirtual index, 3)) (k : Sm Γ Λ cs pc2 ls (.int ((tByt.getD i []).getD (ix x) 0) :: st) v ex) : Sm Γ Λ cs pc ls (.int x :: .ref (adK i) :: st) v (ck (inb x (tLen.getD i 0)) ex) := by
  intro r hr
  obtain ⟨hb, hr⟩ := ck_s hr
  exact sm_callT hG ⟨h1, h2, h3⟩ hi [.int x] pc2 hp (c_T_charAt (TL_LX hG.2.2.2.2.2.2.1) hi hb) hT rfl (by decide) hRm (n := 1) rfl hst (by decide) hcs rfl d k r hr
end TC
