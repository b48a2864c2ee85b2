/-! THE LETTER: the class reads one part -/
def VN (v : mC) (T : Nat → Nat) (len i a : Nat) : mC := st (up v (32, 0, 0) 2 (nI (a + 1))) (scN T len i a).1 (scN T len i a).2.1
theorem TX_2 {v : mC} {T : Nat → Nat} {len : Nat} (hT : TX v T len) (x : Int32) : TX (up v (32, 0, 0) 2 x) T len :=
  ⟨hT.1, by rw [up_r, if_neg (fun q => absurd q.2 (by decide))]; exact hT.2.1, fun i hi => by rw [up_r, if_neg (fun q => absurd q.1 (by decide))]; exact hT.2.2 i hi⟩
theorem s_part {v w0 : mC} {T : Nat → Nat} {len k i a : Nat} (hT : TX v T len) (h2 : v (32, 0, 0) 2 = nI a) (ha : a ≤ len) (hk : k < 7) (h3 : v (32, 0, 0) 3 = nI k) (h0 : w0 (32, 0, 0) 3 = nI k) (hi1 : fpN k ≤ i) (hi2 : i < fpN (k + 1)) (self : Int32 → mC → Option (Int32 × mC)) :
    L_X2_readOrder_49 w0 self (nI i) v = if i = 4 ∧ ¬ (a < len ∧ T a = 98) then self (nI (i + 1)) (up (up v (32, 0, 0) 5 0) (34, 0, 0) (i - fpN k) 0) else if a < len ∧ T a = sgN i then (if okN T len i a = true then self (nI (i + 1)) (up (VN v T len i a) (34, 0, 0) (i - fpN k) (nI (scN T len i a).2.1)) else some (0, VN v T len i a)) else some (0, v) := by
  obtain ⟨f1, f2, f3⟩ := pt_f k hk
  have i20 : i < 20 := by omega
  obtain ⟨b1, b2', b3, b4⟩ := pt_b i i20
  have e4 : nI k + 1 = nI (k + 1) := nI_1 k
  have ei : nI i - nI (fpN k) = nI (i - fpN k) := qi_sub hi1
  have e55 : up v (32, 0, 0) 5 0 (32, 0, 0) 5 = 0 := by rw [up_r, if_pos ⟨rfl, rfl⟩]
  -- sign and number
  have main : ∀ (j121 : mC → Option (Int32 × mC)), ((f_X2_skip (S_PS.getD i 0) v).bind fun r_96 => (if r_96.1 = 0 then (ck (zb (0 : Int32)) (some ((0 : Int32), r_96.2))) else (ck (inb (nI i) 20) (ck (inb (nI i) 20) ((f_X2_readNumber (T_LN i) (T_GN i) r_96.2).bind fun r_113 => (if r_113.1 = 0 then (ck (zb (0 : Int32)) (some ((0 : Int32), r_113.2))) else (j121 r_113.2))))))) = if a < len ∧ T a = sgN i then (if okN T len i a = true then j121 (VN v T len i a) else some (0, VN v T len i a)) else some (0, v) := fun j121 => by
    rw [pt_sg i i20, s_skip hT h2 ha b3]
    by_cases p : a < len ∧ T a = sgN i
    · rw [if_pos p, if_pos p, bnd_s, if_neg (show ¬ (1 : Int32) = 0 by decide), qi_inb i20 (by omega), ck_t, ck_t, pt_lo i i20, pt_hi i i20]
      obtain ⟨r, r1, r2, r3⟩ := s_read (lo := loN i) (hi := hiN i) (TX_2 hT (nI (a + 1))) (by rw [up_r, if_pos ⟨rfl, rfl⟩]) (show a + 1 ≤ len by omega) b1 b2'
      show ((f_X2_readNumber (nI (loN i)) (nI (hiN i)) (up v (32, 0, 0) 2 (nI (a + 1)))).bind _) = _
      rw [r1, bnd_s, zb_0, ck_t]
      show (if r = 0 then some ((0 : Int32), VN v T len i a) else j121 (VN v T len i a)) = _
      by_cases q : isF T len (scN T len i a).1
      · have z : ¬ okN T len i a = true := by
          unfold okN
          intro z
          exact of_decide_eq_true ((Bool.and_eq_true _ _).mp z).1 q
        rw [if_pos (r2 q), if_neg z]
      · have rr : r = b2 (0 < (scN T len i a).2.2 ∧ loN i ≤ (scN T len i a).2.1 ∧ (scN T len i a).2.1 ≤ hiN i) := r3 q
        by_cases q2 : 0 < (scN T len i a).2.2 ∧ loN i ≤ (scN T len i a).2.1 ∧ (scN T len i a).2.1 ≤ hiN i
        · have z : okN T len i a = true := by
            unfold okN
            exact (Bool.and_eq_true _ _).mpr ⟨decide_eq_true q, decide_eq_true q2⟩
          rw [if_neg (by rw [rr, b2_t q2]; decide), if_pos z]
        · have z : ¬ okN T len i a = true := by
            unfold okN
            intro z
            exact q2 (of_decide_eq_true ((Bool.and_eq_true _ _).mp z).2)
          rw [if_pos (by rw [rr, b2_f q2]), if_neg z]
    · rw [if_neg p, if_neg p, bnd_s, if_pos rfl, zb_0, ck_t]
  unfold L_X2_readOrder_49
  rw [h3, e4, qi_inb (show k + 1 < 8 by omega) (by omega), ck_t, qi_ix (by omega), lt_e, pt_fp (k + 1) (by omega), if_neg (nI_ge hi2 (by omega))]
  rw [jn_e, jn_e, h0, qi_ix (show k < 2147483648 by omega), pt_fp k (by omega), ei, qi_inb (show i - fpN k < 5 by omega) (by omega), qi_ix (show i - fpN k < 2147483648 by omega), qi_ix (show i < 2147483648 by omega), qi_inb i20 (by omega)]
  simp only [ck_t, lt_e, nI_1]
  have hn := main (fun v_121 => self (nI (i + 1)) (up v_121 (34, 0, 0) (i - fpN k) (v_121 (32, 0, 0) 5)))
  rw [qi_inb i20 (by omega)] at hn
  simp only [ck_t] at hn
  rw [hn]
  have e5 : VN v T len i a (32, 0, 0) 5 = nI (scN T len i a).2.1 := st_5 _ _ _
  rw [e5]
  by_cases p : i = 4
  · rw [if_pos (show nI i = 4 by rw [p]; rfl), pt_sg i i20, s_stands hT h2 ha b3, bnd_s, b2_if]
    have e98 : sgN i = 98 := by rw [p]; rfl
    rw [e98]
    by_cases q : a < len ∧ T a = 98
    · rw [if_pos q, if_neg (show ¬ (i = 4 ∧ ¬ (a < len ∧ T a = 98)) from fun z => z.2 q)]
    · rw [if_neg q, if_pos (show i = 4 ∧ ¬ (a < len ∧ T a = 98) from ⟨p, q⟩), e55]
  · rw [if_neg (show ¬ nI i = 4 from fun z => p ((qi_neq (b := 4) (by omega) (by omega)).mp z)), if_neg (show ¬ (i = 4 ∧ ¬ (a < len ∧ T a = 98)) from fun z => p z.1)]
