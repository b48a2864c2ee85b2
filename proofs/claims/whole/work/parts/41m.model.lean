/-! printed by wip/whole/jgen.py out of the bytecode: the walks -/
abbrev rmX7_linesUp : Room := { frames := 6, cells := 0, slots := 0, locals := 140 }
set_option maxRecDepth 100000 in
set_option maxHeartbeats 4000000 in
theorem c_X7_linesUp {Λ : jL Nat} (hM : LM Λ) {x1 : Int32}  {l : Launch} {v : mM} {r : (Int32 × mM)} (hr_ : f_X7_linesUp x1 v = some r) : Ct l yX7_linesUp wsX7_linesUp rmX7_linesUp Λ [.ref (Λ.2.2.2.1 0), .int x1] v (some (.int r.1)) r.2 := by
  refine ct_of (cc := cX7_linesUp) (maxL := 8) (ret := (some .int)) (fun (q : Int32 × mM) => (some (Value.int q.1), q.2)) hM.1 hr_ (by decide) rfl (Nat.le_of_ble_eq_true rfl) (fun Γ hG hT hN hl => ?_)
  subst hl
  have f22 : Cond.fieldLink RX7 22 "ChoirRegisterModel" "lineup" "[I" ∈ wsX7_linesUp := by decide +kernel
  have f25 : Cond.fieldLink RX7 25 "ChoirRegisterModel" "open" "[I" ∈ wsX7_linesUp := by decide +kernel
  have f28 : Cond.fieldLink RX7 28 "ChoirRegisterModel" "counts" "[I" ∈ wsX7_linesUp := by decide +kernel
  have f7 : Cond.fieldLink RX7 7 "ChoirRegisterModel" "now" "[I" ∈ wsX7_linesUp := by decide +kernel
  have u7 : ∀ w ∈ wsX70, w ∈ wsX7_linesUp := by decide +kernel
  show Sm Γ Λ (0, 0) 0 [(0, .ref (Λ.2.2.2.1 0)), (1, .int x1)] [] v _
  unfold f_X7_linesUp
  refine sm_aload_n hG 1 rfl dX7_linesUp_0 rfl 0 rfl ?_
  refine sm_iload_n hG 2 rfl dX7_linesUp_1 rfl 1 rfl ?_
  refine sm_callV hG (fun (w : mM) => ((none : Option Value), w)) 0 [.int x1] 5 rfl (okm hM (by decide)) (me_0 hM _) (ci := 7) rfl (fun r_ hr_ => c_X7_counts hM   hr_) gX7_linesUp_X7_counts rfl (by decide) (by decide) (n := 1) rfl (Nat.le_of_ble_eq_true rfl) (by decide) ⟨Nat.zero_le _, Nat.zero_le _⟩ rfl dX7_linesUp_2 (fun r_2 => ?_)
  refine sm_aload_n hG 6 rfl dX7_linesUp_5 rfl 0 rfl ?_
  refine sm_callV hG (fun (q : Int32) => (some (Value.int q), r_2)) 0 [] 9 rfl (okm hM (by decide)) (me_0 hM _) (ci := 7) rfl (fun r_ hr_ => c_X7_fillable hM   hr_) gX7_linesUp_X7_fillable rfl (by decide) (by decide) (n := 0) rfl (Nat.le_of_ble_eq_true rfl) (by decide) ⟨Nat.zero_le _, Nat.zero_le _⟩ rfl dX7_linesUp_6 (fun r_6 => ?_)
  refine sm_istore_n hG 10 rfl dX7_linesUp_9 rfl (jlt hN rfl) [(2, .int r_6), (0, .ref (Λ.2.2.2.1 0)), (1, .int x1)] rfl ?_
  refine sm_iconst (x := (0 : Int32)) hG 11 rfl dX7_linesUp_10 rfl ?_
  refine sm_istore_n hG 12 rfl dX7_linesUp_11 rfl (jlt hN rfl) [(3, .int (0 : Int32)), (2, .int r_6), (0, .ref (Λ.2.2.2.1 0)), (1, .int x1)] rfl ?_
  refine sm_iconst (x := (0 : Int32)) hG 13 rfl dX7_linesUp_12 rfl ?_
  refine sm_istore hG 15 rfl dX7_linesUp_13 (jlt hN rfl) [(4, .int (0 : Int32)), (3, .int (0 : Int32)), (2, .int r_6), (0, .ref (Λ.2.2.2.1 0)), (1, .int x1)] rfl ?_
  refine sm_loc [3, 4, 2, 1, 0] [(0, .ref (Λ.2.2.2.1 0)), (1, .int x1), (2, .int r_6), (3, .int (0 : Int32)), (4, .int (0 : Int32))] rfl ?_
  refine lp_ind (fun (X15 : Int32 → mM → Option (Int32 × mM)) => ∀ (x4_15 : Int32) (v_15 : mM), Sm Γ Λ (0, 0) 15 [(0, .ref (Λ.2.2.2.1 0)), (1, .int x1), (2, .int r_6), (3, .int (0 : Int32)), (4, .int x4_15)] [] v_15 (X15 x4_15 v_15)) (fun _ _ => sm_none) (fun self15 hs15 x4_15 v_15 => ?_) 8192 _ _
  refine sm_iload hG 17 rfl dX7_linesUp_15 4 rfl ?_
  refine sm_bipush (x := (30 : Int32)) hG 19 rfl dX7_linesUp_17 rfl ?_
  refine sm_icmp_ge hG 36 22 rfl dX7_linesUp_19 (by decide) ?_ ?_
  · refine sm_iconst (x := (0 : Int32)) hG 37 rfl dX7_linesUp_36 rfl ?_
    refine sm_istore hG 39 rfl dX7_linesUp_37 (jlt hN rfl) [(4, .int (0 : Int32)), (0, .ref (Λ.2.2.2.1 0)), (1, .int x1), (2, .int r_6), (3, .int (0 : Int32))] rfl ?_
    refine sm_loc [1, 2, 3, 4, 0] [(0, .ref (Λ.2.2.2.1 0)), (1, .int x1), (2, .int r_6), (3, .int (0 : Int32)), (4, .int (0 : Int32))] rfl ?_
    refine lp_ind (fun (X39 : Int32 → Int32 → mM → Option (Int32 × mM)) => ∀ (x3_39 : Int32) (x4_39 : Int32) (v_39 : mM), Sm Γ Λ (0, 0) 39 [(0, .ref (Λ.2.2.2.1 0)), (1, .int x1), (2, .int r_6), (3, .int x3_39), (4, .int x4_39)] [] v_39 (X39 x3_39 x4_39 v_39)) (fun _ _ _ => sm_none) (fun self39 hs39 x3_39 x4_39 v_39 => ?_) 8192 _ _ _
    refine sm_iload hG 41 rfl dX7_linesUp_39 4 rfl ?_
    refine sm_aload_n hG 42 rfl dX7_linesUp_41 rfl 0 rfl ?_
    refine gM0_0 hG hM  45 rfl u7 f7 dX7_linesUp_42 ?_
    refine sm_iconst (x := (1 : Int32)) hG 46 rfl dX7_linesUp_45 rfl ?_
    refine lA hG (ia_1 hM) 47 rfl dX7_linesUp_46 ?_
    refine sm_icmp_ge hG 202 50 rfl dX7_linesUp_47 (by decide) ?_ ?_
    · refine sm_iload_n hG 203 rfl dX7_linesUp_202 rfl 3 rfl ?_
      exact sm_iret hG hT ⟨Nat.zero_le _, Nat.zero_le _⟩ dX7_linesUp_203 rfl
    · refine sm_aload_n hG 51 rfl dX7_linesUp_50 rfl 0 rfl ?_
      refine sm_iload_n hG 52 rfl dX7_linesUp_51 rfl 1 rfl ?_
      refine sm_iload hG 54 rfl dX7_linesUp_52 4 rfl ?_
      refine sm_callV hG (fun (q : Int32) => (some (Value.int q), v_39)) 0 [.int x1, .int x4_39] 57 rfl (okm hM (by decide)) (me_0 hM _) (ci := 7) rfl (fun r_ hr_ => c_X7_set hM   hr_) gX7_linesUp_X7_set rfl (by decide) (by decide) (n := 2) rfl (Nat.le_of_ble_eq_true rfl) (by decide) ⟨Nat.zero_le _, Nat.zero_le _⟩ rfl dX7_linesUp_54 (fun r_54 => ?_)
      refine sm_istore hG 59 rfl dX7_linesUp_57 (jlt hN rfl) [(5, .int r_54), (0, .ref (Λ.2.2.2.1 0)), (1, .int x1), (2, .int r_6), (3, .int x3_39), (4, .int x4_39)] rfl ?_
      refine sm_aload_n hG 60 rfl dX7_linesUp_59 rfl 1 rfl ?_
      refine gM0_8 hG hM  63 rfl u7 f28 dX7_linesUp_60 ?_
      refine sm_iload hG 65 rfl dX7_linesUp_63 0 rfl ?_
      refine sm_dup2 hG 66 rfl dX7_linesUp_65 rfl rfl ?_
      refine lA hG (ia_7 hM) 67 rfl dX7_linesUp_66 ?_
      refine sm_iconst (x := (1 : Int32)) hG 68 rfl dX7_linesUp_67 rfl ?_
      refine sm_isub hG 69 rfl dX7_linesUp_68 ?_
      refine sA hG (ia_7 hM) 70 rfl dX7_linesUp_69 ?_
      refine sm_nmv (fun w69_1 => ?_)
      refine sm_iconst (x := (0 : Int32)) hG 71 rfl dX7_linesUp_70 rfl ?_
      refine sm_istore hG 73 rfl dX7_linesUp_71 (jlt hN rfl) [(6, .int (0 : Int32)), (5, .int r_54), (0, .ref (Λ.2.2.2.1 0)), (1, .int x1), (2, .int r_6), (3, .int x3_39), (4, .int x4_39)] rfl ?_
      refine sm_loc [2, 3, 4, 5, 6, 1, 0] [(0, .ref (Λ.2.2.2.1 0)), (1, .int x1), (2, .int r_6), (3, .int x3_39), (4, .int x4_39), (5, .int r_54), (6, .int (0 : Int32))] rfl ?_
      refine lp_ind (fun (X73 : Int32 → Int32 → mM → Option (Int32 × mM)) => ∀ (x3_73 : Int32) (x6_73 : Int32) (v_73 : mM), Sm Γ Λ (0, 0) 73 [(0, .ref (Λ.2.2.2.1 0)), (1, .int x1), (2, .int r_6), (3, .int x3_73), (4, .int x4_39), (5, .int r_54), (6, .int x6_73)] [] v_73 (X73 x3_73 x6_73 v_73)) (fun _ _ _ => sm_none) (fun self73 hs73 x3_73 x6_73 v_73 => ?_) 8192 _ _ _
      refine sm_iload hG 75 rfl dX7_linesUp_73 6 rfl ?_
      refine sm_iconst (x := (4 : Int32)) hG 76 rfl dX7_linesUp_75 rfl ?_
      refine sm_icmp_ge hG 196 79 rfl dX7_linesUp_76 (by decide) ?_ ?_
      · refine sm_iinc hG 199 rfl dX7_linesUp_196 (j := 4) rfl rfl (jlt hN rfl) [(4, .int (x4_39 + (1 : Int32))), (0, .ref (Λ.2.2.2.1 0)), (1, .int x1), (2, .int r_6), (3, .int x3_73), (5, .int r_54), (6, .int x6_73)] rfl ?_
        refine sm_goto hG 39 dX7_linesUp_199 (by decide) ?_
        refine sm_loc [1, 2, 3, 4, 0] [(0, .ref (Λ.2.2.2.1 0)), (1, .int x1), (2, .int r_6), (3, .int x3_73), (4, .int (x4_39 + (1 : Int32)))] rfl ?_
        exact hs39 _ _ _
      · refine sm_aload_n hG 80 rfl dX7_linesUp_79 rfl 0 rfl ?_
        refine gM0_6 hG hM  83 rfl u7 f22 dX7_linesUp_80 ?_
        refine sm_iload hG 85 rfl dX7_linesUp_83 4 rfl ?_
        refine lA hG (ia_5 hM) 86 rfl dX7_linesUp_85 ?_
        refine sm_iconst (x := (-1 : Int32)) hG 87 rfl dX7_linesUp_86 rfl ?_
        refine sm_icmp_ne hG 196 90 rfl dX7_linesUp_87 (by decide) ?_ ?_
        · refine sm_iinc hG 199 rfl dX7_linesUp_196 (j := 4) rfl rfl (jlt hN rfl) [(4, .int (x4_39 + (1 : Int32))), (0, .ref (Λ.2.2.2.1 0)), (1, .int x1), (2, .int r_6), (3, .int x3_73), (5, .int r_54), (6, .int x6_73)] rfl ?_
          refine sm_goto hG 39 dX7_linesUp_199 (by decide) ?_
          refine sm_loc [1, 2, 3, 4, 0] [(0, .ref (Λ.2.2.2.1 0)), (1, .int x1), (2, .int r_6), (3, .int x3_73), (4, .int (x4_39 + (1 : Int32)))] rfl ?_
          exact hs39 _ _ _
        · refine sm_jn (fun (X116 : Int32 → Option (Int32 × mM)) => ∀ (s0_116 : Int32), Sm Γ Λ (0, 0) 116 [(0, .ref (Λ.2.2.2.1 0)), (1, .int x1), (2, .int r_6), (3, .int x3_73), (4, .int x4_39), (5, .int r_54), (6, .int x6_73)] [.int s0_116] v_73 (X116 s0_116)) (fun s0_116 => ?_) (fun j116 hj116 => ?_)
          · refine sm_jn (fun (X136 : Int32 → Int32 → Int32 → Int32 → Option (Int32 × mM)) => ∀ (x7_136 : Int32) (s0_136 : Int32) (s1_136 : Int32) (s2_136 : Int32), Sm Γ Λ (0, 0) 136 [(0, .ref (Λ.2.2.2.1 0)), (1, .int x1), (2, .int r_6), (3, .int x3_73), (4, .int x4_39), (5, .int r_54), (6, .int x6_73), (7, .int x7_136)] [.int s0_136, .int s1_136, .int s2_136, .ref (Λ.2.2.2.1 6)] v_73 (X136 x7_136 s0_136 s1_136 s2_136)) (fun x7_136 s0_136 s1_136 s2_136 => ?_) (fun j136 hj136 => ?_)
            · refine sm_jn (fun (X170 : mM → Option (Int32 × mM)) => ∀ (v_170 : mM), Sm Γ Λ (0, 0) 170 [(0, .ref (Λ.2.2.2.1 0)), (1, .int x1), (2, .int r_6), (3, .int x3_73), (4, .int x4_39), (5, .int r_54), (6, .int x6_73), (7, .int x7_136)] [] v_170 (X170 v_170)) (fun v_170 => ?_) (fun j170 hj170 => ?_)
              · refine sm_aload_n hG 171 rfl dX7_linesUp_170 rfl 0 rfl ?_
                refine gM0_7 hG hM  174 rfl u7 f25 dX7_linesUp_171 ?_
                refine sm_iload hG 176 rfl dX7_linesUp_174 6 rfl ?_
                refine sm_dup2 hG 177 rfl dX7_linesUp_176 rfl rfl ?_
                refine lA hG (ia_6 hM) 178 rfl dX7_linesUp_177 ?_
                refine sm_iload hG 180 rfl dX7_linesUp_178 7 rfl ?_
                refine sm_if_eq hG 187 183 rfl dX7_linesUp_180 (by decide) ?_ ?_
                · refine sm_iconst (x := (0 : Int32)) hG 188 rfl dX7_linesUp_187 rfl ?_
                  refine sm_iadd hG 189 rfl dX7_linesUp_188 ?_
                  refine sA hG (ia_6 hM) 190 rfl dX7_linesUp_189 ?_
                  refine sm_nmv (fun w189_4 => ?_)
                  refine sm_iinc hG 193 rfl dX7_linesUp_190 (j := 6) rfl rfl (jlt hN rfl) [(6, .int (x6_73 + (1 : Int32))), (0, .ref (Λ.2.2.2.1 0)), (1, .int x1), (2, .int r_6), (3, .int x3_73), (4, .int x4_39), (5, .int r_54), (7, .int x7_136)] rfl ?_
                  refine sm_goto hG 73 dX7_linesUp_193 (by decide) ?_
                  refine sm_loc [1, 2, 3, 4, 5, 6, 0] [(0, .ref (Λ.2.2.2.1 0)), (1, .int x1), (2, .int r_6), (3, .int x3_73), (4, .int x4_39), (5, .int r_54), (6, .int (x6_73 + (1 : Int32)))] rfl ?_
                  exact hs73 _ _ _
                · refine sm_iconst (x := (1 : Int32)) hG 184 rfl dX7_linesUp_183 rfl ?_
                  refine sm_goto hG 188 dX7_linesUp_184 (by decide) ?_
                  refine sm_iadd hG 189 rfl dX7_linesUp_188 ?_
                  refine sA hG (ia_6 hM) 190 rfl dX7_linesUp_189 ?_
                  refine sm_nmv (fun w189_5 => ?_)
                  refine sm_iinc hG 193 rfl dX7_linesUp_190 (j := 6) rfl rfl (jlt hN rfl) [(6, .int (x6_73 + (1 : Int32))), (0, .ref (Λ.2.2.2.1 0)), (1, .int x1), (2, .int r_6), (3, .int x3_73), (4, .int x4_39), (5, .int r_54), (7, .int x7_136)] rfl ?_
                  refine sm_goto hG 73 dX7_linesUp_193 (by decide) ?_
                  refine sm_loc [1, 2, 3, 4, 5, 6, 0] [(0, .ref (Λ.2.2.2.1 0)), (1, .int x1), (2, .int r_6), (3, .int x3_73), (4, .int x4_39), (5, .int r_54), (6, .int (x6_73 + (1 : Int32)))] rfl ?_
                  exact hs73 _ _ _
              · refine sm_isub hG 137 rfl dX7_linesUp_136 ?_
                refine sA hG (ia_6 hM) 138 rfl dX7_linesUp_137 ?_
                refine sm_nmv (fun w137_2 => ?_)
                refine sm_iload hG 140 rfl dX7_linesUp_138 7 rfl ?_
                refine sm_if_eq hG 170 143 rfl dX7_linesUp_140 (by decide) ?_ ?_
                · exact hj170 _
                · refine sm_iload_n hG 144 rfl dX7_linesUp_143 rfl 3 rfl ?_
                  refine sm_iconst (x := (1 : Int32)) hG 145 rfl dX7_linesUp_144 rfl ?_
                  refine sm_iadd hG 146 rfl dX7_linesUp_145 ?_
                  refine sm_aload_n hG 147 rfl dX7_linesUp_146 rfl 0 rfl ?_
                  refine sm_callV hG (fun (q : Int32) => (some (Value.int q), w137_2)) 0 [] 150 rfl (okm hM (by decide)) (me_0 hM _) (ci := 7) rfl (fun r_ hr_ => c_X7_fillable hM   hr_) gX7_linesUp_X7_fillable rfl (by decide) (by decide) (n := 0) rfl (Nat.le_of_ble_eq_true rfl) (by decide) ⟨Nat.zero_le _, Nat.zero_le _⟩ rfl dX7_linesUp_147 (fun r_147 => ?_)
                  refine sm_iadd hG 151 rfl dX7_linesUp_150 ?_
                  refine sm_iload_n hG 152 rfl dX7_linesUp_151 rfl 2 rfl ?_
                  refine sm_icmp_ne hG 170 155 rfl dX7_linesUp_152 (by decide) ?_ ?_
                  · exact hj170 _
                  · refine sm_aload_n hG 156 rfl dX7_linesUp_155 rfl 0 rfl ?_
                    refine gM0_6 hG hM  159 rfl u7 f22 dX7_linesUp_156 ?_
                    refine sm_iload hG 161 rfl dX7_linesUp_159 4 rfl ?_
                    refine sm_iload hG 163 rfl dX7_linesUp_161 6 rfl ?_
                    refine sA hG (ia_5 hM) 164 rfl dX7_linesUp_163 ?_
                    refine sm_nmv (fun w163_3 => ?_)
                    refine sm_iinc hG 167 rfl dX7_linesUp_164 (j := 3) rfl rfl (jlt hN rfl) [(3, .int (x3_73 + (1 : Int32))), (0, .ref (Λ.2.2.2.1 0)), (1, .int x1), (2, .int r_6), (4, .int x4_39), (5, .int r_54), (6, .int x6_73), (7, .int x7_136)] rfl ?_
                    refine sm_goto hG 190 dX7_linesUp_167 (by decide) ?_
                    refine sm_iinc hG 193 rfl dX7_linesUp_190 (j := 6) rfl rfl (jlt hN rfl) [(6, .int (x6_73 + (1 : Int32))), (3, .int (x3_73 + (1 : Int32))), (0, .ref (Λ.2.2.2.1 0)), (1, .int x1), (2, .int r_6), (4, .int x4_39), (5, .int r_54), (7, .int x7_136)] rfl ?_
                    refine sm_goto hG 73 dX7_linesUp_193 (by decide) ?_
                    refine sm_loc [2, 3, 4, 1, 5, 6, 0] [(0, .ref (Λ.2.2.2.1 0)), (1, .int x1), (2, .int r_6), (3, .int (x3_73 + (1 : Int32))), (4, .int x4_39), (5, .int r_54), (6, .int (x6_73 + (1 : Int32)))] rfl ?_
                    exact hs73 _ _ _
            · refine sm_istore hG 118 rfl dX7_linesUp_116 (jlt hN rfl) [(7, .int s0_116), (0, .ref (Λ.2.2.2.1 0)), (1, .int x1), (2, .int r_6), (3, .int x3_73), (4, .int x4_39), (5, .int r_54), (6, .int x6_73)] rfl ?_
              refine sm_aload_n hG 119 rfl dX7_linesUp_118 rfl 1 rfl ?_
              refine gM0_7 hG hM  122 rfl u7 f25 dX7_linesUp_119 ?_
              refine sm_iload hG 124 rfl dX7_linesUp_122 7 rfl ?_
              refine sm_dup2 hG 125 rfl dX7_linesUp_124 rfl rfl ?_
              refine lA hG (ia_6 hM) 126 rfl dX7_linesUp_125 ?_
              refine sm_iload hG 128 rfl dX7_linesUp_126 0 rfl ?_
              refine sm_if_eq hG 135 131 rfl dX7_linesUp_128 (by decide) ?_ ?_
              · refine sm_iconst (x := (0 : Int32)) hG 136 rfl dX7_linesUp_135 rfl ?_
                refine sm_loc [1, 2, 3, 4, 5, 6, 7, 0] [(0, .ref (Λ.2.2.2.1 0)), (1, .int x1), (2, .int r_6), (3, .int x3_73), (4, .int x4_39), (5, .int r_54), (6, .int x6_73), (7, .int s0_116)] rfl ?_
                exact hj136 _ _ _ _
              · refine sm_iconst (x := (1 : Int32)) hG 132 rfl dX7_linesUp_131 rfl ?_
                refine sm_goto hG 136 dX7_linesUp_132 (by decide) ?_
                refine sm_loc [1, 2, 3, 4, 5, 6, 7, 0] [(0, .ref (Λ.2.2.2.1 0)), (1, .int x1), (2, .int r_6), (3, .int x3_73), (4, .int x4_39), (5, .int r_54), (6, .int x6_73), (7, .int s0_116)] rfl ?_
                exact hj136 _ _ _ _
          · refine sm_jn (fun (X115 : Unit → Option (Int32 × mM)) => ∀ (u_ : Unit), Sm Γ Λ (0, 0) 115 [(0, .ref (Λ.2.2.2.1 0)), (1, .int x1), (2, .int r_6), (3, .int x3_73), (4, .int x4_39), (5, .int r_54), (6, .int x6_73)] [] v_73 (X115 u_)) (fun u_ => ?_) (fun j115 hj115 => ?_)
            · refine sm_iconst (x := (0 : Int32)) hG 116 rfl dX7_linesUp_115 rfl ?_
              exact hj116 _
            · refine sm_iload hG 92 rfl dX7_linesUp_90 5 rfl ?_
              refine sm_iload hG 94 rfl dX7_linesUp_92 6 rfl ?_
              refine sm_ishr hG 95 rfl dX7_linesUp_94 ?_
              refine sm_iconst (x := (1 : Int32)) hG 96 rfl dX7_linesUp_95 rfl ?_
              refine sm_iand hG 97 rfl dX7_linesUp_96 ?_
              refine sm_iconst (x := (1 : Int32)) hG 98 rfl dX7_linesUp_97 rfl ?_
              refine sm_icmp_ne hG 115 101 rfl dX7_linesUp_98 (by decide) ?_ ?_
              · exact hj115 ()
              · refine sm_aload_n hG 102 rfl dX7_linesUp_101 rfl 0 rfl ?_
                refine gM0_7 hG hM  105 rfl u7 f25 dX7_linesUp_102 ?_
                refine sm_iload hG 107 rfl dX7_linesUp_105 6 rfl ?_
                refine lA hG (ia_6 hM) 108 rfl dX7_linesUp_107 ?_
                refine sm_if_le hG 115 111 rfl dX7_linesUp_108 (by decide) ?_ ?_
                · exact hj115 ()
                · refine sm_iconst (x := (1 : Int32)) hG 112 rfl dX7_linesUp_111 rfl ?_
                  refine sm_goto hG 116 dX7_linesUp_112 (by decide) ?_
                  exact hj116 _
  · refine sm_aload_n hG 23 rfl dX7_linesUp_22 rfl 0 rfl ?_
    refine gM0_6 hG hM  26 rfl u7 f22 dX7_linesUp_23 ?_
    refine sm_iload hG 28 rfl dX7_linesUp_26 4 rfl ?_
    refine sm_iconst (x := (-1 : Int32)) hG 29 rfl dX7_linesUp_28 rfl ?_
    refine sA hG (ia_5 hM) 30 rfl dX7_linesUp_29 ?_
    refine sm_nmv (fun w29_6 => ?_)
    refine sm_iinc hG 33 rfl dX7_linesUp_30 (j := 4) rfl rfl (jlt hN rfl) [(4, .int (x4_15 + (1 : Int32))), (0, .ref (Λ.2.2.2.1 0)), (1, .int x1), (2, .int r_6), (3, .int (0 : Int32))] rfl ?_
    refine sm_goto hG 15 dX7_linesUp_33 (by decide) ?_
    refine sm_loc [1, 2, 3, 4, 0] [(0, .ref (Λ.2.2.2.1 0)), (1, .int x1), (2, .int r_6), (3, .int (0 : Int32)), (4, .int (x4_15 + (1 : Int32)))] rfl ?_
    exact hs15 _ _
abbrev rmX7_isAhead : Room := { frames := 1, cells := 0, slots := 0, locals := 22 }
set_option maxRecDepth 100000 in
set_option maxHeartbeats 4000000 in
theorem c_X7_isAhead {Λ : jL Nat} (hM : LM Λ) {x1 : Int32} {x2 : Int32}  {l : Launch} {v : mM} {r : Int32} (hr_ : f_X7_isAhead x1 x2 v = some r) : Ct l yX7_isAhead wsX7_isAhead rmX7_isAhead Λ [.ref (Λ.2.2.2.1 0), .int x1, .int x2] v (some (.int r)) v := by
  refine ct_of (cc := cX7_isAhead) (maxL := 3) (ret := (some .boolean)) (fun (q : Int32) => (some (Value.int q), v)) hM.1 hr_ (by decide) rfl (Nat.le_of_ble_eq_true rfl) (fun Γ hG hT hN hl => ?_)
  subst hl
  have f31 : Cond.fieldLink RX7 31 "ChoirRegisterModel" "turns" "[I" ∈ wsX7_isAhead := by decide +kernel
  have u7 : ∀ w ∈ wsX70, w ∈ wsX7_isAhead := by decide +kernel
  show Sm Γ Λ (0, 0) 0 [(0, .ref (Λ.2.2.2.1 0)), (1, .int x1), (2, .int x2)] [] v _
  unfold f_X7_isAhead
  refine sm_aload_n hG 1 rfl dX7_isAhead_0 rfl 0 rfl ?_
  refine gM0_9 hG hM  4 rfl u7 f31 dX7_isAhead_1 ?_
  refine sm_iload_n hG 5 rfl dX7_isAhead_4 rfl 1 rfl ?_
  refine lA hG (ia_8 hM) 6 rfl dX7_isAhead_5 ?_
  refine sm_aload_n hG 7 rfl dX7_isAhead_6 rfl 0 rfl ?_
  refine gM0_9 hG hM  10 rfl u7 f31 dX7_isAhead_7 ?_
  refine sm_iload_n hG 11 rfl dX7_isAhead_10 rfl 2 rfl ?_
  refine lA hG (ia_8 hM) 12 rfl dX7_isAhead_11 ?_
  refine sm_icmp_eq hG 36 15 rfl dX7_isAhead_12 (by decide) ?_ ?_
  · refine sm_sipush (x := (360 : Int32)) hG 39 rfl dX7_isAhead_36 rfl ?_
    refine sm_aload_n hG 40 rfl dX7_isAhead_39 rfl 0 rfl ?_
    refine sm_iload_n hG 41 rfl dX7_isAhead_40 rfl 1 rfl ?_
    refine sm_iconst (x := (1 : Int32)) hG 42 rfl dX7_isAhead_41 rfl ?_
    refine sm_callV hG (fun (q : Int32) => (some (Value.int q), v)) 0 [.int x1, .int (1 : Int32)] 45 rfl (okm hM (by decide)) (me_0 hM _) (ci := 7) rfl (fun r_ hr_ => c_X7_its hM   hr_) gX7_isAhead_X7_its rfl (by decide) (by decide) (n := 2) rfl (Nat.le_of_ble_eq_true rfl) (by decide) ⟨Nat.zero_le _, Nat.zero_le _⟩ rfl dX7_isAhead_42 (fun r_42 => ?_)
    refine sm_imul hG 46 rfl dX7_isAhead_45 ?_
    refine sm_aload_n hG 47 rfl dX7_isAhead_46 rfl 0 rfl ?_
    refine sm_iload_n hG 48 rfl dX7_isAhead_47 rfl 1 rfl ?_
    refine sm_iconst (x := (2 : Int32)) hG 49 rfl dX7_isAhead_48 rfl ?_
    refine sm_callV hG (fun (q : Int32) => (some (Value.int q), v)) 0 [.int x1, .int (2 : Int32)] 52 rfl (okm hM (by decide)) (me_0 hM _) (ci := 7) rfl (fun r_ hr_ => c_X7_its hM   hr_) gX7_isAhead_X7_its rfl (by decide) (by decide) (n := 2) rfl (Nat.le_of_ble_eq_true rfl) (by decide) ⟨Nat.zero_le _, Nat.zero_le _⟩ rfl dX7_isAhead_49 (fun r_49 => ?_)
    refine sm_isub hG 53 rfl dX7_isAhead_52 ?_
    refine sm_sipush (x := (360 : Int32)) hG 56 rfl dX7_isAhead_53 rfl ?_
    refine sm_aload_n hG 57 rfl dX7_isAhead_56 rfl 0 rfl ?_
    refine sm_iload_n hG 58 rfl dX7_isAhead_57 rfl 2 rfl ?_
    refine sm_iconst (x := (1 : Int32)) hG 59 rfl dX7_isAhead_58 rfl ?_
    refine sm_callV hG (fun (q : Int32) => (some (Value.int q), v)) 0 [.int x2, .int (1 : Int32)] 62 rfl (okm hM (by decide)) (me_0 hM _) (ci := 7) rfl (fun r_ hr_ => c_X7_its hM   hr_) gX7_isAhead_X7_its rfl (by decide) (by decide) (n := 2) rfl (Nat.le_of_ble_eq_true rfl) (by decide) ⟨Nat.zero_le _, Nat.zero_le _⟩ rfl dX7_isAhead_59 (fun r_59 => ?_)
    refine sm_imul hG 63 rfl dX7_isAhead_62 ?_
    refine sm_aload_n hG 64 rfl dX7_isAhead_63 rfl 0 rfl ?_
    refine sm_iload_n hG 65 rfl dX7_isAhead_64 rfl 2 rfl ?_
    refine sm_iconst (x := (2 : Int32)) hG 66 rfl dX7_isAhead_65 rfl ?_
    refine sm_callV hG (fun (q : Int32) => (some (Value.int q), v)) 0 [.int x2, .int (2 : Int32)] 69 rfl (okm hM (by decide)) (me_0 hM _) (ci := 7) rfl (fun r_ hr_ => c_X7_its hM   hr_) gX7_isAhead_X7_its rfl (by decide) (by decide) (n := 2) rfl (Nat.le_of_ble_eq_true rfl) (by decide) ⟨Nat.zero_le _, Nat.zero_le _⟩ rfl dX7_isAhead_66 (fun r_66 => ?_)
    refine sm_isub hG 70 rfl dX7_isAhead_69 ?_
    refine sm_icmp_le hG 77 73 rfl dX7_isAhead_70 (by decide) ?_ ?_
    · refine sm_iconst (x := (0 : Int32)) hG 78 rfl dX7_isAhead_77 rfl ?_
      exact sm_bret hG hT ⟨Nat.zero_le _, Nat.zero_le _⟩ dX7_isAhead_78 rfl
    · refine sm_iconst (x := (1 : Int32)) hG 74 rfl dX7_isAhead_73 rfl ?_
      refine sm_goto hG 78 dX7_isAhead_74 (by decide) ?_
      exact sm_bret hG hT ⟨Nat.zero_le _, Nat.zero_le _⟩ dX7_isAhead_78 rfl
  · refine sm_aload_n hG 16 rfl dX7_isAhead_15 rfl 0 rfl ?_
    refine gM0_9 hG hM  19 rfl u7 f31 dX7_isAhead_16 ?_
    refine sm_iload_n hG 20 rfl dX7_isAhead_19 rfl 1 rfl ?_
    refine lA hG (ia_8 hM) 21 rfl dX7_isAhead_20 ?_
    refine sm_aload_n hG 22 rfl dX7_isAhead_21 rfl 0 rfl ?_
    refine gM0_9 hG hM  25 rfl u7 f31 dX7_isAhead_22 ?_
    refine sm_iload_n hG 26 rfl dX7_isAhead_25 rfl 2 rfl ?_
    refine lA hG (ia_8 hM) 27 rfl dX7_isAhead_26 ?_
    refine sm_icmp_ge hG 34 30 rfl dX7_isAhead_27 (by decide) ?_ ?_
    · refine sm_iconst (x := (0 : Int32)) hG 35 rfl dX7_isAhead_34 rfl ?_
      exact sm_bret hG hT ⟨Nat.zero_le _, Nat.zero_le _⟩ dX7_isAhead_35 rfl
    · refine sm_iconst (x := (1 : Int32)) hG 31 rfl dX7_isAhead_30 rfl ?_
      refine sm_goto hG 35 dX7_isAhead_31 (by decide) ?_
      exact sm_bret hG hT ⟨Nat.zero_le _, Nat.zero_le _⟩ dX7_isAhead_35 rfl
abbrev rmX7_descants : Room := { frames := 2, cells := 0, slots := 0, locals := 44 }
set_option maxRecDepth 100000 in
set_option maxHeartbeats 4000000 in
theorem c_X7_descants {Λ : jL Nat} (hM : LM Λ)   {l : Launch} {v : mM} {r : Int32} (hr_ : f_X7_descants v = some r) : Ct l yX7_descants wsX7_descants rmX7_descants Λ [.ref (Λ.2.2.2.1 0)] v (some (.int r)) v := by
  refine ct_of (cc := cX7_descants) (maxL := 4) (ret := (some .int)) (fun (q : Int32) => (some (Value.int q), v)) hM.1 hr_ (by decide) rfl (Nat.le_of_ble_eq_true rfl) (fun Γ hG hT hN hl => ?_)
  subst hl
  have f22 : Cond.fieldLink RX7 22 "ChoirRegisterModel" "lineup" "[I" ∈ wsX7_descants := by decide +kernel
  have f7 : Cond.fieldLink RX7 7 "ChoirRegisterModel" "now" "[I" ∈ wsX7_descants := by decide +kernel
  have u7 : ∀ w ∈ wsX70, w ∈ wsX7_descants := by decide +kernel
  show Sm Γ Λ (0, 0) 0 [(0, .ref (Λ.2.2.2.1 0))] [] v _
  unfold f_X7_descants
  refine sm_iconst (x := (-1 : Int32)) hG 1 rfl dX7_descants_0 rfl ?_
  refine sm_istore_n hG 2 rfl dX7_descants_1 rfl (jlt hN rfl) [(1, .int (-1 : Int32)), (0, .ref (Λ.2.2.2.1 0))] rfl ?_
  refine sm_iconst (x := (0 : Int32)) hG 3 rfl dX7_descants_2 rfl ?_
  refine sm_istore_n hG 4 rfl dX7_descants_3 rfl (jlt hN rfl) [(2, .int (0 : Int32)), (1, .int (-1 : Int32)), (0, .ref (Λ.2.2.2.1 0))] rfl ?_
  refine sm_loc [2, 1, 0] [(0, .ref (Λ.2.2.2.1 0)), (1, .int (-1 : Int32)), (2, .int (0 : Int32))] rfl ?_
  refine lp_ind (fun (X4 : Int32 → Int32 → Option Int32) => ∀ (x1_4 : Int32) (x2_4 : Int32), Sm Γ Λ (0, 0) 4 [(0, .ref (Λ.2.2.2.1 0)), (1, .int x1_4), (2, .int x2_4)] [] v (X4 x1_4 x2_4)) (fun _ _ => sm_none) (fun self4 hs4 x1_4 x2_4 => ?_) 8192 _ _
  refine sm_iload_n hG 5 rfl dX7_descants_4 rfl 2 rfl ?_
  refine sm_aload_n hG 6 rfl dX7_descants_5 rfl 0 rfl ?_
  refine gM0_0 hG hM  9 rfl u7 f7 dX7_descants_6 ?_
  refine sm_iconst (x := (1 : Int32)) hG 10 rfl dX7_descants_9 rfl ?_
  refine lA hG (ia_1 hM) 11 rfl dX7_descants_10 ?_
  refine sm_icmp_ge hG 59 14 rfl dX7_descants_11 (by decide) ?_ ?_
  · refine sm_iload_n hG 60 rfl dX7_descants_59 rfl 1 rfl ?_
    exact sm_iret hG hT ⟨Nat.zero_le _, Nat.zero_le _⟩ dX7_descants_60 rfl
  · refine sm_jn (fun (X42 : Int32 → Option Int32) => ∀ (s0_42 : Int32), Sm Γ Λ (0, 0) 42 [(0, .ref (Λ.2.2.2.1 0)), (1, .int x1_4), (2, .int x2_4)] [.int s0_42] v (X42 s0_42)) (fun s0_42 => ?_) (fun j42 hj42 => ?_)
    · refine sm_istore_n hG 43 rfl dX7_descants_42 rfl (jlt hN rfl) [(3, .int s0_42), (0, .ref (Λ.2.2.2.1 0)), (1, .int x1_4), (2, .int x2_4)] rfl ?_
      refine sm_iload_n hG 44 rfl dX7_descants_43 rfl 0 rfl ?_
      refine sm_if_eq hG 51 47 rfl dX7_descants_44 (by decide) ?_ ?_
      · refine sm_iload_n hG 52 rfl dX7_descants_51 rfl 2 rfl ?_
        refine sm_istore_n hG 53 rfl dX7_descants_52 rfl (jlt hN rfl) [(1, .int x1_4), (3, .int s0_42), (0, .ref (Λ.2.2.2.1 0)), (2, .int x2_4)] rfl ?_
        refine sm_iinc hG 56 rfl dX7_descants_53 (j := 3) rfl rfl (jlt hN rfl) [(2, .int (x2_4 + (1 : Int32))), (1, .int x1_4), (3, .int s0_42), (0, .ref (Λ.2.2.2.1 0))] rfl ?_
        refine sm_goto hG 4 dX7_descants_56 (by decide) ?_
        refine sm_loc [3, 1, 0] [(0, .ref (Λ.2.2.2.1 0)), (1, .int x1_4), (2, .int (x2_4 + (1 : Int32)))] rfl ?_
        exact hs4 _ _
      · refine sm_iload_n hG 48 rfl dX7_descants_47 rfl 3 rfl ?_
        refine sm_goto hG 52 dX7_descants_48 (by decide) ?_
        refine sm_istore_n hG 53 rfl dX7_descants_52 rfl (jlt hN rfl) [(1, .int x2_4), (3, .int s0_42), (0, .ref (Λ.2.2.2.1 0)), (2, .int x2_4)] rfl ?_
        refine sm_iinc hG 56 rfl dX7_descants_53 (j := 3) rfl rfl (jlt hN rfl) [(2, .int (x2_4 + (1 : Int32))), (1, .int x2_4), (3, .int s0_42), (0, .ref (Λ.2.2.2.1 0))] rfl ?_
        refine sm_goto hG 4 dX7_descants_56 (by decide) ?_
        refine sm_loc [3, 1, 0] [(0, .ref (Λ.2.2.2.1 0)), (1, .int x2_4), (2, .int (x2_4 + (1 : Int32)))] rfl ?_
        exact hs4 _ _
    · refine sm_jn (fun (X41 : Unit → Option Int32) => ∀ (u_ : Unit), Sm Γ Λ (0, 0) 41 [(0, .ref (Λ.2.2.2.1 0)), (1, .int x1_4), (2, .int x2_4)] [] v (X41 u_)) (fun u_ => ?_) (fun j41 hj41 => ?_)
      · refine sm_iconst (x := (0 : Int32)) hG 42 rfl dX7_descants_41 rfl ?_
        exact hj42 _
      · refine sm_aload_n hG 15 rfl dX7_descants_14 rfl 0 rfl ?_
        refine gM0_6 hG hM  18 rfl u7 f22 dX7_descants_15 ?_
        refine sm_iload_n hG 19 rfl dX7_descants_18 rfl 2 rfl ?_
        refine lA hG (ia_5 hM) 20 rfl dX7_descants_19 ?_
        refine sm_if_ne hG 41 23 rfl dX7_descants_20 (by decide) ?_ ?_
        · exact hj41 ()
        · refine sm_jn (fun (X37 : Unit → Option Int32) => ∀ (u_ : Unit), Sm Γ Λ (0, 0) 37 [(0, .ref (Λ.2.2.2.1 0)), (1, .int x1_4), (2, .int x2_4)] [] v (X37 u_)) (fun u_ => ?_) (fun j37 hj37 => ?_)
          · refine sm_iconst (x := (1 : Int32)) hG 38 rfl dX7_descants_37 rfl ?_
            refine sm_goto hG 42 dX7_descants_38 (by decide) ?_
            exact hj42 _
          · refine sm_iload_n hG 24 rfl dX7_descants_23 rfl 1 rfl ?_
            refine sm_iconst (x := (-1 : Int32)) hG 25 rfl dX7_descants_24 rfl ?_
            refine sm_icmp_eq hG 37 28 rfl dX7_descants_25 (by decide) ?_ ?_
            · exact hj37 ()
            · refine sm_aload_n hG 29 rfl dX7_descants_28 rfl 0 rfl ?_
              refine sm_iload_n hG 30 rfl dX7_descants_29 rfl 2 rfl ?_
              refine sm_iload_n hG 31 rfl dX7_descants_30 rfl 1 rfl ?_
              refine sm_callV hG (fun (q : Int32) => (some (Value.int q), v)) 0 [.int x2_4, .int x1_4] 34 rfl (okm hM (by decide)) (me_0 hM _) (ci := 7) rfl (fun r_ hr_ => c_X7_isAhead hM   hr_) gX7_descants_X7_isAhead rfl (by decide) (by decide) (n := 2) rfl (Nat.le_of_ble_eq_true rfl) (by decide) ⟨Nat.zero_le _, Nat.zero_le _⟩ rfl dX7_descants_31 (fun r_31 => ?_)
              refine sm_if_eq hG 41 37 rfl dX7_descants_34 (by decide) ?_ ?_
              · exact hj41 ()
              · exact hj37 ()
abbrev rmX7_readsTurns : Room := { frames := 1, cells := 0, slots := 0, locals := 22 }
set_option maxRecDepth 100000 in
set_option maxHeartbeats 4000000 in
theorem c_X7_readsTurns {Λ : jL Nat} (hM : LM Λ)   {l : Launch} {v : mM} {r : mM} (hr_ : f_X7_readsTurns v = some r) : Ct l yX7_readsTurns wsX7_readsTurns rmX7_readsTurns Λ [.ref (Λ.2.2.2.1 0)] v none r := by
  refine ct_of (cc := cX7_readsTurns) (maxL := 2) (ret := none) (fun (w : mM) => ((none : Option Value), w)) hM.1 hr_ (by decide) rfl (Nat.le_of_ble_eq_true rfl) (fun Γ hG hT hN hl => ?_)
  subst hl
  have f31 : Cond.fieldLink RX7 31 "ChoirRegisterModel" "turns" "[I" ∈ wsX7_readsTurns := by decide +kernel
  have f7 : Cond.fieldLink RX7 7 "ChoirRegisterModel" "now" "[I" ∈ wsX7_readsTurns := by decide +kernel
  have u7 : ∀ w ∈ wsX70, w ∈ wsX7_readsTurns := by decide +kernel
  show Sm Γ Λ (0, 0) 0 [(0, .ref (Λ.2.2.2.1 0))] [] v _
  unfold f_X7_readsTurns
  refine sm_iconst (x := (0 : Int32)) hG 1 rfl dX7_readsTurns_0 rfl ?_
  refine sm_istore_n hG 2 rfl dX7_readsTurns_1 rfl (jlt hN rfl) [(1, .int (0 : Int32)), (0, .ref (Λ.2.2.2.1 0))] rfl ?_
  refine sm_loc [1, 0] [(0, .ref (Λ.2.2.2.1 0)), (1, .int (0 : Int32))] rfl ?_
  refine lp_ind (fun (X2 : Int32 → mM → Option mM) => ∀ (x1_2 : Int32) (v_2 : mM), Sm Γ Λ (0, 0) 2 [(0, .ref (Λ.2.2.2.1 0)), (1, .int x1_2)] [] v_2 (X2 x1_2 v_2)) (fun _ _ => sm_none) (fun self2 hs2 x1_2 v_2 => ?_) 8192 _ _
  refine sm_iload_n hG 3 rfl dX7_readsTurns_2 rfl 1 rfl ?_
  refine sm_aload_n hG 4 rfl dX7_readsTurns_3 rfl 0 rfl ?_
  refine gM0_0 hG hM  7 rfl u7 f7 dX7_readsTurns_4 ?_
  refine sm_iconst (x := (1 : Int32)) hG 8 rfl dX7_readsTurns_7 rfl ?_
  refine lA hG (ia_1 hM) 9 rfl dX7_readsTurns_8 ?_
  refine sm_icmp_ge hG 31 12 rfl dX7_readsTurns_9 (by decide) ?_ ?_
  · exact sm_vret hG hT ⟨Nat.zero_le _, Nat.zero_le _⟩ dX7_readsTurns_31 rfl
  · refine sm_aload_n hG 13 rfl dX7_readsTurns_12 rfl 0 rfl ?_
    refine gM0_9 hG hM  16 rfl u7 f31 dX7_readsTurns_13 ?_
    refine sm_iload_n hG 17 rfl dX7_readsTurns_16 rfl 1 rfl ?_
    refine sm_aload_n hG 18 rfl dX7_readsTurns_17 rfl 0 rfl ?_
    refine sm_iload_n hG 19 rfl dX7_readsTurns_18 rfl 1 rfl ?_
    refine sm_bipush (x := (12 : Int32)) hG 21 rfl dX7_readsTurns_19 rfl ?_
    refine sm_callV hG (fun (q : Int32) => (some (Value.int q), v_2)) 0 [.int x1_2, .int (12 : Int32)] 24 rfl (okm hM (by decide)) (me_0 hM _) (ci := 7) rfl (fun r_ hr_ => c_X7_its hM   hr_) gX7_readsTurns_X7_its rfl (by decide) (by decide) (n := 2) rfl (Nat.le_of_ble_eq_true rfl) (by decide) ⟨Nat.zero_le _, Nat.zero_le _⟩ rfl dX7_readsTurns_21 (fun r_21 => ?_)
    refine sA hG (ia_8 hM) 25 rfl dX7_readsTurns_24 ?_
    refine sm_nmv (fun w24_1 => ?_)
    refine sm_iinc hG 28 rfl dX7_readsTurns_25 (j := 1) rfl rfl (jlt hN rfl) [(1, .int (x1_2 + (1 : Int32))), (0, .ref (Λ.2.2.2.1 0))] rfl ?_
    refine sm_goto hG 2 dX7_readsTurns_28 (by decide) ?_
    refine sm_loc [1, 0] [(0, .ref (Λ.2.2.2.1 0)), (1, .int (x1_2 + (1 : Int32)))] rfl ?_
    exact hs2 _ _
abbrev rmX7_nextFeast : Room := { frames := 1, cells := 0, slots := 0, locals := 21 }
set_option maxRecDepth 100000 in
set_option maxHeartbeats 4000000 in
theorem c_X7_nextFeast {Λ : jL Nat} (hM : LM Λ) {x1 : Int32}  {l : Launch} {v : mM} {r : Int32} (hr_ : f_X7_nextFeast x1 v = some r) : Ct l yX7_nextFeast wsX7_nextFeast rmX7_nextFeast Λ [.ref (Λ.2.2.2.1 0), .int x1] v (some (.int r)) v := by
  refine ct_of (cc := cX7_nextFeast) (maxL := 5) (ret := (some .int)) (fun (q : Int32) => (some (Value.int q), v)) hM.1 hr_ (by decide) rfl (Nat.le_of_ble_eq_true rfl) (fun Γ hG hT hN hl => ?_)
  subst hl
  have f7 : Cond.fieldLink RX7 7 "ChoirRegisterModel" "now" "[I" ∈ wsX7_nextFeast := by decide +kernel
  have u7 : ∀ w ∈ wsX70, w ∈ wsX7_nextFeast := by decide +kernel
  show Sm Γ Λ (0, 0) 0 [(0, .ref (Λ.2.2.2.1 0)), (1, .int x1)] [] v _
  unfold f_X7_nextFeast
  refine sm_iconst (x := (-1 : Int32)) hG 1 rfl dX7_nextFeast_0 rfl ?_
  refine sm_istore_n hG 2 rfl dX7_nextFeast_1 rfl (jlt hN rfl) [(2, .int (-1 : Int32)), (0, .ref (Λ.2.2.2.1 0)), (1, .int x1)] rfl ?_
  refine sm_iconst (x := (0 : Int32)) hG 3 rfl dX7_nextFeast_2 rfl ?_
  refine sm_istore_n hG 4 rfl dX7_nextFeast_3 rfl (jlt hN rfl) [(3, .int (0 : Int32)), (2, .int (-1 : Int32)), (0, .ref (Λ.2.2.2.1 0)), (1, .int x1)] rfl ?_
  refine sm_loc [2, 3, 1, 0] [(0, .ref (Λ.2.2.2.1 0)), (1, .int x1), (2, .int (-1 : Int32)), (3, .int (0 : Int32))] rfl ?_
  refine lp_ind (fun (X4 : Int32 → Int32 → Option Int32) => ∀ (x2_4 : Int32) (x3_4 : Int32), Sm Γ Λ (0, 0) 4 [(0, .ref (Λ.2.2.2.1 0)), (1, .int x1), (2, .int x2_4), (3, .int x3_4)] [] v (X4 x2_4 x3_4)) (fun _ _ => sm_none) (fun self4 hs4 x2_4 x3_4 => ?_) 8192 _ _
  refine sm_iload_n hG 5 rfl dX7_nextFeast_4 rfl 3 rfl ?_
  refine sm_aload_n hG 6 rfl dX7_nextFeast_5 rfl 0 rfl ?_
  refine gM0_0 hG hM  9 rfl u7 f7 dX7_nextFeast_6 ?_
  refine sm_iconst (x := (3 : Int32)) hG 10 rfl dX7_nextFeast_9 rfl ?_
  refine lA hG (ia_1 hM) 11 rfl dX7_nextFeast_10 ?_
  refine sm_icmp_ge hG 65 14 rfl dX7_nextFeast_11 (by decide) ?_ ?_
  · refine sm_iload_n hG 66 rfl dX7_nextFeast_65 rfl 2 rfl ?_
    exact sm_iret hG hT ⟨Nat.zero_le _, Nat.zero_le _⟩ dX7_nextFeast_66 rfl
  · refine sm_jn (fun (X46 : Int32 → Option Int32) => ∀ (s0_46 : Int32), Sm Γ Λ (0, 0) 46 [(0, .ref (Λ.2.2.2.1 0)), (1, .int x1), (2, .int x2_4), (3, .int x3_4)] [.int s0_46] v (X46 s0_46)) (fun s0_46 => ?_) (fun j46 hj46 => ?_)
    · refine sm_istore hG 48 rfl dX7_nextFeast_46 (jlt hN rfl) [(4, .int s0_46), (0, .ref (Λ.2.2.2.1 0)), (1, .int x1), (2, .int x2_4), (3, .int x3_4)] rfl ?_
      refine sm_iload hG 50 rfl dX7_nextFeast_48 0 rfl ?_
      refine sm_if_eq hG 57 53 rfl dX7_nextFeast_50 (by decide) ?_ ?_
      · refine sm_iload_n hG 58 rfl dX7_nextFeast_57 rfl 3 rfl ?_
        refine sm_istore_n hG 59 rfl dX7_nextFeast_58 rfl (jlt hN rfl) [(2, .int x2_4), (4, .int s0_46), (0, .ref (Λ.2.2.2.1 0)), (1, .int x1), (3, .int x3_4)] rfl ?_
        refine sm_iinc hG 62 rfl dX7_nextFeast_59 (j := 4) rfl rfl (jlt hN rfl) [(3, .int (x3_4 + (1 : Int32))), (2, .int x2_4), (4, .int s0_46), (0, .ref (Λ.2.2.2.1 0)), (1, .int x1)] rfl ?_
        refine sm_goto hG 4 dX7_nextFeast_62 (by decide) ?_
        refine sm_loc [3, 4, 1, 0] [(0, .ref (Λ.2.2.2.1 0)), (1, .int x1), (2, .int x2_4), (3, .int (x3_4 + (1 : Int32)))] rfl ?_
        exact hs4 _ _
      · refine sm_iload_n hG 54 rfl dX7_nextFeast_53 rfl 4 rfl ?_
        refine sm_goto hG 58 dX7_nextFeast_54 (by decide) ?_
        refine sm_istore_n hG 59 rfl dX7_nextFeast_58 rfl (jlt hN rfl) [(2, .int x3_4), (4, .int s0_46), (0, .ref (Λ.2.2.2.1 0)), (1, .int x1), (3, .int x3_4)] rfl ?_
        refine sm_iinc hG 62 rfl dX7_nextFeast_59 (j := 4) rfl rfl (jlt hN rfl) [(3, .int (x3_4 + (1 : Int32))), (2, .int x3_4), (4, .int s0_46), (0, .ref (Λ.2.2.2.1 0)), (1, .int x1)] rfl ?_
        refine sm_goto hG 4 dX7_nextFeast_62 (by decide) ?_
        refine sm_loc [3, 4, 1, 0] [(0, .ref (Λ.2.2.2.1 0)), (1, .int x1), (2, .int x3_4), (3, .int (x3_4 + (1 : Int32)))] rfl ?_
        exact hs4 _ _
    · refine sm_jn (fun (X45 : Unit → Option Int32) => ∀ (u_ : Unit), Sm Γ Λ (0, 0) 45 [(0, .ref (Λ.2.2.2.1 0)), (1, .int x1), (2, .int x2_4), (3, .int x3_4)] [] v (X45 u_)) (fun u_ => ?_) (fun j45 hj45 => ?_)
      · refine sm_iconst (x := (0 : Int32)) hG 46 rfl dX7_nextFeast_45 rfl ?_
        exact hj46 _
      · refine sm_aload_n hG 15 rfl dX7_nextFeast_14 rfl 0 rfl ?_
        refine sm_iload_n hG 16 rfl dX7_nextFeast_15 rfl 3 rfl ?_
        refine sm_callV hG (fun (q : Int32) => (some (Value.int q), v)) 0 [.int x3_4] 19 rfl (okm hM (by decide)) (me_0 hM _) (ci := 7) rfl (fun r_ hr_ => c_X7_dayAt hM   hr_) gX7_nextFeast_X7_dayAt rfl (by decide) (by decide) (n := 1) rfl (Nat.le_of_ble_eq_true rfl) (by decide) ⟨Nat.zero_le _, Nat.zero_le _⟩ rfl dX7_nextFeast_16 (fun r_16 => ?_)
        refine sm_iload_n hG 20 rfl dX7_nextFeast_19 rfl 1 rfl ?_
        refine sm_icmp_le hG 45 23 rfl dX7_nextFeast_20 (by decide) ?_ ?_
        · exact hj45 ()
        · refine sm_jn (fun (X41 : Unit → Option Int32) => ∀ (u_ : Unit), Sm Γ Λ (0, 0) 41 [(0, .ref (Λ.2.2.2.1 0)), (1, .int x1), (2, .int x2_4), (3, .int x3_4)] [] v (X41 u_)) (fun u_ => ?_) (fun j41 hj41 => ?_)
          · refine sm_iconst (x := (1 : Int32)) hG 42 rfl dX7_nextFeast_41 rfl ?_
            refine sm_goto hG 46 dX7_nextFeast_42 (by decide) ?_
            exact hj46 _
          · refine sm_iload_n hG 24 rfl dX7_nextFeast_23 rfl 2 rfl ?_
            refine sm_iconst (x := (-1 : Int32)) hG 25 rfl dX7_nextFeast_24 rfl ?_
            refine sm_icmp_eq hG 41 28 rfl dX7_nextFeast_25 (by decide) ?_ ?_
            · exact hj41 ()
            · refine sm_aload_n hG 29 rfl dX7_nextFeast_28 rfl 0 rfl ?_
              refine sm_iload_n hG 30 rfl dX7_nextFeast_29 rfl 3 rfl ?_
              refine sm_callV hG (fun (q : Int32) => (some (Value.int q), v)) 0 [.int x3_4] 33 rfl (okm hM (by decide)) (me_0 hM _) (ci := 7) rfl (fun r_ hr_ => c_X7_dayAt hM   hr_) gX7_nextFeast_X7_dayAt rfl (by decide) (by decide) (n := 1) rfl (Nat.le_of_ble_eq_true rfl) (by decide) ⟨Nat.zero_le _, Nat.zero_le _⟩ rfl dX7_nextFeast_30 (fun r_30 => ?_)
              refine sm_aload_n hG 34 rfl dX7_nextFeast_33 rfl 0 rfl ?_
              refine sm_iload_n hG 35 rfl dX7_nextFeast_34 rfl 2 rfl ?_
              refine sm_callV hG (fun (q : Int32) => (some (Value.int q), v)) 0 [.int x2_4] 38 rfl (okm hM (by decide)) (me_0 hM _) (ci := 7) rfl (fun r_ hr_ => c_X7_dayAt hM   hr_) gX7_nextFeast_X7_dayAt rfl (by decide) (by decide) (n := 1) rfl (Nat.le_of_ble_eq_true rfl) (by decide) ⟨Nat.zero_le _, Nat.zero_le _⟩ rfl dX7_nextFeast_35 (fun r_35 => ?_)
              refine sm_icmp_ge hG 45 41 rfl dX7_nextFeast_38 (by decide) ?_ ?_
              · exact hj45 ()
              · exact hj41 ()
abbrev rmX7_descantToCome : Room := { frames := 7, cells := 0, slots := 0, locals := 167 }
set_option maxRecDepth 100000 in
set_option maxHeartbeats 4000000 in
theorem c_X7_descantToCome {Λ : jL Nat} (hM : LM Λ) {x1 : Int32}  {l : Launch} {v : mM} {r : (Int32 × mM)} (hr_ : f_X7_descantToCome x1 v = some r) : Ct l yX7_descantToCome wsX7_descantToCome rmX7_descantToCome Λ [.ref (Λ.2.2.2.1 0), .int x1] v (some (.int r.1)) r.2 := by
  refine ct_of (cc := cX7_descantToCome) (maxL := 5) (ret := (some .int)) (fun (q : Int32 × mM) => (some (Value.int q.1), q.2)) hM.1 hr_ (by decide) rfl (Nat.le_of_ble_eq_true rfl) (fun Γ hG hT hN hl => ?_)
  subst hl
  have f31 : Cond.fieldLink RX7 31 "ChoirRegisterModel" "turns" "[I" ∈ wsX7_descantToCome := by decide +kernel
  have f7 : Cond.fieldLink RX7 7 "ChoirRegisterModel" "now" "[I" ∈ wsX7_descantToCome := by decide +kernel
  have u7 : ∀ w ∈ wsX70, w ∈ wsX7_descantToCome := by decide +kernel
  show Sm Γ Λ (0, 0) 0 [(0, .ref (Λ.2.2.2.1 0)), (1, .int x1)] [] v _
  unfold f_X7_descantToCome
  refine sm_aload_n hG 1 rfl dX7_descantToCome_0 rfl 0 rfl ?_
  refine sm_callV hG (fun (w : mM) => ((none : Option Value), w)) 0 [] 4 rfl (okm hM (by decide)) (me_0 hM _) (ci := 7) rfl (fun r_ hr_ => c_X7_readsTurns hM   hr_) gX7_descantToCome_X7_readsTurns rfl (by decide) (by decide) (n := 0) rfl (Nat.le_of_ble_eq_true rfl) (by decide) ⟨Nat.zero_le _, Nat.zero_le _⟩ rfl dX7_descantToCome_1 (fun r_1 => ?_)
  refine sm_aload_n hG 5 rfl dX7_descantToCome_4 rfl 0 rfl ?_
  refine gM0_0 hG hM  8 rfl u7 f7 dX7_descantToCome_5 ?_
  refine sm_iconst (x := (0 : Int32)) hG 9 rfl dX7_descantToCome_8 rfl ?_
  refine lA hG (ia_1 hM) 10 rfl dX7_descantToCome_9 ?_
  refine sm_istore_n hG 11 rfl dX7_descantToCome_10 rfl (jlt hN rfl) [(2, .int (r_1 1 (ix (0 : Int32)))), (0, .ref (Λ.2.2.2.1 0)), (1, .int x1)] rfl ?_
  refine sm_iconst (x := (-1 : Int32)) hG 12 rfl dX7_descantToCome_11 rfl ?_
  refine sm_istore_n hG 13 rfl dX7_descantToCome_12 rfl (jlt hN rfl) [(3, .int (-1 : Int32)), (2, .int (r_1 1 (ix (0 : Int32)))), (0, .ref (Λ.2.2.2.1 0)), (1, .int x1)] rfl ?_
  refine sm_loc [2, 3, 1, 0] [(0, .ref (Λ.2.2.2.1 0)), (1, .int x1), (2, .int (r_1 1 (ix (0 : Int32)))), (3, .int (-1 : Int32))] rfl ?_
  refine lp_ind (fun (X13 : Int32 → Int32 → mM → Option (Int32 × mM)) => ∀ (x2_13 : Int32) (x3_13 : Int32) (v_13 : mM), Sm Γ Λ (0, 0) 13 [(0, .ref (Λ.2.2.2.1 0)), (1, .int x1), (2, .int x2_13), (3, .int x3_13)] [] v_13 (X13 x2_13 x3_13 v_13)) (fun _ _ _ => sm_none) (fun self13 hs13 x2_13 x3_13 v_13 => ?_) 8192 _ _ _
  refine sm_iload_n hG 14 rfl dX7_descantToCome_13 rfl 2 rfl ?_
  refine sm_aload_n hG 15 rfl dX7_descantToCome_14 rfl 0 rfl ?_
  refine sm_iload_n hG 16 rfl dX7_descantToCome_15 rfl 1 rfl ?_
  refine sm_callV hG (fun (q : Int32) => (some (Value.int q), v_13)) 0 [.int x1] 19 rfl (okm hM (by decide)) (me_0 hM _) (ci := 7) rfl (fun r_ hr_ => c_X7_dayAt hM   hr_) gX7_descantToCome_X7_dayAt rfl (by decide) (by decide) (n := 1) rfl (Nat.le_of_ble_eq_true rfl) (by decide) ⟨Nat.zero_le _, Nat.zero_le _⟩ rfl dX7_descantToCome_16 (fun r_16 => ?_)
  refine sm_icmp_ge hG 72 22 rfl dX7_descantToCome_19 (by decide) ?_ ?_
  · refine sm_iload_n hG 73 rfl dX7_descantToCome_72 rfl 3 rfl ?_
    exact sm_iret hG hT ⟨Nat.zero_le _, Nat.zero_le _⟩ dX7_descantToCome_73 rfl
  · refine sm_jn (fun (X53 : Int32 → Int32 → mM → Option (Int32 × mM)) => ∀ (x2_53 : Int32) (s0_53 : Int32) (v_53 : mM), Sm Γ Λ (0, 0) 53 [(0, .ref (Λ.2.2.2.1 0)), (1, .int x1), (2, .int x2_53)] [.int s0_53] v_53 (X53 x2_53 s0_53 v_53)) (fun x2_53 s0_53 v_53 => ?_) (fun j53 hj53 => ?_)
    · refine sm_istore_n hG 54 rfl dX7_descantToCome_53 rfl (jlt hN rfl) [(3, .int s0_53), (0, .ref (Λ.2.2.2.1 0)), (1, .int x1), (2, .int x2_53)] rfl ?_
      refine sm_iload_n hG 55 rfl dX7_descantToCome_54 rfl 0 rfl ?_
      refine sm_iconst (x := (-1 : Int32)) hG 56 rfl dX7_descantToCome_55 rfl ?_
      refine sm_icmp_eq hG 69 59 rfl dX7_descantToCome_56 (by decide) ?_ ?_
      · refine sm_goto hG 13 dX7_descantToCome_69 (by decide) ?_
        refine sm_loc [1, 2, 3, 0] [(0, .ref (Λ.2.2.2.1 0)), (1, .int x1), (2, .int x2_53), (3, .int s0_53)] rfl ?_
        exact hs13 _ _ _
      · refine sm_aload_n hG 60 rfl dX7_descantToCome_59 rfl 1 rfl ?_
        refine gM0_9 hG hM  63 rfl u7 f31 dX7_descantToCome_60 ?_
        refine sm_iload_n hG 64 rfl dX7_descantToCome_63 rfl 0 rfl ?_
        refine sm_dup2 hG 65 rfl dX7_descantToCome_64 rfl rfl ?_
        refine lA hG (ia_8 hM) 66 rfl dX7_descantToCome_65 ?_
        refine sm_iconst (x := (1 : Int32)) hG 67 rfl dX7_descantToCome_66 rfl ?_
        refine sm_iadd hG 68 rfl dX7_descantToCome_67 ?_
        refine sA hG (ia_8 hM) 69 rfl dX7_descantToCome_68 ?_
        refine sm_nmv (fun w68_1 => ?_)
        refine sm_goto hG 13 dX7_descantToCome_69 (by decide) ?_
        refine sm_loc [1, 2, 3, 0] [(0, .ref (Λ.2.2.2.1 0)), (1, .int x1), (2, .int x2_53), (3, .int s0_53)] rfl ?_
        exact hs13 _ _ _
    · refine sm_aload_n hG 23 rfl dX7_descantToCome_22 rfl 0 rfl ?_
      refine sm_iload_n hG 24 rfl dX7_descantToCome_23 rfl 2 rfl ?_
      refine sm_callV hG (fun (q : Int32) => (some (Value.int q), v_13)) 0 [.int x2_13] 27 rfl (okm hM (by decide)) (me_0 hM _) (ci := 7) rfl (fun r_ hr_ => c_X7_nextFeast hM   hr_) gX7_descantToCome_X7_nextFeast rfl (by decide) (by decide) (n := 1) rfl (Nat.le_of_ble_eq_true rfl) (by decide) ⟨Nat.zero_le _, Nat.zero_le _⟩ rfl dX7_descantToCome_24 (fun r_24 => ?_)
      refine sm_istore hG 29 rfl dX7_descantToCome_27 (jlt hN rfl) [(4, .int r_24), (0, .ref (Λ.2.2.2.1 0)), (1, .int x1), (2, .int x2_13), (3, .int x3_13)] rfl ?_
      refine sm_aload_n hG 30 rfl dX7_descantToCome_29 rfl 1 rfl ?_
      refine sm_iload hG 32 rfl dX7_descantToCome_30 0 rfl ?_
      refine sm_callV hG (fun (q : Int32) => (some (Value.int q), v_13)) 0 [.int r_24] 35 rfl (okm hM (by decide)) (me_0 hM _) (ci := 7) rfl (fun r_ hr_ => c_X7_dayAt hM   hr_) gX7_descantToCome_X7_dayAt rfl (by decide) (by decide) (n := 1) rfl (Nat.le_of_ble_eq_true rfl) (by decide) ⟨Nat.zero_le _, Nat.zero_le _⟩ rfl dX7_descantToCome_32 (fun r_32 => ?_)
      refine sm_istore_n hG 36 rfl dX7_descantToCome_35 rfl (jlt hN rfl) [(2, .int r_32), (4, .int r_24), (0, .ref (Λ.2.2.2.1 0)), (1, .int x1), (3, .int x3_13)] rfl ?_
      refine sm_aload_n hG 37 rfl dX7_descantToCome_36 rfl 2 rfl ?_
      refine sm_iload hG 39 rfl dX7_descantToCome_37 1 rfl ?_
      refine sm_callV hG (fun (q : Int32 × mM) => (some (Value.int q.1), q.2)) 0 [.int r_24] 42 rfl (okm hM (by decide)) (me_0 hM _) (ci := 7) rfl (fun r_ hr_ => c_X7_linesUp hM   hr_) gX7_descantToCome_X7_linesUp rfl (by decide) (by decide) (n := 1) rfl (Nat.le_of_ble_eq_true rfl) (by decide) ⟨Nat.zero_le _, Nat.zero_le _⟩ rfl dX7_descantToCome_39 (fun r_39 => ?_)
      refine sm_if_ge hG 49 45 rfl dX7_descantToCome_42 (by decide) ?_ ?_
      · refine sm_aload_n hG 50 rfl dX7_descantToCome_49 rfl 2 rfl ?_
        refine sm_callV hG (fun (q : Int32) => (some (Value.int q), r_39.2)) 0 [] 53 rfl (okm hM (by decide)) (me_0 hM _) (ci := 7) rfl (fun r_ hr_ => c_X7_descants hM   hr_) gX7_descantToCome_X7_descants rfl (by decide) (by decide) (n := 0) rfl (Nat.le_of_ble_eq_true rfl) (by decide) ⟨Nat.zero_le _, Nat.zero_le _⟩ rfl dX7_descantToCome_50 (fun r_50 => ?_)
        refine sm_loc [2, 3, 0] [(0, .ref (Λ.2.2.2.1 0)), (1, .int x1), (2, .int r_32)] rfl ?_
        exact hj53 _ _ _
      · refine sm_iconst (x := (-1 : Int32)) hG 46 rfl dX7_descantToCome_45 rfl ?_
        refine sm_goto hG 53 dX7_descantToCome_46 (by decide) ?_
        refine sm_loc [2, 3, 0] [(0, .ref (Λ.2.2.2.1 0)), (1, .int x1), (2, .int r_32)] rfl ?_
        exact hj53 _ _ _
abbrev rmX7_tells : Room := { frames := 7, cells := 0, slots := 0, locals := 167 }
set_option maxRecDepth 100000 in
set_option maxHeartbeats 4000000 in
theorem c_X7_tells {Λ : jL Nat} (hM : LM Λ) {x1 : Int32}  {l : Launch} {v : mM} {r : (Int32 × mM)} (hr_ : f_X7_tells x1 v = some r) : Ct l yX7_tells wsX7_tells rmX7_tells Λ [.ref (Λ.2.2.2.1 0), .int x1] v (some (.int r.1)) r.2 := by
  refine ct_of (cc := cX7_tells) (maxL := 4) (ret := (some .int)) (fun (q : Int32 × mM) => (some (Value.int q.1), q.2)) hM.1 hr_ (by decide) rfl (Nat.le_of_ble_eq_true rfl) (fun Γ hG hT hN hl => ?_)
  subst hl
  have f22 : Cond.fieldLink RX7 22 "ChoirRegisterModel" "lineup" "[I" ∈ wsX7_tells := by decide +kernel
  have f7 : Cond.fieldLink RX7 7 "ChoirRegisterModel" "now" "[I" ∈ wsX7_tells := by decide +kernel
  have u7 : ∀ w ∈ wsX70, w ∈ wsX7_tells := by decide +kernel
  show Sm Γ Λ (0, 0) 0 [(0, .ref (Λ.2.2.2.1 0)), (1, .int x1)] [] v _
  unfold f_X7_tells
  refine sm_iconst (x := (0 : Int32)) hG 1 rfl dX7_tells_0 rfl ?_
  refine sm_istore_n hG 2 rfl dX7_tells_1 rfl (jlt hN rfl) [(2, .int (0 : Int32)), (0, .ref (Λ.2.2.2.1 0)), (1, .int x1)] rfl ?_
  refine sm_aload_n hG 3 rfl dX7_tells_2 rfl 1 rfl ?_
  refine sm_iload_n hG 4 rfl dX7_tells_3 rfl 2 rfl ?_
  refine sm_callV hG (fun (q : Int32) => (some (Value.int q), v)) 0 [.int x1] 7 rfl (okm hM (by decide)) (me_0 hM _) (ci := 7) rfl (fun r_ hr_ => c_X7_held hM   hr_) gX7_tells_X7_held rfl (by decide) (by decide) (n := 1) rfl (Nat.le_of_ble_eq_true rfl) (by decide) ⟨Nat.zero_le _, Nat.zero_le _⟩ rfl dX7_tells_4 (fun r_4 => ?_)
  refine sm_if_ne hG 16 10 rfl dX7_tells_7 (by decide) ?_ ?_
  · refine sm_iconst (x := (0 : Int32)) hG 17 rfl dX7_tells_16 rfl ?_
    refine sm_istore_n hG 18 rfl dX7_tells_17 rfl (jlt hN rfl) [(3, .int (0 : Int32)), (2, .int (0 : Int32)), (0, .ref (Λ.2.2.2.1 0)), (1, .int x1)] rfl ?_
    refine sm_loc [2, 3, 1, 0] [(0, .ref (Λ.2.2.2.1 0)), (1, .int x1), (2, .int (0 : Int32)), (3, .int (0 : Int32))] rfl ?_
    refine lp_ind (fun (X18 : Int32 → Int32 → mM → Option (Int32 × mM)) => ∀ (x2_18 : Int32) (x3_18 : Int32) (v_18 : mM), Sm Γ Λ (0, 0) 18 [(0, .ref (Λ.2.2.2.1 0)), (1, .int x1), (2, .int x2_18), (3, .int x3_18)] [] v_18 (X18 x2_18 x3_18 v_18)) (fun _ _ _ => sm_none) (fun self18 hs18 x2_18 x3_18 v_18 => ?_) 8192 _ _ _
    refine sm_iload_n hG 19 rfl dX7_tells_18 rfl 3 rfl ?_
    refine sm_bipush (x := (30 : Int32)) hG 21 rfl dX7_tells_19 rfl ?_
    refine sm_icmp_ge hG 72 24 rfl dX7_tells_21 (by decide) ?_ ?_
    · refine sm_iload_n hG 73 rfl dX7_tells_72 rfl 2 rfl ?_
      exact sm_iret hG hT ⟨Nat.zero_le _, Nat.zero_le _⟩ dX7_tells_73 rfl
    · refine sm_aload_n hG 25 rfl dX7_tells_24 rfl 0 rfl ?_
      refine gM0_6 hG hM  28 rfl u7 f22 dX7_tells_25 ?_
      refine sm_iload_n hG 29 rfl dX7_tells_28 rfl 3 rfl ?_
      refine sm_aload_n hG 30 rfl dX7_tells_29 rfl 0 rfl ?_
      refine gM0_0 hG hM  33 rfl u7 f7 dX7_tells_30 ?_
      refine sm_sipush (x := (583 : Int32)) hG 36 rfl dX7_tells_33 rfl ?_
      refine sm_bipush (x := (45 : Int32)) hG 38 rfl dX7_tells_36 rfl ?_
      refine sm_iload_n hG 39 rfl dX7_tells_38 rfl 1 rfl ?_
      refine sm_imul hG 40 rfl dX7_tells_39 ?_
      refine sm_iadd hG 41 rfl dX7_tells_40 ?_
      refine sm_bipush (x := (15 : Int32)) hG 43 rfl dX7_tells_41 rfl ?_
      refine sm_iadd hG 44 rfl dX7_tells_43 ?_
      refine sm_nmi (fun y43_1 => ?_)
      refine sm_iload_n hG 45 rfl dX7_tells_44 rfl 3 rfl ?_
      refine sm_iadd hG 46 rfl dX7_tells_45 ?_
      refine lA hG (ia_1 hM) 47 rfl dX7_tells_46 ?_
      refine sA hG (ia_5 hM) 48 rfl dX7_tells_47 ?_
      refine sm_nmv (fun w47_2 => ?_)
      refine sm_iload_n hG 49 rfl dX7_tells_48 rfl 2 rfl ?_
      refine sm_aload_n hG 50 rfl dX7_tells_49 rfl 0 rfl ?_
      refine gM0_6 hG hM  53 rfl u7 f22 dX7_tells_50 ?_
      refine sm_iload_n hG 54 rfl dX7_tells_53 rfl 3 rfl ?_
      refine lA hG (ia_5 hM) 55 rfl dX7_tells_54 ?_
      refine sm_iconst (x := (-1 : Int32)) hG 56 rfl dX7_tells_55 rfl ?_
      refine sm_icmp_ne hG 63 59 rfl dX7_tells_56 (by decide) ?_ ?_
      · refine sm_iconst (x := (1 : Int32)) hG 64 rfl dX7_tells_63 rfl ?_
        refine sm_iadd hG 65 rfl dX7_tells_64 ?_
        refine sm_istore_n hG 66 rfl dX7_tells_65 rfl (jlt hN rfl) [(2, .int (x2_18 + (1 : Int32))), (0, .ref (Λ.2.2.2.1 0)), (1, .int x1), (3, .int x3_18)] rfl ?_
        refine sm_iinc hG 69 rfl dX7_tells_66 (j := 3) rfl rfl (jlt hN rfl) [(3, .int (x3_18 + (1 : Int32))), (2, .int (x2_18 + (1 : Int32))), (0, .ref (Λ.2.2.2.1 0)), (1, .int x1)] rfl ?_
        refine sm_goto hG 18 dX7_tells_69 (by decide) ?_
        refine sm_loc [2, 3, 1, 0] [(0, .ref (Λ.2.2.2.1 0)), (1, .int x1), (2, .int (x2_18 + (1 : Int32))), (3, .int (x3_18 + (1 : Int32)))] rfl ?_
        exact hs18 _ _ _
      · refine sm_iconst (x := (0 : Int32)) hG 60 rfl dX7_tells_59 rfl ?_
        refine sm_goto hG 64 dX7_tells_60 (by decide) ?_
        refine sm_iadd hG 65 rfl dX7_tells_64 ?_
        refine sm_istore_n hG 66 rfl dX7_tells_65 rfl (jlt hN rfl) [(2, .int (x2_18 + (0 : Int32))), (0, .ref (Λ.2.2.2.1 0)), (1, .int x1), (3, .int x3_18)] rfl ?_
        refine sm_iinc hG 69 rfl dX7_tells_66 (j := 3) rfl rfl (jlt hN rfl) [(3, .int (x3_18 + (1 : Int32))), (2, .int (x2_18 + (0 : Int32))), (0, .ref (Λ.2.2.2.1 0)), (1, .int x1)] rfl ?_
        refine sm_goto hG 18 dX7_tells_69 (by decide) ?_
        refine sm_loc [2, 3, 1, 0] [(0, .ref (Λ.2.2.2.1 0)), (1, .int x1), (2, .int (x2_18 + (0 : Int32))), (3, .int (x3_18 + (1 : Int32)))] rfl ?_
        exact hs18 _ _ _
  · refine sm_aload_n hG 11 rfl dX7_tells_10 rfl 1 rfl ?_
    refine sm_iload_n hG 12 rfl dX7_tells_11 rfl 2 rfl ?_
    refine sm_callV hG (fun (q : Int32 × mM) => (some (Value.int q.1), q.2)) 0 [.int x1] 15 rfl (okm hM (by decide)) (me_0 hM _) (ci := 7) rfl (fun r_ hr_ => c_X7_linesUp hM   hr_) gX7_tells_X7_linesUp rfl (by decide) (by decide) (n := 1) rfl (Nat.le_of_ble_eq_true rfl) (by decide) ⟨Nat.zero_le _, Nat.zero_le _⟩ rfl dX7_tells_12 (fun r_12 => ?_)
    exact sm_iret hG hT ⟨Nat.zero_le _, Nat.zero_le _⟩ dX7_tells_15 rfl
abbrev rmX7_holds : Room := { frames := 7, cells := 0, slots := 0, locals := 167 }
set_option maxRecDepth 100000 in
set_option maxHeartbeats 4000000 in
theorem c_X7_holds {Λ : jL Nat} (hM : LM Λ) {x1 : Int32}  {l : Launch} {v : mM} {r : mM} (hr_ : f_X7_holds x1 v = some r) : Ct l yX7_holds wsX7_holds rmX7_holds Λ [.ref (Λ.2.2.2.1 0), .int x1] v none r := by
  refine ct_of (cc := cX7_holds) (maxL := 7) (ret := none) (fun (w : mM) => ((none : Option Value), w)) hM.1 hr_ (by decide) rfl (Nat.le_of_ble_eq_true rfl) (fun Γ hG hT hN hl => ?_)
  subst hl
  have f22 : Cond.fieldLink RX7 22 "ChoirRegisterModel" "lineup" "[I" ∈ wsX7_holds := by decide +kernel
  have f7 : Cond.fieldLink RX7 7 "ChoirRegisterModel" "now" "[I" ∈ wsX7_holds := by decide +kernel
  have u7 : ∀ w ∈ wsX70, w ∈ wsX7_holds := by decide +kernel
  show Sm Γ Λ (0, 0) 0 [(0, .ref (Λ.2.2.2.1 0)), (1, .int x1)] [] v _
  unfold f_X7_holds
  refine sm_aload_n hG 1 rfl dX7_holds_0 rfl 0 rfl ?_
  refine sm_iload_n hG 2 rfl dX7_holds_1 rfl 1 rfl ?_
  refine sm_callV hG (fun (q : Int32 × mM) => (some (Value.int q.1), q.2)) 0 [.int x1] 5 rfl (okm hM (by decide)) (me_0 hM _) (ci := 7) rfl (fun r_ hr_ => c_X7_linesUp hM   hr_) gX7_holds_X7_linesUp rfl (by decide) (by decide) (n := 1) rfl (Nat.le_of_ble_eq_true rfl) (by decide) ⟨Nat.zero_le _, Nat.zero_le _⟩ rfl dX7_holds_2 (fun r_2 => ?_)
  refine sm_istore_n hG 6 rfl dX7_holds_5 rfl (jlt hN rfl) [(2, .int r_2.1), (0, .ref (Λ.2.2.2.1 0)), (1, .int x1)] rfl ?_
  refine sm_aload_n hG 7 rfl dX7_holds_6 rfl 1 rfl ?_
  refine sm_callV hG (fun (w : mM) => ((none : Option Value), w)) 0 [] 10 rfl (okm hM (by decide)) (me_0 hM _) (ci := 7) rfl (fun r_ hr_ => c_X7_readsTurns hM   hr_) gX7_holds_X7_readsTurns rfl (by decide) (by decide) (n := 0) rfl (Nat.le_of_ble_eq_true rfl) (by decide) ⟨Nat.zero_le _, Nat.zero_le _⟩ rfl dX7_holds_7 (fun r_7 => ?_)
  refine sm_aload_n hG 11 rfl dX7_holds_10 rfl 1 rfl ?_
  refine sm_callV hG (fun (q : Int32) => (some (Value.int q), r_7)) 0 [] 14 rfl (okm hM (by decide)) (me_0 hM _) (ci := 7) rfl (fun r_ hr_ => c_X7_descants hM   hr_) gX7_holds_X7_descants rfl (by decide) (by decide) (n := 0) rfl (Nat.le_of_ble_eq_true rfl) (by decide) ⟨Nat.zero_le _, Nat.zero_le _⟩ rfl dX7_holds_11 (fun r_11 => ?_)
  refine sm_istore_n hG 15 rfl dX7_holds_14 rfl (jlt hN rfl) [(3, .int r_11), (2, .int r_2.1), (0, .ref (Λ.2.2.2.1 0)), (1, .int x1)] rfl ?_
  refine sm_sipush (x := (583 : Int32)) hG 18 rfl dX7_holds_15 rfl ?_
  refine sm_bipush (x := (45 : Int32)) hG 20 rfl dX7_holds_18 rfl ?_
  refine sm_iload_n hG 21 rfl dX7_holds_20 rfl 3 rfl ?_
  refine sm_imul hG 22 rfl dX7_holds_21 ?_
  refine sm_iadd hG 23 rfl dX7_holds_22 ?_
  refine sm_istore hG 25 rfl dX7_holds_23 (jlt hN rfl) [(4, .int ((583 : Int32) + ((45 : Int32) * x1))), (3, .int r_11), (2, .int r_2.1), (0, .ref (Λ.2.2.2.1 0)), (1, .int x1)] rfl ?_
  refine sm_aload_n hG 26 rfl dX7_holds_25 rfl 3 rfl ?_
  refine gM0_0 hG hM  29 rfl u7 f7 dX7_holds_26 ?_
  refine sm_iload hG 31 rfl dX7_holds_29 0 rfl ?_
  refine sm_iconst (x := (1 : Int32)) hG 32 rfl dX7_holds_31 rfl ?_
  refine sm_iadd hG 33 rfl dX7_holds_32 ?_
  refine sm_nmi (fun y32_1 => ?_)
  refine lA hG (ia_1 hM) 34 rfl dX7_holds_33 ?_
  refine sm_istore hG 36 rfl dX7_holds_34 (jlt hN rfl) [(5, .int (r_7 1 (ix y32_1))), (4, .int ((583 : Int32) + ((45 : Int32) * x1))), (3, .int r_11), (2, .int r_2.1), (0, .ref (Λ.2.2.2.1 0)), (1, .int x1)] rfl ?_
  refine sm_aload_n hG 37 rfl dX7_holds_36 rfl 4 rfl ?_
  refine gM0_0 hG hM  40 rfl u7 f7 dX7_holds_37 ?_
  refine sm_iload hG 42 rfl dX7_holds_40 1 rfl ?_
  refine sm_bipush (x := (14 : Int32)) hG 44 rfl dX7_holds_42 rfl ?_
  refine sm_iadd hG 45 rfl dX7_holds_44 ?_
  refine sm_nmi (fun y44_2 => ?_)
  refine sm_iload_n hG 46 rfl dX7_holds_45 rfl 2 rfl ?_
  refine sA hG (ia_1 hM) 47 rfl dX7_holds_46 ?_
  refine sm_nmv (fun w46_3 => ?_)
  refine sm_iconst (x := (0 : Int32)) hG 48 rfl dX7_holds_47 rfl ?_
  refine sm_istore hG 50 rfl dX7_holds_48 (jlt hN rfl) [(6, .int (0 : Int32)), (5, .int (r_7 1 (ix y32_1))), (4, .int ((583 : Int32) + ((45 : Int32) * x1))), (3, .int r_11), (2, .int r_2.1), (0, .ref (Λ.2.2.2.1 0)), (1, .int x1)] rfl ?_
  refine sm_loc [5, 6, 4, 3, 2, 1, 0] [(0, .ref (Λ.2.2.2.1 0)), (1, .int x1), (2, .int r_2.1), (3, .int r_11), (4, .int ((583 : Int32) + ((45 : Int32) * x1))), (5, .int (r_7 1 (ix y32_1))), (6, .int (0 : Int32))] rfl ?_
  refine lp_ind (fun (X50 : Int32 → mM → Option mM) => ∀ (x6_50 : Int32) (v_50 : mM), Sm Γ Λ (0, 0) 50 [(0, .ref (Λ.2.2.2.1 0)), (1, .int x1), (2, .int r_2.1), (3, .int r_11), (4, .int ((583 : Int32) + ((45 : Int32) * x1))), (5, .int (r_7 1 (ix y32_1))), (6, .int x6_50)] [] v_50 (X50 x6_50 v_50)) (fun _ _ => sm_none) (fun self50 hs50 x6_50 v_50 => ?_) 8192 _ _
  refine sm_iload hG 52 rfl dX7_holds_50 6 rfl ?_
  refine sm_bipush (x := (30 : Int32)) hG 54 rfl dX7_holds_52 rfl ?_
  refine sm_icmp_ge hG 130 57 rfl dX7_holds_54 (by decide) ?_ ?_
  · refine sm_jn (fun (X151 : mM → Option mM) => ∀ (v_151 : mM), Sm Γ Λ (0, 0) 151 [(0, .ref (Λ.2.2.2.1 0)), (1, .int x1), (2, .int r_2.1), (5, .int (r_7 1 (ix y32_1)))] [] v_151 (X151 v_151)) (fun v_151 => ?_) (fun j151 hj151 => ?_)
    · refine sm_aload_n hG 152 rfl dX7_holds_151 rfl 0 rfl ?_
      refine gM0_0 hG hM  155 rfl u7 f7 dX7_holds_152 ?_
      refine sm_iconst (x := (4 : Int32)) hG 156 rfl dX7_holds_155 rfl ?_
      refine sm_dup2 hG 157 rfl dX7_holds_156 rfl rfl ?_
      refine lA hG (ia_1 hM) 158 rfl dX7_holds_157 ?_
      refine sm_iload hG 160 rfl dX7_holds_158 3 rfl ?_
      refine sm_iload_n hG 161 rfl dX7_holds_160 rfl 2 rfl ?_
      refine sm_imul hG 162 rfl dX7_holds_161 ?_
      refine sm_iadd hG 163 rfl dX7_holds_162 ?_
      refine sm_nmi (fun y162_4 => ?_)
      refine sA hG (ia_1 hM) 164 rfl dX7_holds_163 ?_
      refine sm_nmv (fun w163_5 => ?_)
      refine sm_aload_n hG 165 rfl dX7_holds_164 rfl 0 rfl ?_
      refine gM0_0 hG hM  168 rfl u7 f7 dX7_holds_165 ?_
      refine sm_bipush (x := (7 : Int32)) hG 170 rfl dX7_holds_168 rfl ?_
      refine sm_dup2 hG 171 rfl dX7_holds_170 rfl rfl ?_
      refine lA hG (ia_1 hM) 172 rfl dX7_holds_171 ?_
      refine sm_iload hG 174 rfl dX7_holds_172 3 rfl ?_
      refine sm_aload_n hG 175 rfl dX7_holds_174 rfl 0 rfl ?_
      refine sm_iload_n hG 176 rfl dX7_holds_175 rfl 1 rfl ?_
      refine sm_callV hG (fun (q : Int32) => (some (Value.int q), w163_5)) 0 [.int x1] 179 rfl (okm hM (by decide)) (me_0 hM _) (ci := 7) rfl (fun r_ hr_ => c_X7_allPlaces hM   hr_) gX7_holds_X7_allPlaces rfl (by decide) (by decide) (n := 1) rfl (Nat.le_of_ble_eq_true rfl) (by decide) ⟨Nat.zero_le _, Nat.zero_le _⟩ rfl dX7_holds_176 (fun r_176 => ?_)
      refine sm_iload_n hG 180 rfl dX7_holds_179 rfl 2 rfl ?_
      refine sm_isub hG 181 rfl dX7_holds_180 ?_
      refine sm_imul hG 182 rfl dX7_holds_181 ?_
      refine sm_iadd hG 183 rfl dX7_holds_182 ?_
      refine sm_nmi (fun y182_6 => ?_)
      refine sA hG (ia_1 hM) 184 rfl dX7_holds_183 ?_
      refine sm_nmv (fun w183_7 => ?_)
      exact sm_vret hG hT ⟨Nat.zero_le _, Nat.zero_le _⟩ dX7_holds_184 rfl
    · refine sm_iload_n hG 131 rfl dX7_holds_130 rfl 3 rfl ?_
      refine sm_iconst (x := (-1 : Int32)) hG 132 rfl dX7_holds_131 rfl ?_
      refine sm_icmp_eq hG 151 135 rfl dX7_holds_132 (by decide) ?_ ?_
      · refine sm_loc [0, 1, 2, 5] [(0, .ref (Λ.2.2.2.1 0)), (1, .int x1), (2, .int r_2.1), (5, .int (r_7 1 (ix y32_1)))] rfl ?_
        exact hj151 _
      · refine sm_aload_n hG 136 rfl dX7_holds_135 rfl 0 rfl ?_
        refine sm_iload_n hG 137 rfl dX7_holds_136 rfl 3 rfl ?_
        refine sm_bipush (x := (12 : Int32)) hG 139 rfl dX7_holds_137 rfl ?_
        refine sm_aload_n hG 140 rfl dX7_holds_139 rfl 0 rfl ?_
        refine sm_iload_n hG 141 rfl dX7_holds_140 rfl 3 rfl ?_
        refine sm_bipush (x := (12 : Int32)) hG 143 rfl dX7_holds_141 rfl ?_
        refine sm_callV hG (fun (q : Int32) => (some (Value.int q), v_50)) 0 [.int r_11, .int (12 : Int32)] 146 rfl (okm hM (by decide)) (me_0 hM _) (ci := 7) rfl (fun r_ hr_ => c_X7_its hM   hr_) gX7_holds_X7_its rfl (by decide) (by decide) (n := 2) rfl (Nat.le_of_ble_eq_true rfl) (by decide) ⟨Nat.zero_le _, Nat.zero_le _⟩ rfl dX7_holds_143 (fun r_143 => ?_)
        refine sm_iconst (x := (1 : Int32)) hG 147 rfl dX7_holds_146 rfl ?_
        refine sm_iadd hG 148 rfl dX7_holds_147 ?_
        refine sm_callV hG (fun (w : mM) => ((none : Option Value), w)) 0 [.int r_11, .int (12 : Int32), .int (r_143 + (1 : Int32))] 151 rfl (okm hM (by decide)) (me_0 hM _) (ci := 7) rfl (fun r_ hr_ => c_X7_lay hM   hr_) gX7_holds_X7_lay rfl (by decide) (by decide) (n := 3) rfl (Nat.le_of_ble_eq_true rfl) (by decide) ⟨Nat.zero_le _, Nat.zero_le _⟩ rfl dX7_holds_148 (fun r_148 => ?_)
        refine sm_loc [0, 1, 2, 5] [(0, .ref (Λ.2.2.2.1 0)), (1, .int x1), (2, .int r_2.1), (5, .int (r_7 1 (ix y32_1)))] rfl ?_
        exact hj151 _
  · refine sm_aload_n hG 58 rfl dX7_holds_57 rfl 0 rfl ?_
    refine gM0_0 hG hM  61 rfl u7 f7 dX7_holds_58 ?_
    refine sm_iload hG 63 rfl dX7_holds_61 4 rfl ?_
    refine sm_bipush (x := (15 : Int32)) hG 65 rfl dX7_holds_63 rfl ?_
    refine sm_iadd hG 66 rfl dX7_holds_65 ?_
    refine sm_nmi (fun y65_8 => ?_)
    refine sm_iload hG 68 rfl dX7_holds_66 6 rfl ?_
    refine sm_iadd hG 69 rfl dX7_holds_68 ?_
    refine sm_aload_n hG 70 rfl dX7_holds_69 rfl 0 rfl ?_
    refine gM0_6 hG hM  73 rfl u7 f22 dX7_holds_70 ?_
    refine sm_iload hG 75 rfl dX7_holds_73 6 rfl ?_
    refine lA hG (ia_5 hM) 76 rfl dX7_holds_75 ?_
    refine sA hG (ia_1 hM) 77 rfl dX7_holds_76 ?_
    refine sm_nmv (fun w76_9 => ?_)
    refine sm_aload_n hG 78 rfl dX7_holds_77 rfl 0 rfl ?_
    refine gM0_6 hG hM  81 rfl u7 f22 dX7_holds_78 ?_
    refine sm_iload hG 83 rfl dX7_holds_81 6 rfl ?_
    refine lA hG (ia_5 hM) 84 rfl dX7_holds_83 ?_
    refine sm_iconst (x := (-1 : Int32)) hG 85 rfl dX7_holds_84 rfl ?_
    refine sm_icmp_eq hG 124 88 rfl dX7_holds_85 (by decide) ?_ ?_
    · refine sm_iinc hG 127 rfl dX7_holds_124 (j := 6) rfl rfl (jlt hN rfl) [(6, .int (x6_50 + (1 : Int32))), (0, .ref (Λ.2.2.2.1 0)), (1, .int x1), (2, .int r_2.1), (3, .int r_11), (4, .int ((583 : Int32) + ((45 : Int32) * x1))), (5, .int (r_7 1 (ix y32_1)))] rfl ?_
      refine sm_goto hG 50 dX7_holds_127 (by decide) ?_
      refine sm_loc [1, 2, 3, 4, 5, 6, 0] [(0, .ref (Λ.2.2.2.1 0)), (1, .int x1), (2, .int r_2.1), (3, .int r_11), (4, .int ((583 : Int32) + ((45 : Int32) * x1))), (5, .int (r_7 1 (ix y32_1))), (6, .int (x6_50 + (1 : Int32)))] rfl ?_
      exact hs50 _ _
    · refine sm_aload_n hG 89 rfl dX7_holds_88 rfl 0 rfl ?_
      refine sm_iload hG 91 rfl dX7_holds_89 6 rfl ?_
      refine sm_bipush (x := (11 : Int32)) hG 93 rfl dX7_holds_91 rfl ?_
      refine sm_aload_n hG 94 rfl dX7_holds_93 rfl 0 rfl ?_
      refine sm_iload hG 96 rfl dX7_holds_94 6 rfl ?_
      refine sm_bipush (x := (11 : Int32)) hG 98 rfl dX7_holds_96 rfl ?_
      refine sm_callV hG (fun (q : Int32) => (some (Value.int q), w76_9)) 0 [.int x6_50, .int (11 : Int32)] 101 rfl (okm hM (by decide)) (me_0 hM _) (ci := 7) rfl (fun r_ hr_ => c_X7_its hM   hr_) gX7_holds_X7_its rfl (by decide) (by decide) (n := 2) rfl (Nat.le_of_ble_eq_true rfl) (by decide) ⟨Nat.zero_le _, Nat.zero_le _⟩ rfl dX7_holds_98 (fun r_98 => ?_)
      refine sm_iconst (x := (1 : Int32)) hG 102 rfl dX7_holds_101 rfl ?_
      refine sm_iadd hG 103 rfl dX7_holds_102 ?_
      refine sm_callV hG (fun (w : mM) => ((none : Option Value), w)) 0 [.int x6_50, .int (11 : Int32), .int (r_98 + (1 : Int32))] 106 rfl (okm hM (by decide)) (me_0 hM _) (ci := 7) rfl (fun r_ hr_ => c_X7_lay hM   hr_) gX7_holds_X7_lay rfl (by decide) (by decide) (n := 3) rfl (Nat.le_of_ble_eq_true rfl) (by decide) ⟨Nat.zero_le _, Nat.zero_le _⟩ rfl dX7_holds_103 (fun r_103 => ?_)
      refine sm_aload_n hG 107 rfl dX7_holds_106 rfl 0 rfl ?_
      refine gM0_0 hG hM  110 rfl u7 f7 dX7_holds_107 ?_
      refine sm_bipush (x := (6 : Int32)) hG 112 rfl dX7_holds_110 rfl ?_
      refine sm_dup2 hG 113 rfl dX7_holds_112 rfl rfl ?_
      refine lA hG (ia_1 hM) 114 rfl dX7_holds_113 ?_
      refine sm_aload_n hG 115 rfl dX7_holds_114 rfl 0 rfl ?_
      refine sm_iload hG 117 rfl dX7_holds_115 6 rfl ?_
      refine sm_bipush (x := (9 : Int32)) hG 119 rfl dX7_holds_117 rfl ?_
      refine sm_callV hG (fun (q : Int32) => (some (Value.int q), r_103)) 0 [.int x6_50, .int (9 : Int32)] 122 rfl (okm hM (by decide)) (me_0 hM _) (ci := 7) rfl (fun r_ hr_ => c_X7_its hM   hr_) gX7_holds_X7_its rfl (by decide) (by decide) (n := 2) rfl (Nat.le_of_ble_eq_true rfl) (by decide) ⟨Nat.zero_le _, Nat.zero_le _⟩ rfl dX7_holds_119 (fun r_119 => ?_)
      refine sm_iadd hG 123 rfl dX7_holds_122 ?_
      refine sA hG (ia_1 hM) 124 rfl dX7_holds_123 ?_
      refine sm_nmv (fun w123_10 => ?_)
      refine sm_iinc hG 127 rfl dX7_holds_124 (j := 6) rfl rfl (jlt hN rfl) [(6, .int (x6_50 + (1 : Int32))), (0, .ref (Λ.2.2.2.1 0)), (1, .int x1), (2, .int r_2.1), (3, .int r_11), (4, .int ((583 : Int32) + ((45 : Int32) * x1))), (5, .int (r_7 1 (ix y32_1)))] rfl ?_
      refine sm_goto hG 50 dX7_holds_127 (by decide) ?_
      refine sm_loc [1, 2, 3, 4, 5, 6, 0] [(0, .ref (Λ.2.2.2.1 0)), (1, .int x1), (2, .int r_2.1), (3, .int r_11), (4, .int ((583 : Int32) + ((45 : Int32) * x1))), (5, .int (r_7 1 (ix y32_1))), (6, .int (x6_50 + (1 : Int32)))] rfl ?_
      exact hs50 _ _
abbrev rmX7_canAnnounce : Room := { frames := 1, cells := 0, slots := 0, locals := 21 }
set_option maxRecDepth 100000 in
set_option maxHeartbeats 4000000 in
theorem c_X7_canAnnounce {Λ : jL Nat} (hM : LM Λ) {x1 : Int32}  {l : Launch} {v : mM} {r : Int32} (hr_ : f_X7_canAnnounce x1 v = some r) : Ct l yX7_canAnnounce wsX7_canAnnounce rmX7_canAnnounce Λ [.ref (Λ.2.2.2.1 0), .int x1] v (some (.int r)) v := by
  refine ct_of (cc := cX7_canAnnounce) (maxL := 4) (ret := (some .boolean)) (fun (q : Int32) => (some (Value.int q), v)) hM.1 hr_ (by decide) rfl (Nat.le_of_ble_eq_true rfl) (fun Γ hG hT hN hl => ?_)
  subst hl
  have f7 : Cond.fieldLink RX7 7 "ChoirRegisterModel" "now" "[I" ∈ wsX7_canAnnounce := by decide +kernel
  have u7 : ∀ w ∈ wsX70, w ∈ wsX7_canAnnounce := by decide +kernel
  show Sm Γ Λ (0, 0) 0 [(0, .ref (Λ.2.2.2.1 0)), (1, .int x1)] [] v _
  unfold f_X7_canAnnounce
  refine sm_jn (fun (X16 : Int32 → Option Int32) => ∀ (s0_16 : Int32), Sm Γ Λ (0, 0) 16 [(0, .ref (Λ.2.2.2.1 0)), (1, .int x1)] [.int s0_16] v (X16 s0_16)) (fun s0_16 => ?_) (fun j16 hj16 => ?_)
  · refine sm_istore_n hG 17 rfl dX7_canAnnounce_16 rfl (jlt hN rfl) [(2, .int s0_16), (0, .ref (Λ.2.2.2.1 0)), (1, .int x1)] rfl ?_
    refine sm_iconst (x := (0 : Int32)) hG 18 rfl dX7_canAnnounce_17 rfl ?_
    refine sm_istore_n hG 19 rfl dX7_canAnnounce_18 rfl (jlt hN rfl) [(3, .int (0 : Int32)), (2, .int s0_16), (0, .ref (Λ.2.2.2.1 0)), (1, .int x1)] rfl ?_
    refine sm_loc [2, 3, 1, 0] [(0, .ref (Λ.2.2.2.1 0)), (1, .int x1), (2, .int s0_16), (3, .int (0 : Int32))] rfl ?_
    refine lp_ind (fun (X19 : Int32 → Int32 → Option Int32) => ∀ (x2_19 : Int32) (x3_19 : Int32), Sm Γ Λ (0, 0) 19 [(0, .ref (Λ.2.2.2.1 0)), (1, .int x1), (2, .int x2_19), (3, .int x3_19)] [] v (X19 x2_19 x3_19)) (fun _ _ => sm_none) (fun self19 hs19 x2_19 x3_19 => ?_) 8192 _ _
    refine sm_iload_n hG 20 rfl dX7_canAnnounce_19 rfl 3 rfl ?_
    refine sm_aload_n hG 21 rfl dX7_canAnnounce_20 rfl 0 rfl ?_
    refine gM0_0 hG hM  24 rfl u7 f7 dX7_canAnnounce_21 ?_
    refine sm_iconst (x := (3 : Int32)) hG 25 rfl dX7_canAnnounce_24 rfl ?_
    refine lA hG (ia_1 hM) 26 rfl dX7_canAnnounce_25 ?_
    refine sm_icmp_ge hG 54 29 rfl dX7_canAnnounce_26 (by decide) ?_ ?_
    · refine sm_iload_n hG 55 rfl dX7_canAnnounce_54 rfl 2 rfl ?_
      exact sm_bret hG hT ⟨Nat.zero_le _, Nat.zero_le _⟩ dX7_canAnnounce_55 rfl
    · refine sm_iload_n hG 30 rfl dX7_canAnnounce_29 rfl 2 rfl ?_
      refine sm_if_eq hG 46 33 rfl dX7_canAnnounce_30 (by decide) ?_ ?_
      · refine sm_iconst (x := (0 : Int32)) hG 47 rfl dX7_canAnnounce_46 rfl ?_
        refine sm_istore_n hG 48 rfl dX7_canAnnounce_47 rfl (jlt hN rfl) [(2, .int (0 : Int32)), (0, .ref (Λ.2.2.2.1 0)), (1, .int x1), (3, .int x3_19)] rfl ?_
        refine sm_iinc hG 51 rfl dX7_canAnnounce_48 (j := 3) rfl rfl (jlt hN rfl) [(3, .int (x3_19 + (1 : Int32))), (2, .int (0 : Int32)), (0, .ref (Λ.2.2.2.1 0)), (1, .int x1)] rfl ?_
        refine sm_goto hG 19 dX7_canAnnounce_51 (by decide) ?_
        refine sm_loc [2, 3, 1, 0] [(0, .ref (Λ.2.2.2.1 0)), (1, .int x1), (2, .int (0 : Int32)), (3, .int (x3_19 + (1 : Int32)))] rfl ?_
        exact hs19 _ _
      · refine sm_aload_n hG 34 rfl dX7_canAnnounce_33 rfl 0 rfl ?_
        refine sm_iload_n hG 35 rfl dX7_canAnnounce_34 rfl 3 rfl ?_
        refine sm_callV hG (fun (q : Int32) => (some (Value.int q), v)) 0 [.int x3_19] 38 rfl (okm hM (by decide)) (me_0 hM _) (ci := 7) rfl (fun r_ hr_ => c_X7_dayAt hM   hr_) gX7_canAnnounce_X7_dayAt rfl (by decide) (by decide) (n := 1) rfl (Nat.le_of_ble_eq_true rfl) (by decide) ⟨Nat.zero_le _, Nat.zero_le _⟩ rfl dX7_canAnnounce_35 (fun r_35 => ?_)
        refine sm_iload_n hG 39 rfl dX7_canAnnounce_38 rfl 1 rfl ?_
        refine sm_icmp_eq hG 46 42 rfl dX7_canAnnounce_39 (by decide) ?_ ?_
        · refine sm_iconst (x := (0 : Int32)) hG 47 rfl dX7_canAnnounce_46 rfl ?_
          refine sm_istore_n hG 48 rfl dX7_canAnnounce_47 rfl (jlt hN rfl) [(2, .int (0 : Int32)), (0, .ref (Λ.2.2.2.1 0)), (1, .int x1), (3, .int x3_19)] rfl ?_
          refine sm_iinc hG 51 rfl dX7_canAnnounce_48 (j := 3) rfl rfl (jlt hN rfl) [(3, .int (x3_19 + (1 : Int32))), (2, .int (0 : Int32)), (0, .ref (Λ.2.2.2.1 0)), (1, .int x1)] rfl ?_
          refine sm_goto hG 19 dX7_canAnnounce_51 (by decide) ?_
          refine sm_loc [2, 3, 1, 0] [(0, .ref (Λ.2.2.2.1 0)), (1, .int x1), (2, .int (0 : Int32)), (3, .int (x3_19 + (1 : Int32)))] rfl ?_
          exact hs19 _ _
        · refine sm_iconst (x := (1 : Int32)) hG 43 rfl dX7_canAnnounce_42 rfl ?_
          refine sm_goto hG 47 dX7_canAnnounce_43 (by decide) ?_
          refine sm_istore_n hG 48 rfl dX7_canAnnounce_47 rfl (jlt hN rfl) [(2, .int (1 : Int32)), (0, .ref (Λ.2.2.2.1 0)), (1, .int x1), (3, .int x3_19)] rfl ?_
          refine sm_iinc hG 51 rfl dX7_canAnnounce_48 (j := 3) rfl rfl (jlt hN rfl) [(3, .int (x3_19 + (1 : Int32))), (2, .int (1 : Int32)), (0, .ref (Λ.2.2.2.1 0)), (1, .int x1)] rfl ?_
          refine sm_goto hG 19 dX7_canAnnounce_51 (by decide) ?_
          refine sm_loc [2, 3, 1, 0] [(0, .ref (Λ.2.2.2.1 0)), (1, .int x1), (2, .int (1 : Int32)), (3, .int (x3_19 + (1 : Int32)))] rfl ?_
          exact hs19 _ _
  · refine sm_aload_n hG 1 rfl dX7_canAnnounce_0 rfl 0 rfl ?_
    refine gM0_0 hG hM  4 rfl u7 f7 dX7_canAnnounce_1 ?_
    refine sm_iconst (x := (3 : Int32)) hG 5 rfl dX7_canAnnounce_4 rfl ?_
    refine lA hG (ia_1 hM) 6 rfl dX7_canAnnounce_5 ?_
    refine sm_bipush (x := (20 : Int32)) hG 8 rfl dX7_canAnnounce_6 rfl ?_
    refine sm_icmp_ge hG 15 11 rfl dX7_canAnnounce_8 (by decide) ?_ ?_
    · refine sm_iconst (x := (0 : Int32)) hG 16 rfl dX7_canAnnounce_15 rfl ?_
      exact hj16 _
    · refine sm_iconst (x := (1 : Int32)) hG 12 rfl dX7_canAnnounce_11 rfl ?_
      refine sm_goto hG 16 dX7_canAnnounce_12 (by decide) ?_
      exact hj16 _
abbrev rmX7_isFuture : Room := { frames := 0, cells := 0, slots := 0, locals := 0 }
set_option maxRecDepth 100000 in
set_option maxHeartbeats 4000000 in
theorem c_X7_isFuture {Λ : jL Nat} (hM : LM Λ) {x1 : Int32}  {l : Launch} {v : mM} {r : Int32} (hr_ : f_X7_isFuture x1 v = some r) : Ct l yX7_isFuture wsX7_isFuture rmX7_isFuture Λ [.ref (Λ.2.2.2.1 0), .int x1] v (some (.int r)) v := by
  refine ct_of (cc := cX7_isFuture) (maxL := 2) (ret := (some .boolean)) (fun (q : Int32) => (some (Value.int q), v)) hM.1 hr_ (by decide) rfl (Nat.le_of_ble_eq_true rfl) (fun Γ hG hT hN hl => ?_)
  subst hl
  have f7 : Cond.fieldLink RX7 7 "ChoirRegisterModel" "now" "[I" ∈ wsX7_isFuture := by decide +kernel
  have u7 : ∀ w ∈ wsX70, w ∈ wsX7_isFuture := by decide +kernel
  show Sm Γ Λ (0, 0) 0 [(0, .ref (Λ.2.2.2.1 0)), (1, .int x1)] [] v _
  unfold f_X7_isFuture
  refine sm_iload_n hG 1 rfl dX7_isFuture_0 rfl 1 rfl ?_
  refine sm_aload_n hG 2 rfl dX7_isFuture_1 rfl 0 rfl ?_
  refine gM0_0 hG hM  5 rfl u7 f7 dX7_isFuture_2 ?_
  refine sm_iconst (x := (0 : Int32)) hG 6 rfl dX7_isFuture_5 rfl ?_
  refine lA hG (ia_1 hM) 7 rfl dX7_isFuture_6 ?_
  refine sm_icmp_le hG 21 10 rfl dX7_isFuture_7 (by decide) ?_ ?_
  · refine sm_iconst (x := (0 : Int32)) hG 22 rfl dX7_isFuture_21 rfl ?_
    exact sm_bret hG hT ⟨Nat.zero_le _, Nat.zero_le _⟩ dX7_isFuture_22 rfl
  · refine sm_iload_n hG 11 rfl dX7_isFuture_10 rfl 1 rfl ?_
    refine sm_sipush (x := (9999 : Int32)) hG 14 rfl dX7_isFuture_11 rfl ?_
    refine sm_icmp_gt hG 21 17 rfl dX7_isFuture_14 (by decide) ?_ ?_
    · refine sm_iconst (x := (0 : Int32)) hG 22 rfl dX7_isFuture_21 rfl ?_
      exact sm_bret hG hT ⟨Nat.zero_le _, Nat.zero_le _⟩ dX7_isFuture_22 rfl
    · refine sm_iconst (x := (1 : Int32)) hG 18 rfl dX7_isFuture_17 rfl ?_
      refine sm_goto hG 22 dX7_isFuture_18 (by decide) ?_
      exact sm_bret hG hT ⟨Nat.zero_le _, Nat.zero_le _⟩ dX7_isFuture_22 rfl
abbrev rmX7_announces : Room := { frames := 0, cells := 0, slots := 0, locals := 0 }
set_option maxRecDepth 100000 in
set_option maxHeartbeats 4000000 in
theorem c_X7_announces {Λ : jL Nat} (hM : LM Λ) {x1 : Int32} {x2 : Int32}  {l : Launch} {v : mM} {r : (Int32 × mM)} (hr_ : f_X7_announces x1 x2 v = some r) : Ct l yX7_announces wsX7_announces rmX7_announces Λ [.ref (Λ.2.2.2.1 0), .int x1, .int x2] v (some (.int r.1)) r.2 := by
  refine ct_of (cc := cX7_announces) (maxL := 5) (ret := (some .int)) (fun (q : Int32 × mM) => (some (Value.int q.1), q.2)) hM.1 hr_ (by decide) rfl (Nat.le_of_ble_eq_true rfl) (fun Γ hG hT hN hl => ?_)
  subst hl
  have f7 : Cond.fieldLink RX7 7 "ChoirRegisterModel" "now" "[I" ∈ wsX7_announces := by decide +kernel
  have u7 : ∀ w ∈ wsX70, w ∈ wsX7_announces := by decide +kernel
  show Sm Γ Λ (0, 0) 0 [(0, .ref (Λ.2.2.2.1 0)), (1, .int x1), (2, .int x2)] [] v _
  unfold f_X7_announces
  refine sm_sipush (x := (583 : Int32)) hG 3 rfl dX7_announces_0 rfl ?_
  refine sm_bipush (x := (45 : Int32)) hG 5 rfl dX7_announces_3 rfl ?_
  refine sm_aload_n hG 6 rfl dX7_announces_5 rfl 0 rfl ?_
  refine gM0_0 hG hM  9 rfl u7 f7 dX7_announces_6 ?_
  refine sm_iconst (x := (3 : Int32)) hG 10 rfl dX7_announces_9 rfl ?_
  refine lA hG (ia_1 hM) 11 rfl dX7_announces_10 ?_
  refine sm_imul hG 12 rfl dX7_announces_11 ?_
  refine sm_iadd hG 13 rfl dX7_announces_12 ?_
  refine sm_nmi (fun y12_1 => ?_)
  refine sm_istore_n hG 14 rfl dX7_announces_13 rfl (jlt hN rfl) [(3, .int y12_1), (0, .ref (Λ.2.2.2.1 0)), (1, .int x1), (2, .int x2)] rfl ?_
  refine sm_iconst (x := (0 : Int32)) hG 15 rfl dX7_announces_14 rfl ?_
  refine sm_istore hG 17 rfl dX7_announces_15 (jlt hN rfl) [(4, .int (0 : Int32)), (3, .int y12_1), (0, .ref (Λ.2.2.2.1 0)), (1, .int x1), (2, .int x2)] rfl ?_
  refine sm_loc [2, 3, 4, 1, 0] [(0, .ref (Λ.2.2.2.1 0)), (1, .int x1), (2, .int x2), (3, .int y12_1), (4, .int (0 : Int32))] rfl ?_
  refine lp_ind (fun (X17 : Int32 → mM → Option (Int32 × mM)) => ∀ (x4_17 : Int32) (v_17 : mM), Sm Γ Λ (0, 0) 17 [(0, .ref (Λ.2.2.2.1 0)), (1, .int x1), (2, .int x2), (3, .int y12_1), (4, .int x4_17)] [] v_17 (X17 x4_17 v_17)) (fun _ _ => sm_none) (fun self17 hs17 x4_17 v_17 => ?_) 8192 _ _
  refine sm_iload hG 19 rfl dX7_announces_17 4 rfl ?_
  refine sm_bipush (x := (45 : Int32)) hG 21 rfl dX7_announces_19 rfl ?_
  refine sm_icmp_ge hG 51 24 rfl dX7_announces_21 (by decide) ?_ ?_
  · refine sm_aload_n hG 52 rfl dX7_announces_51 rfl 0 rfl ?_
    refine gM0_0 hG hM  55 rfl u7 f7 dX7_announces_52 ?_
    refine sm_iload_n hG 56 rfl dX7_announces_55 rfl 3 rfl ?_
    refine sm_iload_n hG 57 rfl dX7_announces_56 rfl 1 rfl ?_
    refine sA hG (ia_1 hM) 58 rfl dX7_announces_57 ?_
    refine sm_nmv (fun w57_2 => ?_)
    refine sm_aload_n hG 59 rfl dX7_announces_58 rfl 0 rfl ?_
    refine gM0_0 hG hM  62 rfl u7 f7 dX7_announces_59 ?_
    refine sm_iload_n hG 63 rfl dX7_announces_62 rfl 3 rfl ?_
    refine sm_iconst (x := (1 : Int32)) hG 64 rfl dX7_announces_63 rfl ?_
    refine sm_iadd hG 65 rfl dX7_announces_64 ?_
    refine sm_iload_n hG 66 rfl dX7_announces_65 rfl 2 rfl ?_
    refine sA hG (ia_1 hM) 67 rfl dX7_announces_66 ?_
    refine sm_nmv (fun w66_3 => ?_)
    refine sm_aload_n hG 68 rfl dX7_announces_67 rfl 0 rfl ?_
    refine gM0_0 hG hM  71 rfl u7 f7 dX7_announces_68 ?_
    refine sm_iconst (x := (3 : Int32)) hG 72 rfl dX7_announces_71 rfl ?_
    refine sm_dup2 hG 73 rfl dX7_announces_72 rfl rfl ?_
    refine lA hG (ia_1 hM) 74 rfl dX7_announces_73 ?_
    refine sm_iconst (x := (1 : Int32)) hG 75 rfl dX7_announces_74 rfl ?_
    refine sm_iadd hG 76 rfl dX7_announces_75 ?_
    refine sA hG (ia_1 hM) 77 rfl dX7_announces_76 ?_
    refine sm_nmv (fun w76_4 => ?_)
    refine sm_aload_n hG 78 rfl dX7_announces_77 rfl 0 rfl ?_
    refine gM0_0 hG hM  81 rfl u7 f7 dX7_announces_78 ?_
    refine sm_iconst (x := (3 : Int32)) hG 82 rfl dX7_announces_81 rfl ?_
    refine lA hG (ia_1 hM) 83 rfl dX7_announces_82 ?_
    refine sm_iconst (x := (1 : Int32)) hG 84 rfl dX7_announces_83 rfl ?_
    refine sm_isub hG 85 rfl dX7_announces_84 ?_
    exact sm_iret hG hT ⟨Nat.zero_le _, Nat.zero_le _⟩ dX7_announces_85 rfl
  · refine sm_aload_n hG 25 rfl dX7_announces_24 rfl 0 rfl ?_
    refine gM0_0 hG hM  28 rfl u7 f7 dX7_announces_25 ?_
    refine sm_iload_n hG 29 rfl dX7_announces_28 rfl 3 rfl ?_
    refine sm_iload hG 31 rfl dX7_announces_29 4 rfl ?_
    refine sm_iadd hG 32 rfl dX7_announces_31 ?_
    refine sm_iload hG 34 rfl dX7_announces_32 4 rfl ?_
    refine sm_bipush (x := (14 : Int32)) hG 36 rfl dX7_announces_34 rfl ?_
    refine sm_icmp_ge hG 43 39 rfl dX7_announces_36 (by decide) ?_ ?_
    · refine sm_iconst (x := (-1 : Int32)) hG 44 rfl dX7_announces_43 rfl ?_
      refine sA hG (ia_1 hM) 45 rfl dX7_announces_44 ?_
      refine sm_nmv (fun w44_5 => ?_)
      refine sm_iinc hG 48 rfl dX7_announces_45 (j := 4) rfl rfl (jlt hN rfl) [(4, .int (x4_17 + (1 : Int32))), (0, .ref (Λ.2.2.2.1 0)), (1, .int x1), (2, .int x2), (3, .int y12_1)] rfl ?_
      refine sm_goto hG 17 dX7_announces_48 (by decide) ?_
      refine sm_loc [1, 2, 3, 4, 0] [(0, .ref (Λ.2.2.2.1 0)), (1, .int x1), (2, .int x2), (3, .int y12_1), (4, .int (x4_17 + (1 : Int32)))] rfl ?_
      exact hs17 _ _
    · refine sm_iconst (x := (0 : Int32)) hG 40 rfl dX7_announces_39 rfl ?_
      refine sm_goto hG 44 dX7_announces_40 (by decide) ?_
      refine sA hG (ia_1 hM) 45 rfl dX7_announces_44 ?_
      refine sm_nmv (fun w44_6 => ?_)
      refine sm_iinc hG 48 rfl dX7_announces_45 (j := 4) rfl rfl (jlt hN rfl) [(4, .int (x4_17 + (1 : Int32))), (0, .ref (Λ.2.2.2.1 0)), (1, .int x1), (2, .int x2), (3, .int y12_1)] rfl ?_
      refine sm_goto hG 17 dX7_announces_48 (by decide) ?_
      refine sm_loc [1, 2, 3, 4, 0] [(0, .ref (Λ.2.2.2.1 0)), (1, .int x1), (2, .int x2), (3, .int y12_1), (4, .int (x4_17 + (1 : Int32)))] rfl ?_
      exact hs17 _ _
abbrev rmX7_sets : Room := { frames := 2, cells := 0, slots := 0, locals := 43 }
set_option maxRecDepth 100000 in
set_option maxHeartbeats 4000000 in
theorem c_X7_sets {Λ : jL Nat} (hM : LM Λ) {x1 : Int32} {x2 : Int32} {x3 : Int32} {x4 : Int32} {x5 : Int32}  {l : Launch} {v : mM} {r : (Int32 × mM)} (hr_ : f_X7_sets x1 x2 x3 x4 x5 v = some r) : Ct l yX7_sets wsX7_sets rmX7_sets Λ [.ref (Λ.2.2.2.1 0), .int x1, .int x2, .int x3, .int x4, .int x5] v (some (.int r.1)) r.2 := by
  refine ct_of (cc := cX7_sets) (maxL := 7) (ret := (some .int)) (fun (q : Int32 × mM) => (some (Value.int q.1), q.2)) hM.1 hr_ (by decide) rfl (Nat.le_of_ble_eq_true rfl) (fun Γ hG hT hN hl => ?_)
  subst hl
  have f7 : Cond.fieldLink RX7 7 "ChoirRegisterModel" "now" "[I" ∈ wsX7_sets := by decide +kernel
  have u7 : ∀ w ∈ wsX70, w ∈ wsX7_sets := by decide +kernel
  show Sm Γ Λ (0, 0) 0 [(0, .ref (Λ.2.2.2.1 0)), (1, .int x1), (2, .int x2), (3, .int x3), (4, .int x4), (5, .int x5)] [] v _
  unfold f_X7_sets
  refine sm_sipush (x := (583 : Int32)) hG 3 rfl dX7_sets_0 rfl ?_
  refine sm_bipush (x := (45 : Int32)) hG 5 rfl dX7_sets_3 rfl ?_
  refine sm_iload_n hG 6 rfl dX7_sets_5 rfl 1 rfl ?_
  refine sm_imul hG 7 rfl dX7_sets_6 ?_
  refine sm_iadd hG 8 rfl dX7_sets_7 ?_
  refine sm_iconst (x := (2 : Int32)) hG 9 rfl dX7_sets_8 rfl ?_
  refine sm_iadd hG 10 rfl dX7_sets_9 ?_
  refine sm_nmi (fun y9_1 => ?_)
  refine sm_iconst (x := (3 : Int32)) hG 11 rfl dX7_sets_10 rfl ?_
  refine sm_iload_n hG 12 rfl dX7_sets_11 rfl 2 rfl ?_
  refine sm_imul hG 13 rfl dX7_sets_12 ?_
  refine sm_iadd hG 14 rfl dX7_sets_13 ?_
  refine sm_istore hG 16 rfl dX7_sets_14 (jlt hN rfl) [(6, .int (y9_1 + ((3 : Int32) * x2))), (0, .ref (Λ.2.2.2.1 0)), (1, .int x1), (2, .int x2), (3, .int x3), (4, .int x4), (5, .int x5)] rfl ?_
  refine sm_aload_n hG 17 rfl dX7_sets_16 rfl 1 rfl ?_
  refine gM0_0 hG hM  20 rfl u7 f7 dX7_sets_17 ?_
  refine sm_iload hG 22 rfl dX7_sets_20 0 rfl ?_
  refine sm_iload_n hG 23 rfl dX7_sets_22 rfl 4 rfl ?_
  refine sA hG (ia_1 hM) 24 rfl dX7_sets_23 ?_
  refine sm_nmv (fun w23_2 => ?_)
  refine sm_aload_n hG 25 rfl dX7_sets_24 rfl 1 rfl ?_
  refine gM0_0 hG hM  28 rfl u7 f7 dX7_sets_25 ?_
  refine sm_iload hG 30 rfl dX7_sets_28 0 rfl ?_
  refine sm_iconst (x := (1 : Int32)) hG 31 rfl dX7_sets_30 rfl ?_
  refine sm_iadd hG 32 rfl dX7_sets_31 ?_
  refine sm_iload hG 34 rfl dX7_sets_32 5 rfl ?_
  refine sA hG (ia_1 hM) 35 rfl dX7_sets_34 ?_
  refine sm_nmv (fun w34_3 => ?_)
  refine sm_aload_n hG 36 rfl dX7_sets_35 rfl 1 rfl ?_
  refine gM0_0 hG hM  39 rfl u7 f7 dX7_sets_36 ?_
  refine sm_iload hG 41 rfl dX7_sets_39 0 rfl ?_
  refine sm_iconst (x := (2 : Int32)) hG 42 rfl dX7_sets_41 rfl ?_
  refine sm_iadd hG 43 rfl dX7_sets_42 ?_
  refine sm_iload hG 45 rfl dX7_sets_43 6 rfl ?_
  refine sA hG (ia_1 hM) 46 rfl dX7_sets_45 ?_
  refine sm_nmv (fun w45_4 => ?_)
  refine sm_aload_n hG 47 rfl dX7_sets_46 rfl 1 rfl ?_
  refine sm_iload_n hG 48 rfl dX7_sets_47 rfl 2 rfl ?_
  refine sm_callV hG (fun (q : Int32) => (some (Value.int q), w45_4)) 0 [.int x1] 51 rfl (okm hM (by decide)) (me_0 hM _) (ci := 7) rfl (fun r_ hr_ => c_X7_allPlaces hM   hr_) gX7_sets_X7_allPlaces rfl (by decide) (by decide) (n := 1) rfl (Nat.le_of_ble_eq_true rfl) (by decide) ⟨Nat.zero_le _, Nat.zero_le _⟩ rfl dX7_sets_48 (fun r_48 => ?_)
  exact sm_iret hG hT ⟨Nat.zero_le _, Nat.zero_le _⟩ dX7_sets_51 rfl
abbrev rmX7_passes : Room := { frames := 8, cells := 0, slots := 0, locals := 193 }
set_option maxRecDepth 100000 in
set_option maxHeartbeats 4000000 in
theorem c_X7_passes {Λ : jL Nat} (hM : LM Λ)   {l : Launch} {v : mM} {r : (Int32 × mM)} (hr_ : f_X7_passes v = some r) : Ct l yX7_passes wsX7_passes rmX7_passes Λ [.ref (Λ.2.2.2.1 0)] v (some (.int r.1)) r.2 := by
  refine ct_of (cc := cX7_passes) (maxL := 3) (ret := (some .int)) (fun (q : Int32 × mM) => (some (Value.int q.1), q.2)) hM.1 hr_ (by decide) rfl (Nat.le_of_ble_eq_true rfl) (fun Γ hG hT hN hl => ?_)
  subst hl
  have f7 : Cond.fieldLink RX7 7 "ChoirRegisterModel" "now" "[I" ∈ wsX7_passes := by decide +kernel
  have u7 : ∀ w ∈ wsX70, w ∈ wsX7_passes := by decide +kernel
  show Sm Γ Λ (0, 0) 0 [(0, .ref (Λ.2.2.2.1 0))] [] v _
  unfold f_X7_passes
  refine sm_aload_n hG 1 rfl dX7_passes_0 rfl 0 rfl ?_
  refine gM0_0 hG hM  4 rfl u7 f7 dX7_passes_1 ?_
  refine sm_iconst (x := (0 : Int32)) hG 5 rfl dX7_passes_4 rfl ?_
  refine sm_dup2 hG 6 rfl dX7_passes_5 rfl rfl ?_
  refine lA hG (ia_1 hM) 7 rfl dX7_passes_6 ?_
  refine sm_iconst (x := (1 : Int32)) hG 8 rfl dX7_passes_7 rfl ?_
  refine sm_iadd hG 9 rfl dX7_passes_8 ?_
  refine sA hG (ia_1 hM) 10 rfl dX7_passes_9 ?_
  refine sm_nmv (fun w9_1 => ?_)
  refine sm_iconst (x := (0 : Int32)) hG 11 rfl dX7_passes_10 rfl ?_
  refine sm_istore_n hG 12 rfl dX7_passes_11 rfl (jlt hN rfl) [(1, .int (0 : Int32)), (0, .ref (Λ.2.2.2.1 0))] rfl ?_
  refine sm_iconst (x := (0 : Int32)) hG 13 rfl dX7_passes_12 rfl ?_
  refine sm_istore_n hG 14 rfl dX7_passes_13 rfl (jlt hN rfl) [(2, .int (0 : Int32)), (1, .int (0 : Int32)), (0, .ref (Λ.2.2.2.1 0))] rfl ?_
  refine sm_loc [2, 1, 0] [(0, .ref (Λ.2.2.2.1 0)), (1, .int (0 : Int32)), (2, .int (0 : Int32))] rfl ?_
  refine lp_ind (fun (X14 : Int32 → mM → Option (Int32 × mM)) => ∀ (x2_14 : Int32) (v_14 : mM), Sm Γ Λ (0, 0) 14 [(0, .ref (Λ.2.2.2.1 0)), (1, .int (0 : Int32)), (2, .int x2_14)] [] v_14 (X14 x2_14 v_14)) (fun _ _ => sm_none) (fun self14 hs14 x2_14 v_14 => ?_) 8192 _ _
  refine sm_iload_n hG 15 rfl dX7_passes_14 rfl 2 rfl ?_
  refine sm_aload_n hG 16 rfl dX7_passes_15 rfl 0 rfl ?_
  refine gM0_0 hG hM  19 rfl u7 f7 dX7_passes_16 ?_
  refine sm_iconst (x := (1 : Int32)) hG 20 rfl dX7_passes_19 rfl ?_
  refine lA hG (ia_1 hM) 21 rfl dX7_passes_20 ?_
  refine sm_icmp_ge hG 52 24 rfl dX7_passes_21 (by decide) ?_ ?_
  · refine sm_iconst (x := (0 : Int32)) hG 53 rfl dX7_passes_52 rfl ?_
    refine sm_istore_n hG 54 rfl dX7_passes_53 rfl (jlt hN rfl) [(2, .int (0 : Int32)), (0, .ref (Λ.2.2.2.1 0)), (1, .int (0 : Int32))] rfl ?_
    refine sm_loc [1, 2, 0] [(0, .ref (Λ.2.2.2.1 0)), (1, .int (0 : Int32)), (2, .int (0 : Int32))] rfl ?_
    refine lp_ind (fun (X54 : Int32 → Int32 → mM → Option (Int32 × mM)) => ∀ (x1_54 : Int32) (x2_54 : Int32) (v_54 : mM), Sm Γ Λ (0, 0) 54 [(0, .ref (Λ.2.2.2.1 0)), (1, .int x1_54), (2, .int x2_54)] [] v_54 (X54 x1_54 x2_54 v_54)) (fun _ _ _ => sm_none) (fun self54 hs54 x1_54 x2_54 v_54 => ?_) 8192 _ _ _
    refine sm_iload_n hG 55 rfl dX7_passes_54 rfl 2 rfl ?_
    refine sm_aload_n hG 56 rfl dX7_passes_55 rfl 0 rfl ?_
    refine gM0_0 hG hM  59 rfl u7 f7 dX7_passes_56 ?_
    refine sm_iconst (x := (3 : Int32)) hG 60 rfl dX7_passes_59 rfl ?_
    refine lA hG (ia_1 hM) 61 rfl dX7_passes_60 ?_
    refine sm_icmp_ge hG 92 64 rfl dX7_passes_61 (by decide) ?_ ?_
    · refine sm_iload_n hG 93 rfl dX7_passes_92 rfl 1 rfl ?_
      exact sm_iret hG hT ⟨Nat.zero_le _, Nat.zero_le _⟩ dX7_passes_93 rfl
    · refine sm_aload_n hG 65 rfl dX7_passes_64 rfl 0 rfl ?_
      refine sm_iload_n hG 66 rfl dX7_passes_65 rfl 2 rfl ?_
      refine sm_callV hG (fun (q : Int32) => (some (Value.int q), v_54)) 0 [.int x2_54] 69 rfl (okm hM (by decide)) (me_0 hM _) (ci := 7) rfl (fun r_ hr_ => c_X7_dayAt hM   hr_) gX7_passes_X7_dayAt rfl (by decide) (by decide) (n := 1) rfl (Nat.le_of_ble_eq_true rfl) (by decide) ⟨Nat.zero_le _, Nat.zero_le _⟩ rfl dX7_passes_66 (fun r_66 => ?_)
      refine sm_aload_n hG 70 rfl dX7_passes_69 rfl 0 rfl ?_
      refine gM0_0 hG hM  73 rfl u7 f7 dX7_passes_70 ?_
      refine sm_iconst (x := (0 : Int32)) hG 74 rfl dX7_passes_73 rfl ?_
      refine lA hG (ia_1 hM) 75 rfl dX7_passes_74 ?_
      refine sm_icmp_ne hG 86 78 rfl dX7_passes_75 (by decide) ?_ ?_
      · refine sm_iinc hG 89 rfl dX7_passes_86 (j := 2) rfl rfl (jlt hN rfl) [(2, .int (x2_54 + (1 : Int32))), (0, .ref (Λ.2.2.2.1 0)), (1, .int x1_54)] rfl ?_
        refine sm_goto hG 54 dX7_passes_89 (by decide) ?_
        refine sm_loc [1, 2, 0] [(0, .ref (Λ.2.2.2.1 0)), (1, .int x1_54), (2, .int (x2_54 + (1 : Int32)))] rfl ?_
        exact hs54 _ _ _
      · refine sm_aload_n hG 79 rfl dX7_passes_78 rfl 0 rfl ?_
        refine sm_iload_n hG 80 rfl dX7_passes_79 rfl 2 rfl ?_
        refine sm_callV hG (fun (w : mM) => ((none : Option Value), w)) 0 [.int x2_54] 83 rfl (okm hM (by decide)) (me_0 hM _) (ci := 7) rfl (fun r_ hr_ => c_X7_holds hM   hr_) gX7_passes_X7_holds rfl (by decide) (by decide) (n := 1) rfl (Nat.le_of_ble_eq_true rfl) (by decide) ⟨Nat.zero_le _, Nat.zero_le _⟩ rfl dX7_passes_80 (fun r_80 => ?_)
        refine sm_iinc hG 86 rfl dX7_passes_83 (j := 1) rfl rfl (jlt hN rfl) [(1, .int (x1_54 + (1 : Int32))), (0, .ref (Λ.2.2.2.1 0)), (2, .int x2_54)] rfl ?_
        refine sm_iinc hG 89 rfl dX7_passes_86 (j := 2) rfl rfl (jlt hN rfl) [(2, .int (x2_54 + (1 : Int32))), (1, .int (x1_54 + (1 : Int32))), (0, .ref (Λ.2.2.2.1 0))] rfl ?_
        refine sm_goto hG 54 dX7_passes_89 (by decide) ?_
        refine sm_loc [2, 1, 0] [(0, .ref (Λ.2.2.2.1 0)), (1, .int (x1_54 + (1 : Int32))), (2, .int (x2_54 + (1 : Int32)))] rfl ?_
        exact hs54 _ _ _
  · refine sm_aload_n hG 25 rfl dX7_passes_24 rfl 0 rfl ?_
    refine sm_iload_n hG 26 rfl dX7_passes_25 rfl 2 rfl ?_
    refine sm_aload_n hG 27 rfl dX7_passes_26 rfl 0 rfl ?_
    refine gM0_0 hG hM  30 rfl u7 f7 dX7_passes_27 ?_
    refine sm_iconst (x := (0 : Int32)) hG 31 rfl dX7_passes_30 rfl ?_
    refine lA hG (ia_1 hM) 32 rfl dX7_passes_31 ?_
    refine sm_callV hG (fun (q : Int32) => (some (Value.int q), v_14)) 0 [.int x2_14, .int (v_14 1 (ix (0 : Int32)))] 35 rfl (okm hM (by decide)) (me_0 hM _) (ci := 7) rfl (fun r_ hr_ => c_X7_willHaveLeft hM   hr_) gX7_passes_X7_willHaveLeft rfl (by decide) (by decide) (n := 2) rfl (Nat.le_of_ble_eq_true rfl) (by decide) ⟨Nat.zero_le _, Nat.zero_le _⟩ rfl dX7_passes_32 (fun r_32 => ?_)
    refine sm_if_eq hG 46 38 rfl dX7_passes_35 (by decide) ?_ ?_
    · refine sm_iinc hG 49 rfl dX7_passes_46 (j := 2) rfl rfl (jlt hN rfl) [(2, .int (x2_14 + (1 : Int32))), (0, .ref (Λ.2.2.2.1 0)), (1, .int (0 : Int32))] rfl ?_
      refine sm_goto hG 14 dX7_passes_49 (by decide) ?_
      refine sm_loc [1, 2, 0] [(0, .ref (Λ.2.2.2.1 0)), (1, .int (0 : Int32)), (2, .int (x2_14 + (1 : Int32)))] rfl ?_
      exact hs14 _ _
    · refine sm_aload_n hG 39 rfl dX7_passes_38 rfl 0 rfl ?_
      refine sm_iload_n hG 40 rfl dX7_passes_39 rfl 2 rfl ?_
      refine sm_bipush (x := (7 : Int32)) hG 42 rfl dX7_passes_40 rfl ?_
      refine sm_iconst (x := (1 : Int32)) hG 43 rfl dX7_passes_42 rfl ?_
      refine sm_callV hG (fun (w : mM) => ((none : Option Value), w)) 0 [.int x2_14, .int (7 : Int32), .int (1 : Int32)] 46 rfl (okm hM (by decide)) (me_0 hM _) (ci := 7) rfl (fun r_ hr_ => c_X7_lay hM   hr_) gX7_passes_X7_lay rfl (by decide) (by decide) (n := 3) rfl (Nat.le_of_ble_eq_true rfl) (by decide) ⟨Nat.zero_le _, Nat.zero_le _⟩ rfl dX7_passes_43 (fun r_43 => ?_)
      refine sm_iinc hG 49 rfl dX7_passes_46 (j := 2) rfl rfl (jlt hN rfl) [(2, .int (x2_14 + (1 : Int32))), (0, .ref (Λ.2.2.2.1 0)), (1, .int (0 : Int32))] rfl ?_
      refine sm_goto hG 14 dX7_passes_49 (by decide) ?_
      refine sm_loc [1, 2, 0] [(0, .ref (Λ.2.2.2.1 0)), (1, .int (0 : Int32)), (2, .int (x2_14 + (1 : Int32)))] rfl ?_
      exact hs14 _ _
abbrev rmX7_passesMany : Room := { frames := 9, cells := 0, slots := 0, locals := 215 }
set_option maxRecDepth 100000 in
set_option maxHeartbeats 4000000 in
theorem c_X7_passesMany {Λ : jL Nat} (hM : LM Λ) {x1 : Int32}  {l : Launch} {v : mM} {r : (Int32 × mM)} (hr_ : f_X7_passesMany x1 v = some r) : Ct l yX7_passesMany wsX7_passesMany rmX7_passesMany Λ [.ref (Λ.2.2.2.1 0), .int x1] v (some (.int r.1)) r.2 := by
  refine ct_of (cc := cX7_passesMany) (maxL := 4) (ret := (some .int)) (fun (q : Int32 × mM) => (some (Value.int q.1), q.2)) hM.1 hr_ (by decide) rfl (Nat.le_of_ble_eq_true rfl) (fun Γ hG hT hN hl => ?_)
  subst hl
  show Sm Γ Λ (0, 0) 0 [(0, .ref (Λ.2.2.2.1 0)), (1, .int x1)] [] v _
  unfold f_X7_passesMany
  refine sm_iconst (x := (0 : Int32)) hG 1 rfl dX7_passesMany_0 rfl ?_
  refine sm_istore_n hG 2 rfl dX7_passesMany_1 rfl (jlt hN rfl) [(2, .int (0 : Int32)), (0, .ref (Λ.2.2.2.1 0)), (1, .int x1)] rfl ?_
  refine sm_iconst (x := (0 : Int32)) hG 3 rfl dX7_passesMany_2 rfl ?_
  refine sm_istore_n hG 4 rfl dX7_passesMany_3 rfl (jlt hN rfl) [(3, .int (0 : Int32)), (2, .int (0 : Int32)), (0, .ref (Λ.2.2.2.1 0)), (1, .int x1)] rfl ?_
  refine sm_loc [2, 3, 1, 0] [(0, .ref (Λ.2.2.2.1 0)), (1, .int x1), (2, .int (0 : Int32)), (3, .int (0 : Int32))] rfl ?_
  refine lp_ind (fun (X4 : Int32 → Int32 → mM → Option (Int32 × mM)) => ∀ (x2_4 : Int32) (x3_4 : Int32) (v_4 : mM), Sm Γ Λ (0, 0) 4 [(0, .ref (Λ.2.2.2.1 0)), (1, .int x1), (2, .int x2_4), (3, .int x3_4)] [] v_4 (X4 x2_4 x3_4 v_4)) (fun _ _ _ => sm_none) (fun self4 hs4 x2_4 x3_4 v_4 => ?_) 8192 _ _ _
  refine sm_iload_n hG 5 rfl dX7_passesMany_4 rfl 3 rfl ?_
  refine sm_iload_n hG 6 rfl dX7_passesMany_5 rfl 1 rfl ?_
  refine sm_icmp_ge hG 22 9 rfl dX7_passesMany_6 (by decide) ?_ ?_
  · refine sm_iload_n hG 23 rfl dX7_passesMany_22 rfl 2 rfl ?_
    exact sm_iret hG hT ⟨Nat.zero_le _, Nat.zero_le _⟩ dX7_passesMany_23 rfl
  · refine sm_iload_n hG 10 rfl dX7_passesMany_9 rfl 2 rfl ?_
    refine sm_aload_n hG 11 rfl dX7_passesMany_10 rfl 0 rfl ?_
    refine sm_callV hG (fun (q : Int32 × mM) => (some (Value.int q.1), q.2)) 0 [] 14 rfl (okm hM (by decide)) (me_0 hM _) (ci := 7) rfl (fun r_ hr_ => c_X7_passes hM   hr_) gX7_passesMany_X7_passes rfl (by decide) (by decide) (n := 0) rfl (Nat.le_of_ble_eq_true rfl) (by decide) ⟨Nat.zero_le _, Nat.zero_le _⟩ rfl dX7_passesMany_11 (fun r_11 => ?_)
    refine sm_iadd hG 15 rfl dX7_passesMany_14 ?_
    refine sm_istore_n hG 16 rfl dX7_passesMany_15 rfl (jlt hN rfl) [(2, .int (x2_4 + r_11.1)), (0, .ref (Λ.2.2.2.1 0)), (1, .int x1), (3, .int x3_4)] rfl ?_
    refine sm_iinc hG 19 rfl dX7_passesMany_16 (j := 3) rfl rfl (jlt hN rfl) [(3, .int (x3_4 + (1 : Int32))), (2, .int (x2_4 + r_11.1)), (0, .ref (Λ.2.2.2.1 0)), (1, .int x1)] rfl ?_
    refine sm_goto hG 4 dX7_passesMany_19 (by decide) ?_
    refine sm_loc [2, 3, 1, 0] [(0, .ref (Λ.2.2.2.1 0)), (1, .int x1), (2, .int (x2_4 + r_11.1)), (3, .int (x3_4 + (1 : Int32)))] rfl ?_
    exact hs4 _ _ _
abbrev rmX7_register : Room := { frames := 3, cells := 0, slots := 0, locals := 76 }
set_option maxRecDepth 100000 in
set_option maxHeartbeats 4000000 in
theorem c_X7_register {Λ : jL Nat} (hM : LM Λ) {x1 : Int32} {x2 : Int32} {x3 : Int32} {x4 : Int32} {x5 : Int32}  {l : Launch} {v : mM} {r : (Int32 × mM)} (hr_ : f_X7_register x1 x2 x3 x4 x5 v = some r) : Ct l yX7_register wsX7_register rmX7_register Λ [.ref (Λ.2.2.2.1 0), .int x1, .int x2, .int x3, .int x4, .int x5] v (some (.int r.1)) r.2 := by
  refine ct_of (cc := cX7_register) (maxL := 6) (ret := (some .int)) (fun (q : Int32 × mM) => (some (Value.int q.1), q.2)) hM.1 hr_ (by decide) rfl (Nat.le_of_ble_eq_true rfl) (fun Γ hG hT hN hl => ?_)
  subst hl
  have f40 : Cond.fieldLink RX7 40 "ChoirRegisterModel" "thrown" "I" ∈ wsX7_register := by decide +kernel
  have f7 : Cond.fieldLink RX7 7 "ChoirRegisterModel" "now" "[I" ∈ wsX7_register := by decide +kernel
  have u7 : ∀ w ∈ wsX70, w ∈ wsX7_register := by decide +kernel
  show Sm Γ Λ (0, 0) 0 [(0, .ref (Λ.2.2.2.1 0)), (1, .int x1), (2, .int x2), (3, .int x3), (4, .int x4), (5, .int x5)] [] v _
  unfold f_X7_register
  refine sm_jn (fun (X24 : mM → Option (Int32 × mM)) => ∀ (v_24 : mM), Sm Γ Λ (0, 0) 24 [(0, .ref (Λ.2.2.2.1 0))] [] v_24 (X24 v_24)) (fun v_24 => ?_) (fun j24 hj24 => ?_)
  · refine sm_aload_n hG 25 rfl dX7_register_24 rfl 0 rfl ?_
    refine sm_iconst (x := (1 : Int32)) hG 26 rfl dX7_register_25 rfl ?_
    refine sm_callV hG (fun (q : Int32 × mM) => (some (Value.int q.1), q.2)) 0 [.int (1 : Int32)] 29 rfl (okm hM (by decide)) (me_0 hM _) (ci := 7) rfl (fun r_ hr_ => c_X7_refuses hM   hr_) gX7_register_X7_refuses rfl (by decide) (by decide) (n := 1) rfl (Nat.le_of_ble_eq_true rfl) (by decide) ⟨Nat.zero_le _, Nat.zero_le _⟩ rfl dX7_register_26 (fun r_26 => ?_)
    exact sm_iret hG hT ⟨Nat.zero_le _, Nat.zero_le _⟩ dX7_register_29 rfl
  · refine sm_aload_n hG 1 rfl dX7_register_0 rfl 0 rfl ?_
    refine sm_iconst (x := (0 : Int32)) hG 2 rfl dX7_register_1 rfl ?_
    refine pM0_12 hG hM  5 rfl u7 f40 dX7_register_2 ?_
    refine sm_nmv (fun w2_1 => ?_)
    refine sm_iload_n hG 6 rfl dX7_register_5 rfl 1 rfl ?_
    refine sm_iload_n hG 7 rfl dX7_register_6 rfl 2 rfl ?_
    refine sm_iload hG 9 rfl dX7_register_7 5 rfl ?_
    refine sm_callS hG (fun (q : Int32) => (some (Value.int q), w2_1)) [.int x1, .int x2, .int x5] 12 rfl (fun r_ hr_ => c_X7_isOwn hM   hr_) gX7_register_X7_isOwn rfl (by decide) (by decide) (n := 3) rfl (Nat.le_of_ble_eq_true rfl) (by decide) ⟨Nat.zero_le _, Nat.zero_le _⟩ rfl dX7_register_9 (fun r_9 => ?_)
    refine sm_if_eq hG 24 15 rfl dX7_register_12 (by decide) ?_ ?_
    · refine sm_loc [0] [(0, .ref (Λ.2.2.2.1 0))] rfl ?_
      exact hj24 _
    · refine sm_iload_n hG 16 rfl dX7_register_15 rfl 3 rfl ?_
      refine sm_iload hG 18 rfl dX7_register_16 4 rfl ?_
      refine sm_callS hG (fun (q : Int32) => (some (Value.int q), w2_1)) [.int x3, .int x4] 21 rfl (fun r_ hr_ => c_X7_areNotes hM   hr_) gX7_register_X7_areNotes rfl (by decide) (by decide) (n := 2) rfl (Nat.le_of_ble_eq_true rfl) (by decide) ⟨Nat.zero_le _, Nat.zero_le _⟩ rfl dX7_register_18 (fun r_18 => ?_)
      refine sm_if_ne hG 30 24 rfl dX7_register_21 (by decide) ?_ ?_
      · refine sm_aload_n hG 31 rfl dX7_register_30 rfl 0 rfl ?_
        refine gM0_0 hG hM  34 rfl u7 f7 dX7_register_31 ?_
        refine sm_iconst (x := (1 : Int32)) hG 35 rfl dX7_register_34 rfl ?_
        refine lA hG (ia_1 hM) 36 rfl dX7_register_35 ?_
        refine sm_bipush (x := (30 : Int32)) hG 38 rfl dX7_register_36 rfl ?_
        refine sm_icmp_ne hG 47 41 rfl dX7_register_38 (by decide) ?_ ?_
        · refine sm_aload_n hG 48 rfl dX7_register_47 rfl 0 rfl ?_
          refine sm_aload_n hG 49 rfl dX7_register_48 rfl 0 rfl ?_
          refine gM0_0 hG hM  52 rfl u7 f7 dX7_register_49 ?_
          refine sm_callV hG (fun (w : mM) => ((none : Option Value), w)) 0 [.ref (Λ.2.2.2.1 1)] 55 rfl (okm hM (by decide)) (me_0 hM _) (ci := 7) rfl (fun r_ hr_ => c_X7_saves hM (ia_1 hM)  hr_) gX7_register_X7_saves rfl (by decide) (by decide) (n := 1) rfl (Nat.le_of_ble_eq_true rfl) (by decide) ⟨Nat.zero_le _, Nat.zero_le _⟩ rfl dX7_register_52 (fun r_52 => ?_)
          refine sm_aload_n hG 56 rfl dX7_register_55 rfl 0 rfl ?_
          refine sm_iload_n hG 57 rfl dX7_register_56 rfl 1 rfl ?_
          refine sm_iload_n hG 58 rfl dX7_register_57 rfl 2 rfl ?_
          refine sm_iload_n hG 59 rfl dX7_register_58 rfl 3 rfl ?_
          refine sm_iload hG 61 rfl dX7_register_59 4 rfl ?_
          refine sm_iload hG 63 rfl dX7_register_61 5 rfl ?_
          refine sm_callV hG (fun (q : Int32 × mM) => (some (Value.int q.1), q.2)) 0 [.int x1, .int x2, .int x3, .int x4, .int x5] 66 rfl (okm hM (by decide)) (me_0 hM _) (ci := 7) rfl (fun r_ hr_ => c_X7_registers hM   hr_) gX7_register_X7_registers rfl (by decide) (by decide) (n := 5) rfl (Nat.le_of_ble_eq_true rfl) (by decide) ⟨Nat.zero_le _, Nat.zero_le _⟩ rfl dX7_register_63 (fun r_63 => ?_)
          exact sm_iret hG hT ⟨Nat.zero_le _, Nat.zero_le _⟩ dX7_register_66 rfl
        · refine sm_aload_n hG 42 rfl dX7_register_41 rfl 0 rfl ?_
          refine sm_iconst (x := (2 : Int32)) hG 43 rfl dX7_register_42 rfl ?_
          refine sm_callV hG (fun (q : Int32 × mM) => (some (Value.int q.1), q.2)) 0 [.int (2 : Int32)] 46 rfl (okm hM (by decide)) (me_0 hM _) (ci := 7) rfl (fun r_ hr_ => c_X7_refuses hM   hr_) gX7_register_X7_refuses rfl (by decide) (by decide) (n := 1) rfl (Nat.le_of_ble_eq_true rfl) (by decide) ⟨Nat.zero_le _, Nat.zero_le _⟩ rfl dX7_register_43 (fun r_43 => ?_)
          exact sm_iret hG hT ⟨Nat.zero_le _, Nat.zero_le _⟩ dX7_register_46 rfl
      · refine sm_loc [0] [(0, .ref (Λ.2.2.2.1 0))] rfl ?_
        exact hj24 _
abbrev rmX7_leave : Room := { frames := 3, cells := 0, slots := 0, locals := 65 }
set_option maxRecDepth 100000 in
set_option maxHeartbeats 4000000 in
theorem c_X7_leave {Λ : jL Nat} (hM : LM Λ) {x1 : Int32}  {l : Launch} {v : mM} {r : (Int32 × mM)} (hr_ : f_X7_leave x1 v = some r) : Ct l yX7_leave wsX7_leave rmX7_leave Λ [.ref (Λ.2.2.2.1 0), .int x1] v (some (.int r.1)) r.2 := by
  refine ct_of (cc := cX7_leave) (maxL := 2) (ret := (some .int)) (fun (q : Int32 × mM) => (some (Value.int q.1), q.2)) hM.1 hr_ (by decide) rfl (Nat.le_of_ble_eq_true rfl) (fun Γ hG hT hN hl => ?_)
  subst hl
  have f40 : Cond.fieldLink RX7 40 "ChoirRegisterModel" "thrown" "I" ∈ wsX7_leave := by decide +kernel
  have f7 : Cond.fieldLink RX7 7 "ChoirRegisterModel" "now" "[I" ∈ wsX7_leave := by decide +kernel
  have u7 : ∀ w ∈ wsX70, w ∈ wsX7_leave := by decide +kernel
  show Sm Γ Λ (0, 0) 0 [(0, .ref (Λ.2.2.2.1 0)), (1, .int x1)] [] v _
  unfold f_X7_leave
  refine sm_aload_n hG 1 rfl dX7_leave_0 rfl 0 rfl ?_
  refine sm_iconst (x := (0 : Int32)) hG 2 rfl dX7_leave_1 rfl ?_
  refine pM0_12 hG hM  5 rfl u7 f40 dX7_leave_2 ?_
  refine sm_nmv (fun w2_1 => ?_)
  refine sm_aload_n hG 6 rfl dX7_leave_5 rfl 0 rfl ?_
  refine sm_iload_n hG 7 rfl dX7_leave_6 rfl 1 rfl ?_
  refine sm_callV hG (fun (q : Int32) => (some (Value.int q), w2_1)) 0 [.int x1] 10 rfl (okm hM (by decide)) (me_0 hM _) (ci := 7) rfl (fun r_ hr_ => c_X7_isSinger hM   hr_) gX7_leave_X7_isSinger rfl (by decide) (by decide) (n := 1) rfl (Nat.le_of_ble_eq_true rfl) (by decide) ⟨Nat.zero_le _, Nat.zero_le _⟩ rfl dX7_leave_7 (fun r_7 => ?_)
  refine sm_if_ne hG 19 13 rfl dX7_leave_10 (by decide) ?_ ?_
  · refine sm_aload_n hG 20 rfl dX7_leave_19 rfl 0 rfl ?_
    refine sm_iload_n hG 21 rfl dX7_leave_20 rfl 1 rfl ?_
    refine sm_bipush (x := (7 : Int32)) hG 23 rfl dX7_leave_21 rfl ?_
    refine sm_callV hG (fun (q : Int32) => (some (Value.int q), w2_1)) 0 [.int x1, .int (7 : Int32)] 26 rfl (okm hM (by decide)) (me_0 hM _) (ci := 7) rfl (fun r_ hr_ => c_X7_its hM   hr_) gX7_leave_X7_its rfl (by decide) (by decide) (n := 2) rfl (Nat.le_of_ble_eq_true rfl) (by decide) ⟨Nat.zero_le _, Nat.zero_le _⟩ rfl dX7_leave_23 (fun r_23 => ?_)
    refine sm_iconst (x := (1 : Int32)) hG 27 rfl dX7_leave_26 rfl ?_
    refine sm_icmp_ne hG 36 30 rfl dX7_leave_27 (by decide) ?_ ?_
    · refine sm_aload_n hG 37 rfl dX7_leave_36 rfl 0 rfl ?_
      refine sm_aload_n hG 38 rfl dX7_leave_37 rfl 0 rfl ?_
      refine gM0_0 hG hM  41 rfl u7 f7 dX7_leave_38 ?_
      refine sm_callV hG (fun (w : mM) => ((none : Option Value), w)) 0 [.ref (Λ.2.2.2.1 1)] 44 rfl (okm hM (by decide)) (me_0 hM _) (ci := 7) rfl (fun r_ hr_ => c_X7_saves hM (ia_1 hM)  hr_) gX7_leave_X7_saves rfl (by decide) (by decide) (n := 1) rfl (Nat.le_of_ble_eq_true rfl) (by decide) ⟨Nat.zero_le _, Nat.zero_le _⟩ rfl dX7_leave_41 (fun r_41 => ?_)
      refine sm_aload_n hG 45 rfl dX7_leave_44 rfl 0 rfl ?_
      refine sm_iload_n hG 46 rfl dX7_leave_45 rfl 1 rfl ?_
      refine sm_callV hG (fun (q : Int32 × mM) => (some (Value.int q.1), q.2)) 0 [.int x1] 49 rfl (okm hM (by decide)) (me_0 hM _) (ci := 7) rfl (fun r_ hr_ => c_X7_leaves hM   hr_) gX7_leave_X7_leaves rfl (by decide) (by decide) (n := 1) rfl (Nat.le_of_ble_eq_true rfl) (by decide) ⟨Nat.zero_le _, Nat.zero_le _⟩ rfl dX7_leave_46 (fun r_46 => ?_)
      exact sm_iret hG hT ⟨Nat.zero_le _, Nat.zero_le _⟩ dX7_leave_49 rfl
    · refine sm_aload_n hG 31 rfl dX7_leave_30 rfl 0 rfl ?_
      refine sm_iconst (x := (2 : Int32)) hG 32 rfl dX7_leave_31 rfl ?_
      refine sm_callV hG (fun (q : Int32 × mM) => (some (Value.int q.1), q.2)) 0 [.int (2 : Int32)] 35 rfl (okm hM (by decide)) (me_0 hM _) (ci := 7) rfl (fun r_ hr_ => c_X7_refuses hM   hr_) gX7_leave_X7_refuses rfl (by decide) (by decide) (n := 1) rfl (Nat.le_of_ble_eq_true rfl) (by decide) ⟨Nat.zero_le _, Nat.zero_le _⟩ rfl dX7_leave_32 (fun r_32 => ?_)
      exact sm_iret hG hT ⟨Nat.zero_le _, Nat.zero_le _⟩ dX7_leave_35 rfl
  · refine sm_aload_n hG 14 rfl dX7_leave_13 rfl 0 rfl ?_
    refine sm_iconst (x := (1 : Int32)) hG 15 rfl dX7_leave_14 rfl ?_
    refine sm_callV hG (fun (q : Int32 × mM) => (some (Value.int q.1), q.2)) 0 [.int (1 : Int32)] 18 rfl (okm hM (by decide)) (me_0 hM _) (ci := 7) rfl (fun r_ hr_ => c_X7_refuses hM   hr_) gX7_leave_X7_refuses rfl (by decide) (by decide) (n := 1) rfl (Nat.le_of_ble_eq_true rfl) (by decide) ⟨Nat.zero_le _, Nat.zero_le _⟩ rfl dX7_leave_15 (fun r_15 => ?_)
    exact sm_iret hG hT ⟨Nat.zero_le _, Nat.zero_le _⟩ dX7_leave_18 rfl
abbrev rmX7_borrow : Room := { frames := 2, cells := 0, slots := 0, locals := 50 }
set_option maxRecDepth 100000 in
set_option maxHeartbeats 4000000 in
theorem c_X7_borrow {Λ : jL Nat} (hM : LM Λ) {x1 : Int32} {x2 : Int32} {x3 : Int32} {x4 : Int32} {x5 : Int32} {x6 : Int32}  {l : Launch} {v : mM} {r : (Int32 × mM)} (hr_ : f_X7_borrow x1 x2 x3 x4 x5 x6 v = some r) : Ct l yX7_borrow wsX7_borrow rmX7_borrow Λ [.ref (Λ.2.2.2.1 0), .int x1, .int x2, .int x3, .int x4, .int x5, .int x6] v (some (.int r.1)) r.2 := by
  refine ct_of (cc := cX7_borrow) (maxL := 8) (ret := (some .int)) (fun (q : Int32 × mM) => (some (Value.int q.1), q.2)) hM.1 hr_ (by decide) rfl (Nat.le_of_ble_eq_true rfl) (fun Γ hG hT hN hl => ?_)
  subst hl
  have f40 : Cond.fieldLink RX7 40 "ChoirRegisterModel" "thrown" "I" ∈ wsX7_borrow := by decide +kernel
  have f7 : Cond.fieldLink RX7 7 "ChoirRegisterModel" "now" "[I" ∈ wsX7_borrow := by decide +kernel
  have u7 : ∀ w ∈ wsX70, w ∈ wsX7_borrow := by decide +kernel
  show Sm Γ Λ (0, 0) 0 [(0, .ref (Λ.2.2.2.1 0)), (1, .int x1), (2, .int x2), (3, .int x3), (4, .int x4), (5, .int x5), (6, .int x6)] [] v _
  unfold f_X7_borrow
  refine sm_aload_n hG 1 rfl dX7_borrow_0 rfl 0 rfl ?_
  refine sm_iconst (x := (0 : Int32)) hG 2 rfl dX7_borrow_1 rfl ?_
  refine pM0_12 hG hM  5 rfl u7 f40 dX7_borrow_2 ?_
  refine sm_nmv (fun w2_1 => ?_)
  refine sm_iload_n hG 6 rfl dX7_borrow_5 rfl 1 rfl ?_
  refine sm_callS hG (fun (q : Int32) => (some (Value.int q), w2_1)) [.int x1] 9 rfl (fun r_ hr_ => c_X7_isChoir hM   hr_) gX7_borrow_X7_isChoir rfl (by decide) (by decide) (n := 1) rfl (Nat.le_of_ble_eq_true rfl) (by decide) ⟨Nat.zero_le _, Nat.zero_le _⟩ rfl dX7_borrow_6 (fun r_6 => ?_)
  refine sm_if_ne hG 18 12 rfl dX7_borrow_9 (by decide) ?_ ?_
  · refine sm_jn (fun (X56 : mM → Option (Int32 × mM)) => ∀ (v_56 : mM), Sm Γ Λ (0, 0) 56 [(0, .ref (Λ.2.2.2.1 0))] [] v_56 (X56 v_56)) (fun v_56 => ?_) (fun j56 hj56 => ?_)
    · refine sm_aload_n hG 57 rfl dX7_borrow_56 rfl 0 rfl ?_
      refine sm_iconst (x := (2 : Int32)) hG 58 rfl dX7_borrow_57 rfl ?_
      refine sm_callV hG (fun (q : Int32 × mM) => (some (Value.int q.1), q.2)) 0 [.int (2 : Int32)] 61 rfl (okm hM (by decide)) (me_0 hM _) (ci := 7) rfl (fun r_ hr_ => c_X7_refuses hM   hr_) gX7_borrow_X7_refuses rfl (by decide) (by decide) (n := 1) rfl (Nat.le_of_ble_eq_true rfl) (by decide) ⟨Nat.zero_le _, Nat.zero_le _⟩ rfl dX7_borrow_58 (fun r_58 => ?_)
      exact sm_iret hG hT ⟨Nat.zero_le _, Nat.zero_le _⟩ dX7_borrow_61 rfl
    · refine sm_iload_n hG 19 rfl dX7_borrow_18 rfl 2 rfl ?_
      refine sm_iconst (x := (0 : Int32)) hG 20 rfl dX7_borrow_19 rfl ?_
      refine sm_bipush (x := (9 : Int32)) hG 22 rfl dX7_borrow_20 rfl ?_
      refine sm_callS hG (fun (q : Int32) => (some (Value.int q), w2_1)) [.int x2, .int (0 : Int32), .int (9 : Int32)] 25 rfl (fun r_ hr_ => c_X7_in hM   hr_) gX7_borrow_X7_in rfl (by decide) (by decide) (n := 3) rfl (Nat.le_of_ble_eq_true rfl) (by decide) ⟨Nat.zero_le _, Nat.zero_le _⟩ rfl dX7_borrow_22 (fun r_22 => ?_)
      refine sm_if_eq hG 56 28 rfl dX7_borrow_25 (by decide) ?_ ?_
      · refine sm_loc [0] [(0, .ref (Λ.2.2.2.1 0))] rfl ?_
        exact hj56 _
      · refine sm_iload_n hG 29 rfl dX7_borrow_28 rfl 3 rfl ?_
        refine sm_callS hG (fun (q : Int32) => (some (Value.int q), w2_1)) [.int x3] 32 rfl (fun r_ hr_ => c_X7_isHigh hM   hr_) gX7_borrow_X7_isHigh rfl (by decide) (by decide) (n := 1) rfl (Nat.le_of_ble_eq_true rfl) (by decide) ⟨Nat.zero_le _, Nat.zero_le _⟩ rfl dX7_borrow_29 (fun r_29 => ?_)
        refine sm_if_eq hG 56 35 rfl dX7_borrow_32 (by decide) ?_ ?_
        · refine sm_loc [0] [(0, .ref (Λ.2.2.2.1 0))] rfl ?_
          exact hj56 _
        · refine sm_iload hG 37 rfl dX7_borrow_35 4 rfl ?_
          refine sm_iload hG 39 rfl dX7_borrow_37 5 rfl ?_
          refine sm_callS hG (fun (q : Int32) => (some (Value.int q), w2_1)) [.int x4, .int x5] 42 rfl (fun r_ hr_ => c_X7_areNotes hM   hr_) gX7_borrow_X7_areNotes rfl (by decide) (by decide) (n := 2) rfl (Nat.le_of_ble_eq_true rfl) (by decide) ⟨Nat.zero_le _, Nat.zero_le _⟩ rfl dX7_borrow_39 (fun r_39 => ?_)
          refine sm_if_eq hG 56 45 rfl dX7_borrow_42 (by decide) ?_ ?_
          · refine sm_loc [0] [(0, .ref (Λ.2.2.2.1 0))] rfl ?_
            exact hj56 _
          · refine sm_iload hG 47 rfl dX7_borrow_45 6 rfl ?_
            refine sm_iconst (x := (1 : Int32)) hG 48 rfl dX7_borrow_47 rfl ?_
            refine sm_bipush (x := (90 : Int32)) hG 50 rfl dX7_borrow_48 rfl ?_
            refine sm_callS hG (fun (q : Int32) => (some (Value.int q), w2_1)) [.int x6, .int (1 : Int32), .int (90 : Int32)] 53 rfl (fun r_ hr_ => c_X7_in hM   hr_) gX7_borrow_X7_in rfl (by decide) (by decide) (n := 3) rfl (Nat.le_of_ble_eq_true rfl) (by decide) ⟨Nat.zero_le _, Nat.zero_le _⟩ rfl dX7_borrow_50 (fun r_50 => ?_)
            refine sm_if_ne hG 62 56 rfl dX7_borrow_53 (by decide) ?_ ?_
            · refine sm_jn (fun (X87 : mM → Option (Int32 × mM)) => ∀ (v_87 : mM), Sm Γ Λ (0, 0) 87 [(0, .ref (Λ.2.2.2.1 0))] [] v_87 (X87 v_87)) (fun v_87 => ?_) (fun j87 hj87 => ?_)
              · refine sm_aload_n hG 88 rfl dX7_borrow_87 rfl 0 rfl ?_
                refine sm_iconst (x := (3 : Int32)) hG 89 rfl dX7_borrow_88 rfl ?_
                refine sm_callV hG (fun (q : Int32 × mM) => (some (Value.int q.1), q.2)) 0 [.int (3 : Int32)] 92 rfl (okm hM (by decide)) (me_0 hM _) (ci := 7) rfl (fun r_ hr_ => c_X7_refuses hM   hr_) gX7_borrow_X7_refuses rfl (by decide) (by decide) (n := 1) rfl (Nat.le_of_ble_eq_true rfl) (by decide) ⟨Nat.zero_le _, Nat.zero_le _⟩ rfl dX7_borrow_89 (fun r_89 => ?_)
                exact sm_iret hG hT ⟨Nat.zero_le _, Nat.zero_le _⟩ dX7_borrow_92 rfl
              · refine sm_aload_n hG 63 rfl dX7_borrow_62 rfl 0 rfl ?_
                refine gM0_0 hG hM  66 rfl u7 f7 dX7_borrow_63 ?_
                refine sm_iconst (x := (1 : Int32)) hG 67 rfl dX7_borrow_66 rfl ?_
                refine lA hG (ia_1 hM) 68 rfl dX7_borrow_67 ?_
                refine sm_bipush (x := (30 : Int32)) hG 70 rfl dX7_borrow_68 rfl ?_
                refine sm_icmp_eq hG 87 73 rfl dX7_borrow_70 (by decide) ?_ ?_
                · refine sm_loc [0] [(0, .ref (Λ.2.2.2.1 0))] rfl ?_
                  exact hj87 _
                · refine sm_aload_n hG 74 rfl dX7_borrow_73 rfl 0 rfl ?_
                  refine gM0_0 hG hM  77 rfl u7 f7 dX7_borrow_74 ?_
                  refine sm_bipush (x := (8 : Int32)) hG 79 rfl dX7_borrow_77 rfl ?_
                  refine sm_iload_n hG 80 rfl dX7_borrow_79 rfl 1 rfl ?_
                  refine sm_iadd hG 81 rfl dX7_borrow_80 ?_
                  refine lA hG (ia_1 hM) 82 rfl dX7_borrow_81 ?_
                  refine sm_bipush (x := (-2 : Int32)) hG 84 rfl dX7_borrow_82 rfl ?_
                  refine sm_icmp_ge hG 93 87 rfl dX7_borrow_84 (by decide) ?_ ?_
                  · refine sm_aload_n hG 94 rfl dX7_borrow_93 rfl 0 rfl ?_
                    refine sm_aload_n hG 95 rfl dX7_borrow_94 rfl 0 rfl ?_
                    refine gM0_0 hG hM  98 rfl u7 f7 dX7_borrow_95 ?_
                    refine sm_callV hG (fun (w : mM) => ((none : Option Value), w)) 0 [.ref (Λ.2.2.2.1 1)] 101 rfl (okm hM (by decide)) (me_0 hM _) (ci := 7) rfl (fun r_ hr_ => c_X7_saves hM (ia_1 hM)  hr_) gX7_borrow_X7_saves rfl (by decide) (by decide) (n := 1) rfl (Nat.le_of_ble_eq_true rfl) (by decide) ⟨Nat.zero_le _, Nat.zero_le _⟩ rfl dX7_borrow_98 (fun r_98 => ?_)
                    refine sm_aload_n hG 102 rfl dX7_borrow_101 rfl 0 rfl ?_
                    refine sm_iload_n hG 103 rfl dX7_borrow_102 rfl 1 rfl ?_
                    refine sm_bipush (x := (30 : Int32)) hG 105 rfl dX7_borrow_103 rfl ?_
                    refine sm_iload_n hG 106 rfl dX7_borrow_105 rfl 3 rfl ?_
                    refine sm_iload hG 108 rfl dX7_borrow_106 4 rfl ?_
                    refine sm_iload hG 110 rfl dX7_borrow_108 5 rfl ?_
                    refine sm_callV hG (fun (q : Int32 × mM) => (some (Value.int q.1), q.2)) 0 [.int x1, .int (30 : Int32), .int x3, .int x4, .int x5] 113 rfl (okm hM (by decide)) (me_0 hM _) (ci := 7) rfl (fun r_ hr_ => c_X7_enters hM   hr_) gX7_borrow_X7_enters rfl (by decide) (by decide) (n := 5) rfl (Nat.le_of_ble_eq_true rfl) (by decide) ⟨Nat.zero_le _, Nat.zero_le _⟩ rfl dX7_borrow_110 (fun r_110 => ?_)
                    refine sm_istore hG 115 rfl dX7_borrow_113 (jlt hN rfl) [(7, .int r_110.1), (0, .ref (Λ.2.2.2.1 0)), (1, .int x1), (2, .int x2), (3, .int x3), (4, .int x4), (5, .int x5), (6, .int x6)] rfl ?_
                    refine sm_aload_n hG 116 rfl dX7_borrow_115 rfl 1 rfl ?_
                    refine sm_iload hG 118 rfl dX7_borrow_116 0 rfl ?_
                    refine sm_bipush (x := (9 : Int32)) hG 120 rfl dX7_borrow_118 rfl ?_
                    refine sm_iload_n hG 121 rfl dX7_borrow_120 rfl 3 rfl ?_
                    refine sm_callV hG (fun (w : mM) => ((none : Option Value), w)) 0 [.int r_110.1, .int (9 : Int32), .int x2] 124 rfl (okm hM (by decide)) (me_0 hM _) (ci := 7) rfl (fun r_ hr_ => c_X7_lay hM   hr_) gX7_borrow_X7_lay rfl (by decide) (by decide) (n := 3) rfl (Nat.le_of_ble_eq_true rfl) (by decide) ⟨Nat.zero_le _, Nat.zero_le _⟩ rfl dX7_borrow_121 (fun r_121 => ?_)
                    refine sm_aload_n hG 125 rfl dX7_borrow_124 rfl 1 rfl ?_
                    refine sm_iload hG 127 rfl dX7_borrow_125 0 rfl ?_
                    refine sm_bipush (x := (8 : Int32)) hG 129 rfl dX7_borrow_127 rfl ?_
                    refine sm_aload_n hG 130 rfl dX7_borrow_129 rfl 1 rfl ?_
                    refine gM0_0 hG hM  133 rfl u7 f7 dX7_borrow_130 ?_
                    refine sm_iconst (x := (0 : Int32)) hG 134 rfl dX7_borrow_133 rfl ?_
                    refine lA hG (ia_1 hM) 135 rfl dX7_borrow_134 ?_
                    refine sm_iload hG 137 rfl dX7_borrow_135 7 rfl ?_
                    refine sm_iadd hG 138 rfl dX7_borrow_137 ?_
                    refine sm_callV hG (fun (w : mM) => ((none : Option Value), w)) 0 [.int r_110.1, .int (8 : Int32), .int ((r_121 1 (ix (0 : Int32))) + x6)] 141 rfl (okm hM (by decide)) (me_0 hM _) (ci := 7) rfl (fun r_ hr_ => c_X7_lay hM   hr_) gX7_borrow_X7_lay rfl (by decide) (by decide) (n := 3) rfl (Nat.le_of_ble_eq_true rfl) (by decide) ⟨Nat.zero_le _, Nat.zero_le _⟩ rfl dX7_borrow_138 (fun r_138 => ?_)
                    refine sm_aload_n hG 142 rfl dX7_borrow_141 rfl 1 rfl ?_
                    refine gM0_0 hG hM  145 rfl u7 f7 dX7_borrow_142 ?_
                    refine sm_bipush (x := (8 : Int32)) hG 147 rfl dX7_borrow_145 rfl ?_
                    refine sm_iload_n hG 148 rfl dX7_borrow_147 rfl 2 rfl ?_
                    refine sm_iadd hG 149 rfl dX7_borrow_148 ?_
                    refine sm_dup2 hG 150 rfl dX7_borrow_149 rfl rfl ?_
                    refine lA hG (ia_1 hM) 151 rfl dX7_borrow_150 ?_
                    refine sm_iconst (x := (1 : Int32)) hG 152 rfl dX7_borrow_151 rfl ?_
                    refine sm_isub hG 153 rfl dX7_borrow_152 ?_
                    refine sm_nmi (fun y152_2 => ?_)
                    refine sA hG (ia_1 hM) 154 rfl dX7_borrow_153 ?_
                    refine sm_nmv (fun w153_3 => ?_)
                    refine sm_iload hG 156 rfl dX7_borrow_154 0 rfl ?_
                    exact sm_iret hG hT ⟨Nat.zero_le _, Nat.zero_le _⟩ dX7_borrow_156 rfl
                  · refine sm_loc [0] [(0, .ref (Λ.2.2.2.1 0))] rfl ?_
                    exact hj87 _
            · refine sm_loc [0] [(0, .ref (Λ.2.2.2.1 0))] rfl ?_
              exact hj56 _
  · refine sm_aload_n hG 13 rfl dX7_borrow_12 rfl 0 rfl ?_
    refine sm_iconst (x := (1 : Int32)) hG 14 rfl dX7_borrow_13 rfl ?_
    refine sm_callV hG (fun (q : Int32 × mM) => (some (Value.int q.1), q.2)) 0 [.int (1 : Int32)] 17 rfl (okm hM (by decide)) (me_0 hM _) (ci := 7) rfl (fun r_ hr_ => c_X7_refuses hM   hr_) gX7_borrow_X7_refuses rfl (by decide) (by decide) (n := 1) rfl (Nat.le_of_ble_eq_true rfl) (by decide) ⟨Nat.zero_le _, Nat.zero_le _⟩ rfl dX7_borrow_14 (fun r_14 => ?_)
    exact sm_iret hG hT ⟨Nat.zero_le _, Nat.zero_le _⟩ dX7_borrow_17 rfl
abbrev rmX7_lend : Room := { frames := 2, cells := 0, slots := 0, locals := 46 }
set_option maxRecDepth 100000 in
set_option maxHeartbeats 4000000 in
theorem c_X7_lend {Λ : jL Nat} (hM : LM Λ) {x1 : Int32} {x2 : Int32} {x3 : Int32}  {l : Launch} {v : mM} {r : (Int32 × mM)} (hr_ : f_X7_lend x1 x2 x3 v = some r) : Ct l yX7_lend wsX7_lend rmX7_lend Λ [.ref (Λ.2.2.2.1 0), .int x1, .int x2, .int x3] v (some (.int r.1)) r.2 := by
  refine ct_of (cc := cX7_lend) (maxL := 4) (ret := (some .int)) (fun (q : Int32 × mM) => (some (Value.int q.1), q.2)) hM.1 hr_ (by decide) rfl (Nat.le_of_ble_eq_true rfl) (fun Γ hG hT hN hl => ?_)
  subst hl
  have f40 : Cond.fieldLink RX7 40 "ChoirRegisterModel" "thrown" "I" ∈ wsX7_lend := by decide +kernel
  have f7 : Cond.fieldLink RX7 7 "ChoirRegisterModel" "now" "[I" ∈ wsX7_lend := by decide +kernel
  have u7 : ∀ w ∈ wsX70, w ∈ wsX7_lend := by decide +kernel
  show Sm Γ Λ (0, 0) 0 [(0, .ref (Λ.2.2.2.1 0)), (1, .int x1), (2, .int x2), (3, .int x3)] [] v _
  unfold f_X7_lend
  refine sm_jn (fun (X20 : mM → Option (Int32 × mM)) => ∀ (v_20 : mM), Sm Γ Λ (0, 0) 20 [(0, .ref (Λ.2.2.2.1 0))] [] v_20 (X20 v_20)) (fun v_20 => ?_) (fun j20 hj20 => ?_)
  · refine sm_aload_n hG 21 rfl dX7_lend_20 rfl 0 rfl ?_
    refine sm_iconst (x := (1 : Int32)) hG 22 rfl dX7_lend_21 rfl ?_
    refine sm_callV hG (fun (q : Int32 × mM) => (some (Value.int q.1), q.2)) 0 [.int (1 : Int32)] 25 rfl (okm hM (by decide)) (me_0 hM _) (ci := 7) rfl (fun r_ hr_ => c_X7_refuses hM   hr_) gX7_lend_X7_refuses rfl (by decide) (by decide) (n := 1) rfl (Nat.le_of_ble_eq_true rfl) (by decide) ⟨Nat.zero_le _, Nat.zero_le _⟩ rfl dX7_lend_22 (fun r_22 => ?_)
    exact sm_iret hG hT ⟨Nat.zero_le _, Nat.zero_le _⟩ dX7_lend_25 rfl
  · refine sm_aload_n hG 1 rfl dX7_lend_0 rfl 0 rfl ?_
    refine sm_iconst (x := (0 : Int32)) hG 2 rfl dX7_lend_1 rfl ?_
    refine pM0_12 hG hM  5 rfl u7 f40 dX7_lend_2 ?_
    refine sm_nmv (fun w2_1 => ?_)
    refine sm_aload_n hG 6 rfl dX7_lend_5 rfl 0 rfl ?_
    refine sm_iload_n hG 7 rfl dX7_lend_6 rfl 1 rfl ?_
    refine sm_callV hG (fun (q : Int32) => (some (Value.int q), w2_1)) 0 [.int x1] 10 rfl (okm hM (by decide)) (me_0 hM _) (ci := 7) rfl (fun r_ hr_ => c_X7_isSinger hM   hr_) gX7_lend_X7_isSinger rfl (by decide) (by decide) (n := 1) rfl (Nat.le_of_ble_eq_true rfl) (by decide) ⟨Nat.zero_le _, Nat.zero_le _⟩ rfl dX7_lend_7 (fun r_7 => ?_)
    refine sm_if_eq hG 20 13 rfl dX7_lend_10 (by decide) ?_ ?_
    · refine sm_loc [0] [(0, .ref (Λ.2.2.2.1 0))] rfl ?_
      exact hj20 _
    · refine sm_iload_n hG 14 rfl dX7_lend_13 rfl 2 rfl ?_
      refine sm_callS hG (fun (q : Int32) => (some (Value.int q), w2_1)) [.int x2] 17 rfl (fun r_ hr_ => c_X7_isChoir hM   hr_) gX7_lend_X7_isChoir rfl (by decide) (by decide) (n := 1) rfl (Nat.le_of_ble_eq_true rfl) (by decide) ⟨Nat.zero_le _, Nat.zero_le _⟩ rfl dX7_lend_14 (fun r_14 => ?_)
      refine sm_if_ne hG 26 20 rfl dX7_lend_17 (by decide) ?_ ?_
      · refine sm_iload_n hG 27 rfl dX7_lend_26 rfl 3 rfl ?_
        refine sm_iconst (x := (1 : Int32)) hG 28 rfl dX7_lend_27 rfl ?_
        refine sm_bipush (x := (90 : Int32)) hG 30 rfl dX7_lend_28 rfl ?_
        refine sm_callS hG (fun (q : Int32) => (some (Value.int q), w2_1)) [.int x3, .int (1 : Int32), .int (90 : Int32)] 33 rfl (fun r_ hr_ => c_X7_in hM   hr_) gX7_lend_X7_in rfl (by decide) (by decide) (n := 3) rfl (Nat.le_of_ble_eq_true rfl) (by decide) ⟨Nat.zero_le _, Nat.zero_le _⟩ rfl dX7_lend_30 (fun r_30 => ?_)
        refine sm_if_ne hG 42 36 rfl dX7_lend_33 (by decide) ?_ ?_
        · refine sm_aload_n hG 43 rfl dX7_lend_42 rfl 0 rfl ?_
          refine sm_iload_n hG 44 rfl dX7_lend_43 rfl 1 rfl ?_
          refine sm_callV hG (fun (q : Int32) => (some (Value.int q), w2_1)) 0 [.int x1] 47 rfl (okm hM (by decide)) (me_0 hM _) (ci := 7) rfl (fun r_ hr_ => c_X7_canLend hM   hr_) gX7_lend_X7_canLend rfl (by decide) (by decide) (n := 1) rfl (Nat.le_of_ble_eq_true rfl) (by decide) ⟨Nat.zero_le _, Nat.zero_le _⟩ rfl dX7_lend_44 (fun r_44 => ?_)
          refine sm_if_ne hG 56 50 rfl dX7_lend_47 (by decide) ?_ ?_
          · refine sm_aload_n hG 57 rfl dX7_lend_56 rfl 0 rfl ?_
            refine sm_aload_n hG 58 rfl dX7_lend_57 rfl 0 rfl ?_
            refine gM0_0 hG hM  61 rfl u7 f7 dX7_lend_58 ?_
            refine sm_callV hG (fun (w : mM) => ((none : Option Value), w)) 0 [.ref (Λ.2.2.2.1 1)] 64 rfl (okm hM (by decide)) (me_0 hM _) (ci := 7) rfl (fun r_ hr_ => c_X7_saves hM (ia_1 hM)  hr_) gX7_lend_X7_saves rfl (by decide) (by decide) (n := 1) rfl (Nat.le_of_ble_eq_true rfl) (by decide) ⟨Nat.zero_le _, Nat.zero_le _⟩ rfl dX7_lend_61 (fun r_61 => ?_)
            refine sm_aload_n hG 65 rfl dX7_lend_64 rfl 0 rfl ?_
            refine sm_iload_n hG 66 rfl dX7_lend_65 rfl 1 rfl ?_
            refine sm_iload_n hG 67 rfl dX7_lend_66 rfl 2 rfl ?_
            refine sm_iload_n hG 68 rfl dX7_lend_67 rfl 3 rfl ?_
            refine sm_callV hG (fun (q : Int32 × mM) => (some (Value.int q.1), q.2)) 0 [.int x1, .int x2, .int x3] 71 rfl (okm hM (by decide)) (me_0 hM _) (ci := 7) rfl (fun r_ hr_ => c_X7_lends hM   hr_) gX7_lend_X7_lends rfl (by decide) (by decide) (n := 3) rfl (Nat.le_of_ble_eq_true rfl) (by decide) ⟨Nat.zero_le _, Nat.zero_le _⟩ rfl dX7_lend_68 (fun r_68 => ?_)
            exact sm_iret hG hT ⟨Nat.zero_le _, Nat.zero_le _⟩ dX7_lend_71 rfl
          · refine sm_aload_n hG 51 rfl dX7_lend_50 rfl 0 rfl ?_
            refine sm_iconst (x := (3 : Int32)) hG 52 rfl dX7_lend_51 rfl ?_
            refine sm_callV hG (fun (q : Int32 × mM) => (some (Value.int q.1), q.2)) 0 [.int (3 : Int32)] 55 rfl (okm hM (by decide)) (me_0 hM _) (ci := 7) rfl (fun r_ hr_ => c_X7_refuses hM   hr_) gX7_lend_X7_refuses rfl (by decide) (by decide) (n := 1) rfl (Nat.le_of_ble_eq_true rfl) (by decide) ⟨Nat.zero_le _, Nat.zero_le _⟩ rfl dX7_lend_52 (fun r_52 => ?_)
            exact sm_iret hG hT ⟨Nat.zero_le _, Nat.zero_le _⟩ dX7_lend_55 rfl
        · refine sm_aload_n hG 37 rfl dX7_lend_36 rfl 0 rfl ?_
          refine sm_iconst (x := (2 : Int32)) hG 38 rfl dX7_lend_37 rfl ?_
          refine sm_callV hG (fun (q : Int32 × mM) => (some (Value.int q.1), q.2)) 0 [.int (2 : Int32)] 41 rfl (okm hM (by decide)) (me_0 hM _) (ci := 7) rfl (fun r_ hr_ => c_X7_refuses hM   hr_) gX7_lend_X7_refuses rfl (by decide) (by decide) (n := 1) rfl (Nat.le_of_ble_eq_true rfl) (by decide) ⟨Nat.zero_le _, Nat.zero_le _⟩ rfl dX7_lend_38 (fun r_38 => ?_)
          exact sm_iret hG hT ⟨Nat.zero_le _, Nat.zero_le _⟩ dX7_lend_41 rfl
      · refine sm_loc [0] [(0, .ref (Λ.2.2.2.1 0))] rfl ?_
        exact hj20 _
abbrev rmX7_excuse : Room := { frames := 2, cells := 0, slots := 0, locals := 50 }
set_option maxRecDepth 100000 in
set_option maxHeartbeats 4000000 in
theorem c_X7_excuse {Λ : jL Nat} (hM : LM Λ) {x1 : Int32} {x2 : Int32} {x3 : Int32}  {l : Launch} {v : mM} {r : (Int32 × mM)} (hr_ : f_X7_excuse x1 x2 x3 v = some r) : Ct l yX7_excuse wsX7_excuse rmX7_excuse Λ [.ref (Λ.2.2.2.1 0), .int x1, .int x2, .int x3] v (some (.int r.1)) r.2 := by
  refine ct_of (cc := cX7_excuse) (maxL := 4) (ret := (some .int)) (fun (q : Int32 × mM) => (some (Value.int q.1), q.2)) hM.1 hr_ (by decide) rfl (Nat.le_of_ble_eq_true rfl) (fun Γ hG hT hN hl => ?_)
  subst hl
  have f40 : Cond.fieldLink RX7 40 "ChoirRegisterModel" "thrown" "I" ∈ wsX7_excuse := by decide +kernel
  have f7 : Cond.fieldLink RX7 7 "ChoirRegisterModel" "now" "[I" ∈ wsX7_excuse := by decide +kernel
  have u7 : ∀ w ∈ wsX70, w ∈ wsX7_excuse := by decide +kernel
  show Sm Γ Λ (0, 0) 0 [(0, .ref (Λ.2.2.2.1 0)), (1, .int x1), (2, .int x2), (3, .int x3)] [] v _
  unfold f_X7_excuse
  refine sm_aload_n hG 1 rfl dX7_excuse_0 rfl 0 rfl ?_
  refine sm_iconst (x := (0 : Int32)) hG 2 rfl dX7_excuse_1 rfl ?_
  refine pM0_12 hG hM  5 rfl u7 f40 dX7_excuse_2 ?_
  refine sm_nmv (fun w2_1 => ?_)
  refine sm_aload_n hG 6 rfl dX7_excuse_5 rfl 0 rfl ?_
  refine sm_iload_n hG 7 rfl dX7_excuse_6 rfl 1 rfl ?_
  refine sm_callV hG (fun (q : Int32) => (some (Value.int q), w2_1)) 0 [.int x1] 10 rfl (okm hM (by decide)) (me_0 hM _) (ci := 7) rfl (fun r_ hr_ => c_X7_isSinger hM   hr_) gX7_excuse_X7_isSinger rfl (by decide) (by decide) (n := 1) rfl (Nat.le_of_ble_eq_true rfl) (by decide) ⟨Nat.zero_le _, Nat.zero_le _⟩ rfl dX7_excuse_7 (fun r_7 => ?_)
  refine sm_if_ne hG 19 13 rfl dX7_excuse_10 (by decide) ?_ ?_
  · refine sm_aload_n hG 20 rfl dX7_excuse_19 rfl 0 rfl ?_
    refine sm_iload_n hG 21 rfl dX7_excuse_20 rfl 2 rfl ?_
    refine sm_iload_n hG 22 rfl dX7_excuse_21 rfl 3 rfl ?_
    refine sm_callV hG (fun (q : Int32) => (some (Value.int q), w2_1)) 0 [.int x2, .int x3] 25 rfl (okm hM (by decide)) (me_0 hM _) (ci := 7) rfl (fun r_ hr_ => c_X7_areDays hM   hr_) gX7_excuse_X7_areDays rfl (by decide) (by decide) (n := 2) rfl (Nat.le_of_ble_eq_true rfl) (by decide) ⟨Nat.zero_le _, Nat.zero_le _⟩ rfl dX7_excuse_22 (fun r_22 => ?_)
    refine sm_if_ne hG 34 28 rfl dX7_excuse_25 (by decide) ?_ ?_
    · refine sm_aload_n hG 35 rfl dX7_excuse_34 rfl 0 rfl ?_
      refine sm_iload_n hG 36 rfl dX7_excuse_35 rfl 1 rfl ?_
      refine sm_iload_n hG 37 rfl dX7_excuse_36 rfl 2 rfl ?_
      refine sm_iload_n hG 38 rfl dX7_excuse_37 rfl 3 rfl ?_
      refine sm_callV hG (fun (q : Int32) => (some (Value.int q), w2_1)) 0 [.int x1, .int x2, .int x3] 41 rfl (okm hM (by decide)) (me_0 hM _) (ci := 7) rfl (fun r_ hr_ => c_X7_canExcuse hM   hr_) gX7_excuse_X7_canExcuse rfl (by decide) (by decide) (n := 3) rfl (Nat.le_of_ble_eq_true rfl) (by decide) ⟨Nat.zero_le _, Nat.zero_le _⟩ rfl dX7_excuse_38 (fun r_38 => ?_)
      refine sm_if_ne hG 50 44 rfl dX7_excuse_41 (by decide) ?_ ?_
      · refine sm_aload_n hG 51 rfl dX7_excuse_50 rfl 0 rfl ?_
        refine sm_aload_n hG 52 rfl dX7_excuse_51 rfl 0 rfl ?_
        refine gM0_0 hG hM  55 rfl u7 f7 dX7_excuse_52 ?_
        refine sm_callV hG (fun (w : mM) => ((none : Option Value), w)) 0 [.ref (Λ.2.2.2.1 1)] 58 rfl (okm hM (by decide)) (me_0 hM _) (ci := 7) rfl (fun r_ hr_ => c_X7_saves hM (ia_1 hM)  hr_) gX7_excuse_X7_saves rfl (by decide) (by decide) (n := 1) rfl (Nat.le_of_ble_eq_true rfl) (by decide) ⟨Nat.zero_le _, Nat.zero_le _⟩ rfl dX7_excuse_55 (fun r_55 => ?_)
        refine sm_aload_n hG 59 rfl dX7_excuse_58 rfl 0 rfl ?_
        refine sm_iload_n hG 60 rfl dX7_excuse_59 rfl 1 rfl ?_
        refine sm_iload_n hG 61 rfl dX7_excuse_60 rfl 2 rfl ?_
        refine sm_iload_n hG 62 rfl dX7_excuse_61 rfl 3 rfl ?_
        refine sm_callV hG (fun (q : Int32 × mM) => (some (Value.int q.1), q.2)) 0 [.int x1, .int x2, .int x3] 65 rfl (okm hM (by decide)) (me_0 hM _) (ci := 7) rfl (fun r_ hr_ => c_X7_excuses hM   hr_) gX7_excuse_X7_excuses rfl (by decide) (by decide) (n := 3) rfl (Nat.le_of_ble_eq_true rfl) (by decide) ⟨Nat.zero_le _, Nat.zero_le _⟩ rfl dX7_excuse_62 (fun r_62 => ?_)
        exact sm_iret hG hT ⟨Nat.zero_le _, Nat.zero_le _⟩ dX7_excuse_65 rfl
      · refine sm_aload_n hG 45 rfl dX7_excuse_44 rfl 0 rfl ?_
        refine sm_iconst (x := (3 : Int32)) hG 46 rfl dX7_excuse_45 rfl ?_
        refine sm_callV hG (fun (q : Int32 × mM) => (some (Value.int q.1), q.2)) 0 [.int (3 : Int32)] 49 rfl (okm hM (by decide)) (me_0 hM _) (ci := 7) rfl (fun r_ hr_ => c_X7_refuses hM   hr_) gX7_excuse_X7_refuses rfl (by decide) (by decide) (n := 1) rfl (Nat.le_of_ble_eq_true rfl) (by decide) ⟨Nat.zero_le _, Nat.zero_le _⟩ rfl dX7_excuse_46 (fun r_46 => ?_)
        exact sm_iret hG hT ⟨Nat.zero_le _, Nat.zero_le _⟩ dX7_excuse_49 rfl
    · refine sm_aload_n hG 29 rfl dX7_excuse_28 rfl 0 rfl ?_
      refine sm_iconst (x := (2 : Int32)) hG 30 rfl dX7_excuse_29 rfl ?_
      refine sm_callV hG (fun (q : Int32 × mM) => (some (Value.int q.1), q.2)) 0 [.int (2 : Int32)] 33 rfl (okm hM (by decide)) (me_0 hM _) (ci := 7) rfl (fun r_ hr_ => c_X7_refuses hM   hr_) gX7_excuse_X7_refuses rfl (by decide) (by decide) (n := 1) rfl (Nat.le_of_ble_eq_true rfl) (by decide) ⟨Nat.zero_le _, Nat.zero_le _⟩ rfl dX7_excuse_30 (fun r_30 => ?_)
      exact sm_iret hG hT ⟨Nat.zero_le _, Nat.zero_le _⟩ dX7_excuse_33 rfl
  · refine sm_aload_n hG 14 rfl dX7_excuse_13 rfl 0 rfl ?_
    refine sm_iconst (x := (1 : Int32)) hG 15 rfl dX7_excuse_14 rfl ?_
    refine sm_callV hG (fun (q : Int32 × mM) => (some (Value.int q.1), q.2)) 0 [.int (1 : Int32)] 18 rfl (okm hM (by decide)) (me_0 hM _) (ci := 7) rfl (fun r_ hr_ => c_X7_refuses hM   hr_) gX7_excuse_X7_refuses rfl (by decide) (by decide) (n := 1) rfl (Nat.le_of_ble_eq_true rfl) (by decide) ⟨Nat.zero_le _, Nat.zero_le _⟩ rfl dX7_excuse_15 (fun r_15 => ?_)
    exact sm_iret hG hT ⟨Nat.zero_le _, Nat.zero_le _⟩ dX7_excuse_18 rfl
abbrev rmX7_announce : Room := { frames := 2, cells := 0, slots := 0, locals := 46 }
set_option maxRecDepth 100000 in
set_option maxHeartbeats 4000000 in
theorem c_X7_announce {Λ : jL Nat} (hM : LM Λ) {x1 : Int32} {x2 : Int32}  {l : Launch} {v : mM} {r : (Int32 × mM)} (hr_ : f_X7_announce x1 x2 v = some r) : Ct l yX7_announce wsX7_announce rmX7_announce Λ [.ref (Λ.2.2.2.1 0), .int x1, .int x2] v (some (.int r.1)) r.2 := by
  refine ct_of (cc := cX7_announce) (maxL := 3) (ret := (some .int)) (fun (q : Int32 × mM) => (some (Value.int q.1), q.2)) hM.1 hr_ (by decide) rfl (Nat.le_of_ble_eq_true rfl) (fun Γ hG hT hN hl => ?_)
  subst hl
  have f40 : Cond.fieldLink RX7 40 "ChoirRegisterModel" "thrown" "I" ∈ wsX7_announce := by decide +kernel
  have f7 : Cond.fieldLink RX7 7 "ChoirRegisterModel" "now" "[I" ∈ wsX7_announce := by decide +kernel
  have u7 : ∀ w ∈ wsX70, w ∈ wsX7_announce := by decide +kernel
  show Sm Γ Λ (0, 0) 0 [(0, .ref (Λ.2.2.2.1 0)), (1, .int x1), (2, .int x2)] [] v _
  unfold f_X7_announce
  refine sm_jn (fun (X22 : mM → Option (Int32 × mM)) => ∀ (v_22 : mM), Sm Γ Λ (0, 0) 22 [(0, .ref (Λ.2.2.2.1 0))] [] v_22 (X22 v_22)) (fun v_22 => ?_) (fun j22 hj22 => ?_)
  · refine sm_aload_n hG 23 rfl dX7_announce_22 rfl 0 rfl ?_
    refine sm_iconst (x := (1 : Int32)) hG 24 rfl dX7_announce_23 rfl ?_
    refine sm_callV hG (fun (q : Int32 × mM) => (some (Value.int q.1), q.2)) 0 [.int (1 : Int32)] 27 rfl (okm hM (by decide)) (me_0 hM _) (ci := 7) rfl (fun r_ hr_ => c_X7_refuses hM   hr_) gX7_announce_X7_refuses rfl (by decide) (by decide) (n := 1) rfl (Nat.le_of_ble_eq_true rfl) (by decide) ⟨Nat.zero_le _, Nat.zero_le _⟩ rfl dX7_announce_24 (fun r_24 => ?_)
    exact sm_iret hG hT ⟨Nat.zero_le _, Nat.zero_le _⟩ dX7_announce_27 rfl
  · refine sm_aload_n hG 1 rfl dX7_announce_0 rfl 0 rfl ?_
    refine sm_iconst (x := (0 : Int32)) hG 2 rfl dX7_announce_1 rfl ?_
    refine pM0_12 hG hM  5 rfl u7 f40 dX7_announce_2 ?_
    refine sm_nmv (fun w2_1 => ?_)
    refine sm_aload_n hG 6 rfl dX7_announce_5 rfl 0 rfl ?_
    refine sm_iload_n hG 7 rfl dX7_announce_6 rfl 1 rfl ?_
    refine sm_callV hG (fun (q : Int32) => (some (Value.int q), w2_1)) 0 [.int x1] 10 rfl (okm hM (by decide)) (me_0 hM _) (ci := 7) rfl (fun r_ hr_ => c_X7_isFuture hM   hr_) gX7_announce_X7_isFuture rfl (by decide) (by decide) (n := 1) rfl (Nat.le_of_ble_eq_true rfl) (by decide) ⟨Nat.zero_le _, Nat.zero_le _⟩ rfl dX7_announce_7 (fun r_7 => ?_)
    refine sm_if_eq hG 22 13 rfl dX7_announce_10 (by decide) ?_ ?_
    · refine sm_loc [0] [(0, .ref (Λ.2.2.2.1 0))] rfl ?_
      exact hj22 _
    · refine sm_iload_n hG 14 rfl dX7_announce_13 rfl 2 rfl ?_
      refine sm_iconst (x := (1 : Int32)) hG 15 rfl dX7_announce_14 rfl ?_
      refine sm_iconst (x := (3 : Int32)) hG 16 rfl dX7_announce_15 rfl ?_
      refine sm_callS hG (fun (q : Int32) => (some (Value.int q), w2_1)) [.int x2, .int (1 : Int32), .int (3 : Int32)] 19 rfl (fun r_ hr_ => c_X7_in hM   hr_) gX7_announce_X7_in rfl (by decide) (by decide) (n := 3) rfl (Nat.le_of_ble_eq_true rfl) (by decide) ⟨Nat.zero_le _, Nat.zero_le _⟩ rfl dX7_announce_16 (fun r_16 => ?_)
      refine sm_if_ne hG 28 22 rfl dX7_announce_19 (by decide) ?_ ?_
      · refine sm_aload_n hG 29 rfl dX7_announce_28 rfl 0 rfl ?_
        refine sm_iload_n hG 30 rfl dX7_announce_29 rfl 1 rfl ?_
        refine sm_callV hG (fun (q : Int32) => (some (Value.int q), w2_1)) 0 [.int x1] 33 rfl (okm hM (by decide)) (me_0 hM _) (ci := 7) rfl (fun r_ hr_ => c_X7_canAnnounce hM   hr_) gX7_announce_X7_canAnnounce rfl (by decide) (by decide) (n := 1) rfl (Nat.le_of_ble_eq_true rfl) (by decide) ⟨Nat.zero_le _, Nat.zero_le _⟩ rfl dX7_announce_30 (fun r_30 => ?_)
        refine sm_if_ne hG 42 36 rfl dX7_announce_33 (by decide) ?_ ?_
        · refine sm_aload_n hG 43 rfl dX7_announce_42 rfl 0 rfl ?_
          refine sm_aload_n hG 44 rfl dX7_announce_43 rfl 0 rfl ?_
          refine gM0_0 hG hM  47 rfl u7 f7 dX7_announce_44 ?_
          refine sm_callV hG (fun (w : mM) => ((none : Option Value), w)) 0 [.ref (Λ.2.2.2.1 1)] 50 rfl (okm hM (by decide)) (me_0 hM _) (ci := 7) rfl (fun r_ hr_ => c_X7_saves hM (ia_1 hM)  hr_) gX7_announce_X7_saves rfl (by decide) (by decide) (n := 1) rfl (Nat.le_of_ble_eq_true rfl) (by decide) ⟨Nat.zero_le _, Nat.zero_le _⟩ rfl dX7_announce_47 (fun r_47 => ?_)
          refine sm_aload_n hG 51 rfl dX7_announce_50 rfl 0 rfl ?_
          refine sm_iload_n hG 52 rfl dX7_announce_51 rfl 1 rfl ?_
          refine sm_iload_n hG 53 rfl dX7_announce_52 rfl 2 rfl ?_
          refine sm_callV hG (fun (q : Int32 × mM) => (some (Value.int q.1), q.2)) 0 [.int x1, .int x2] 56 rfl (okm hM (by decide)) (me_0 hM _) (ci := 7) rfl (fun r_ hr_ => c_X7_announces hM   hr_) gX7_announce_X7_announces rfl (by decide) (by decide) (n := 2) rfl (Nat.le_of_ble_eq_true rfl) (by decide) ⟨Nat.zero_le _, Nat.zero_le _⟩ rfl dX7_announce_53 (fun r_53 => ?_)
          exact sm_iret hG hT ⟨Nat.zero_le _, Nat.zero_le _⟩ dX7_announce_56 rfl
        · refine sm_aload_n hG 37 rfl dX7_announce_36 rfl 0 rfl ?_
          refine sm_iconst (x := (2 : Int32)) hG 38 rfl dX7_announce_37 rfl ?_
          refine sm_callV hG (fun (q : Int32 × mM) => (some (Value.int q.1), q.2)) 0 [.int (2 : Int32)] 41 rfl (okm hM (by decide)) (me_0 hM _) (ci := 7) rfl (fun r_ hr_ => c_X7_refuses hM   hr_) gX7_announce_X7_refuses rfl (by decide) (by decide) (n := 1) rfl (Nat.le_of_ble_eq_true rfl) (by decide) ⟨Nat.zero_le _, Nat.zero_le _⟩ rfl dX7_announce_38 (fun r_38 => ?_)
          exact sm_iret hG hT ⟨Nat.zero_le _, Nat.zero_le _⟩ dX7_announce_41 rfl
      · refine sm_loc [0] [(0, .ref (Λ.2.2.2.1 0))] rfl ?_
        exact hj22 _
abbrev rmX7_setLine : Room := { frames := 3, cells := 0, slots := 0, locals := 69 }
set_option maxRecDepth 100000 in
set_option maxHeartbeats 4000000 in
theorem c_X7_setLine {Λ : jL Nat} (hM : LM Λ) {x1 : Int32} {x2 : Int32} {x3 : Int32} {x4 : Int32} {x5 : Int32}  {l : Launch} {v : mM} {r : (Int32 × mM)} (hr_ : f_X7_setLine x1 x2 x3 x4 x5 v = some r) : Ct l yX7_setLine wsX7_setLine rmX7_setLine Λ [.ref (Λ.2.2.2.1 0), .int x1, .int x2, .int x3, .int x4, .int x5] v (some (.int r.1)) r.2 := by
  refine ct_of (cc := cX7_setLine) (maxL := 6) (ret := (some .int)) (fun (q : Int32 × mM) => (some (Value.int q.1), q.2)) hM.1 hr_ (by decide) rfl (Nat.le_of_ble_eq_true rfl) (fun Γ hG hT hN hl => ?_)
  subst hl
  have f40 : Cond.fieldLink RX7 40 "ChoirRegisterModel" "thrown" "I" ∈ wsX7_setLine := by decide +kernel
  have f7 : Cond.fieldLink RX7 7 "ChoirRegisterModel" "now" "[I" ∈ wsX7_setLine := by decide +kernel
  have u7 : ∀ w ∈ wsX70, w ∈ wsX7_setLine := by decide +kernel
  show Sm Γ Λ (0, 0) 0 [(0, .ref (Λ.2.2.2.1 0)), (1, .int x1), (2, .int x2), (3, .int x3), (4, .int x4), (5, .int x5)] [] v _
  unfold f_X7_setLine
  refine sm_jn (fun (X20 : mM → Option (Int32 × mM)) => ∀ (v_20 : mM), Sm Γ Λ (0, 0) 20 [(0, .ref (Λ.2.2.2.1 0))] [] v_20 (X20 v_20)) (fun v_20 => ?_) (fun j20 hj20 => ?_)
  · refine sm_aload_n hG 21 rfl dX7_setLine_20 rfl 0 rfl ?_
    refine sm_iconst (x := (1 : Int32)) hG 22 rfl dX7_setLine_21 rfl ?_
    refine sm_callV hG (fun (q : Int32 × mM) => (some (Value.int q.1), q.2)) 0 [.int (1 : Int32)] 25 rfl (okm hM (by decide)) (me_0 hM _) (ci := 7) rfl (fun r_ hr_ => c_X7_refuses hM   hr_) gX7_setLine_X7_refuses rfl (by decide) (by decide) (n := 1) rfl (Nat.le_of_ble_eq_true rfl) (by decide) ⟨Nat.zero_le _, Nat.zero_le _⟩ rfl dX7_setLine_22 (fun r_22 => ?_)
    exact sm_iret hG hT ⟨Nat.zero_le _, Nat.zero_le _⟩ dX7_setLine_25 rfl
  · refine sm_aload_n hG 1 rfl dX7_setLine_0 rfl 0 rfl ?_
    refine sm_iconst (x := (0 : Int32)) hG 2 rfl dX7_setLine_1 rfl ?_
    refine pM0_12 hG hM  5 rfl u7 f40 dX7_setLine_2 ?_
    refine sm_nmv (fun w2_1 => ?_)
    refine sm_aload_n hG 6 rfl dX7_setLine_5 rfl 0 rfl ?_
    refine sm_iload_n hG 7 rfl dX7_setLine_6 rfl 1 rfl ?_
    refine sm_callV hG (fun (q : Int32) => (some (Value.int q), w2_1)) 0 [.int x1] 10 rfl (okm hM (by decide)) (me_0 hM _) (ci := 7) rfl (fun r_ hr_ => c_X7_isFeast hM   hr_) gX7_setLine_X7_isFeast rfl (by decide) (by decide) (n := 1) rfl (Nat.le_of_ble_eq_true rfl) (by decide) ⟨Nat.zero_le _, Nat.zero_le _⟩ rfl dX7_setLine_7 (fun r_7 => ?_)
    refine sm_if_eq hG 20 13 rfl dX7_setLine_10 (by decide) ?_ ?_
    · refine sm_loc [0] [(0, .ref (Λ.2.2.2.1 0))] rfl ?_
      exact hj20 _
    · refine sm_iload_n hG 14 rfl dX7_setLine_13 rfl 2 rfl ?_
      refine sm_callS hG (fun (q : Int32) => (some (Value.int q), w2_1)) [.int x2] 17 rfl (fun r_ hr_ => c_X7_isLine hM   hr_) gX7_setLine_X7_isLine rfl (by decide) (by decide) (n := 1) rfl (Nat.le_of_ble_eq_true rfl) (by decide) ⟨Nat.zero_le _, Nat.zero_le _⟩ rfl dX7_setLine_14 (fun r_14 => ?_)
      refine sm_if_ne hG 26 20 rfl dX7_setLine_17 (by decide) ?_ ?_
      · refine sm_jn (fun (X46 : mM → Option (Int32 × mM)) => ∀ (v_46 : mM), Sm Γ Λ (0, 0) 46 [(0, .ref (Λ.2.2.2.1 0))] [] v_46 (X46 v_46)) (fun v_46 => ?_) (fun j46 hj46 => ?_)
        · refine sm_aload_n hG 47 rfl dX7_setLine_46 rfl 0 rfl ?_
          refine sm_iconst (x := (2 : Int32)) hG 48 rfl dX7_setLine_47 rfl ?_
          refine sm_callV hG (fun (q : Int32 × mM) => (some (Value.int q.1), q.2)) 0 [.int (2 : Int32)] 51 rfl (okm hM (by decide)) (me_0 hM _) (ci := 7) rfl (fun r_ hr_ => c_X7_refuses hM   hr_) gX7_setLine_X7_refuses rfl (by decide) (by decide) (n := 1) rfl (Nat.le_of_ble_eq_true rfl) (by decide) ⟨Nat.zero_le _, Nat.zero_le _⟩ rfl dX7_setLine_48 (fun r_48 => ?_)
          exact sm_iret hG hT ⟨Nat.zero_le _, Nat.zero_le _⟩ dX7_setLine_51 rfl
        · refine sm_iload_n hG 27 rfl dX7_setLine_26 rfl 3 rfl ?_
          refine sm_iconst (x := (0 : Int32)) hG 28 rfl dX7_setLine_27 rfl ?_
          refine sm_bipush (x := (6 : Int32)) hG 30 rfl dX7_setLine_28 rfl ?_
          refine sm_callS hG (fun (q : Int32) => (some (Value.int q), w2_1)) [.int x3, .int (0 : Int32), .int (6 : Int32)] 33 rfl (fun r_ hr_ => c_X7_in hM   hr_) gX7_setLine_X7_in rfl (by decide) (by decide) (n := 3) rfl (Nat.le_of_ble_eq_true rfl) (by decide) ⟨Nat.zero_le _, Nat.zero_le _⟩ rfl dX7_setLine_30 (fun r_30 => ?_)
          refine sm_if_eq hG 46 36 rfl dX7_setLine_33 (by decide) ?_ ?_
          · refine sm_loc [0] [(0, .ref (Λ.2.2.2.1 0))] rfl ?_
            exact hj46 _
          · refine sm_iload hG 38 rfl dX7_setLine_36 4 rfl ?_
            refine sm_iload hG 40 rfl dX7_setLine_38 5 rfl ?_
            refine sm_callS hG (fun (q : Int32) => (some (Value.int q), w2_1)) [.int x4, .int x5] 43 rfl (fun r_ hr_ => c_X7_areNotes hM   hr_) gX7_setLine_X7_areNotes rfl (by decide) (by decide) (n := 2) rfl (Nat.le_of_ble_eq_true rfl) (by decide) ⟨Nat.zero_le _, Nat.zero_le _⟩ rfl dX7_setLine_40 (fun r_40 => ?_)
            refine sm_if_ne hG 52 46 rfl dX7_setLine_43 (by decide) ?_ ?_
            · refine sm_aload_n hG 53 rfl dX7_setLine_52 rfl 0 rfl ?_
              refine sm_iload_n hG 54 rfl dX7_setLine_53 rfl 1 rfl ?_
              refine sm_callV hG (fun (q : Int32) => (some (Value.int q), w2_1)) 0 [.int x1] 57 rfl (okm hM (by decide)) (me_0 hM _) (ci := 7) rfl (fun r_ hr_ => c_X7_held hM   hr_) gX7_setLine_X7_held rfl (by decide) (by decide) (n := 1) rfl (Nat.le_of_ble_eq_true rfl) (by decide) ⟨Nat.zero_le _, Nat.zero_le _⟩ rfl dX7_setLine_54 (fun r_54 => ?_)
              refine sm_if_eq hG 66 60 rfl dX7_setLine_57 (by decide) ?_ ?_
              · refine sm_aload_n hG 67 rfl dX7_setLine_66 rfl 0 rfl ?_
                refine sm_aload_n hG 68 rfl dX7_setLine_67 rfl 0 rfl ?_
                refine gM0_0 hG hM  71 rfl u7 f7 dX7_setLine_68 ?_
                refine sm_callV hG (fun (w : mM) => ((none : Option Value), w)) 0 [.ref (Λ.2.2.2.1 1)] 74 rfl (okm hM (by decide)) (me_0 hM _) (ci := 7) rfl (fun r_ hr_ => c_X7_saves hM (ia_1 hM)  hr_) gX7_setLine_X7_saves rfl (by decide) (by decide) (n := 1) rfl (Nat.le_of_ble_eq_true rfl) (by decide) ⟨Nat.zero_le _, Nat.zero_le _⟩ rfl dX7_setLine_71 (fun r_71 => ?_)
                refine sm_aload_n hG 75 rfl dX7_setLine_74 rfl 0 rfl ?_
                refine sm_iload_n hG 76 rfl dX7_setLine_75 rfl 1 rfl ?_
                refine sm_iload_n hG 77 rfl dX7_setLine_76 rfl 2 rfl ?_
                refine sm_iload_n hG 78 rfl dX7_setLine_77 rfl 3 rfl ?_
                refine sm_iload hG 80 rfl dX7_setLine_78 4 rfl ?_
                refine sm_iload hG 82 rfl dX7_setLine_80 5 rfl ?_
                refine sm_callV hG (fun (q : Int32 × mM) => (some (Value.int q.1), q.2)) 0 [.int x1, .int x2, .int x3, .int x4, .int x5] 85 rfl (okm hM (by decide)) (me_0 hM _) (ci := 7) rfl (fun r_ hr_ => c_X7_sets hM   hr_) gX7_setLine_X7_sets rfl (by decide) (by decide) (n := 5) rfl (Nat.le_of_ble_eq_true rfl) (by decide) ⟨Nat.zero_le _, Nat.zero_le _⟩ rfl dX7_setLine_82 (fun r_82 => ?_)
                exact sm_iret hG hT ⟨Nat.zero_le _, Nat.zero_le _⟩ dX7_setLine_85 rfl
              · refine sm_aload_n hG 61 rfl dX7_setLine_60 rfl 0 rfl ?_
                refine sm_iconst (x := (3 : Int32)) hG 62 rfl dX7_setLine_61 rfl ?_
                refine sm_callV hG (fun (q : Int32 × mM) => (some (Value.int q.1), q.2)) 0 [.int (3 : Int32)] 65 rfl (okm hM (by decide)) (me_0 hM _) (ci := 7) rfl (fun r_ hr_ => c_X7_refuses hM   hr_) gX7_setLine_X7_refuses rfl (by decide) (by decide) (n := 1) rfl (Nat.le_of_ble_eq_true rfl) (by decide) ⟨Nat.zero_le _, Nat.zero_le _⟩ rfl dX7_setLine_62 (fun r_62 => ?_)
                exact sm_iret hG hT ⟨Nat.zero_le _, Nat.zero_le _⟩ dX7_setLine_65 rfl
            · refine sm_loc [0] [(0, .ref (Λ.2.2.2.1 0))] rfl ?_
              exact hj46 _
      · refine sm_loc [0] [(0, .ref (Λ.2.2.2.1 0))] rfl ?_
        exact hj20 _
abbrev rmX7_passDays : Room := { frames := 10, cells := 0, slots := 0, locals := 238 }
set_option maxRecDepth 100000 in
set_option maxHeartbeats 4000000 in
theorem c_X7_passDays {Λ : jL Nat} (hM : LM Λ) {x1 : Int32}  {l : Launch} {v : mM} {r : (Int32 × mM)} (hr_ : f_X7_passDays x1 v = some r) : Ct l yX7_passDays wsX7_passDays rmX7_passDays Λ [.ref (Λ.2.2.2.1 0), .int x1] v (some (.int r.1)) r.2 := by
  refine ct_of (cc := cX7_passDays) (maxL := 2) (ret := (some .int)) (fun (q : Int32 × mM) => (some (Value.int q.1), q.2)) hM.1 hr_ (by decide) rfl (Nat.le_of_ble_eq_true rfl) (fun Γ hG hT hN hl => ?_)
  subst hl
  have f40 : Cond.fieldLink RX7 40 "ChoirRegisterModel" "thrown" "I" ∈ wsX7_passDays := by decide +kernel
  have f7 : Cond.fieldLink RX7 7 "ChoirRegisterModel" "now" "[I" ∈ wsX7_passDays := by decide +kernel
  have u7 : ∀ w ∈ wsX70, w ∈ wsX7_passDays := by decide +kernel
  show Sm Γ Λ (0, 0) 0 [(0, .ref (Λ.2.2.2.1 0)), (1, .int x1)] [] v _
  unfold f_X7_passDays
  refine sm_aload_n hG 1 rfl dX7_passDays_0 rfl 0 rfl ?_
  refine sm_iconst (x := (0 : Int32)) hG 2 rfl dX7_passDays_1 rfl ?_
  refine pM0_12 hG hM  5 rfl u7 f40 dX7_passDays_2 ?_
  refine sm_nmv (fun w2_1 => ?_)
  refine sm_iload_n hG 6 rfl dX7_passDays_5 rfl 1 rfl ?_
  refine sm_iconst (x := (1 : Int32)) hG 7 rfl dX7_passDays_6 rfl ?_
  refine sm_bipush (x := (99 : Int32)) hG 9 rfl dX7_passDays_7 rfl ?_
  refine sm_callS hG (fun (q : Int32) => (some (Value.int q), w2_1)) [.int x1, .int (1 : Int32), .int (99 : Int32)] 12 rfl (fun r_ hr_ => c_X7_in hM   hr_) gX7_passDays_X7_in rfl (by decide) (by decide) (n := 3) rfl (Nat.le_of_ble_eq_true rfl) (by decide) ⟨Nat.zero_le _, Nat.zero_le _⟩ rfl dX7_passDays_9 (fun r_9 => ?_)
  refine sm_if_ne hG 21 15 rfl dX7_passDays_12 (by decide) ?_ ?_
  · refine sm_aload_n hG 22 rfl dX7_passDays_21 rfl 0 rfl ?_
    refine gM0_0 hG hM  25 rfl u7 f7 dX7_passDays_22 ?_
    refine sm_iconst (x := (0 : Int32)) hG 26 rfl dX7_passDays_25 rfl ?_
    refine lA hG (ia_1 hM) 27 rfl dX7_passDays_26 ?_
    refine sm_iload_n hG 28 rfl dX7_passDays_27 rfl 1 rfl ?_
    refine sm_iadd hG 29 rfl dX7_passDays_28 ?_
    refine sm_sipush (x := (9999 : Int32)) hG 32 rfl dX7_passDays_29 rfl ?_
    refine sm_icmp_le hG 41 35 rfl dX7_passDays_32 (by decide) ?_ ?_
    · refine sm_aload_n hG 42 rfl dX7_passDays_41 rfl 0 rfl ?_
      refine sm_aload_n hG 43 rfl dX7_passDays_42 rfl 0 rfl ?_
      refine gM0_0 hG hM  46 rfl u7 f7 dX7_passDays_43 ?_
      refine sm_callV hG (fun (w : mM) => ((none : Option Value), w)) 0 [.ref (Λ.2.2.2.1 1)] 49 rfl (okm hM (by decide)) (me_0 hM _) (ci := 7) rfl (fun r_ hr_ => c_X7_saves hM (ia_1 hM)  hr_) gX7_passDays_X7_saves rfl (by decide) (by decide) (n := 1) rfl (Nat.le_of_ble_eq_true rfl) (by decide) ⟨Nat.zero_le _, Nat.zero_le _⟩ rfl dX7_passDays_46 (fun r_46 => ?_)
      refine sm_aload_n hG 50 rfl dX7_passDays_49 rfl 0 rfl ?_
      refine sm_iload_n hG 51 rfl dX7_passDays_50 rfl 1 rfl ?_
      refine sm_callV hG (fun (q : Int32 × mM) => (some (Value.int q.1), q.2)) 0 [.int x1] 54 rfl (okm hM (by decide)) (me_0 hM _) (ci := 7) rfl (fun r_ hr_ => c_X7_passesMany hM   hr_) gX7_passDays_X7_passesMany rfl (by decide) (by decide) (n := 1) rfl (Nat.le_of_ble_eq_true rfl) (by decide) ⟨Nat.zero_le _, Nat.zero_le _⟩ rfl dX7_passDays_51 (fun r_51 => ?_)
      exact sm_iret hG hT ⟨Nat.zero_le _, Nat.zero_le _⟩ dX7_passDays_54 rfl
    · refine sm_aload_n hG 36 rfl dX7_passDays_35 rfl 0 rfl ?_
      refine sm_iconst (x := (2 : Int32)) hG 37 rfl dX7_passDays_36 rfl ?_
      refine sm_callV hG (fun (q : Int32 × mM) => (some (Value.int q.1), q.2)) 0 [.int (2 : Int32)] 40 rfl (okm hM (by decide)) (me_0 hM _) (ci := 7) rfl (fun r_ hr_ => c_X7_refuses hM   hr_) gX7_passDays_X7_refuses rfl (by decide) (by decide) (n := 1) rfl (Nat.le_of_ble_eq_true rfl) (by decide) ⟨Nat.zero_le _, Nat.zero_le _⟩ rfl dX7_passDays_37 (fun r_37 => ?_)
      exact sm_iret hG hT ⟨Nat.zero_le _, Nat.zero_le _⟩ dX7_passDays_40 rfl
  · refine sm_aload_n hG 16 rfl dX7_passDays_15 rfl 0 rfl ?_
    refine sm_iconst (x := (1 : Int32)) hG 17 rfl dX7_passDays_16 rfl ?_
    refine sm_callV hG (fun (q : Int32 × mM) => (some (Value.int q.1), q.2)) 0 [.int (1 : Int32)] 20 rfl (okm hM (by decide)) (me_0 hM _) (ci := 7) rfl (fun r_ hr_ => c_X7_refuses hM   hr_) gX7_passDays_X7_refuses rfl (by decide) (by decide) (n := 1) rfl (Nat.le_of_ble_eq_true rfl) (by decide) ⟨Nat.zero_le _, Nat.zero_le _⟩ rfl dX7_passDays_17 (fun r_17 => ?_)
    exact sm_iret hG hT ⟨Nat.zero_le _, Nat.zero_le _⟩ dX7_passDays_20 rfl
