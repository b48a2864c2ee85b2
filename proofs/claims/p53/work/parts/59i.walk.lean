/-! printed by wip/p53/jgen.py out of the bytecode: the law -/
abbrev rmL_voices : Room := { frames := 17, cells := 3005, slots := 30836, locals := 384 }
set_option maxRecDepth 100000 in
set_option maxHeartbeats 4000000 in
theorem c_L_voices {Λ : jL kC} (hC : LC Λ)   {l : Launch} (hfl : l.stackTraces = false) (hX : Xnc Λ) {v : mC} {r : (Int32 × mC)} (hr_ : f_L_voices v = some r) : Ct l yL_voices wsL_voices rmL_voices Λ [.ref (Λ.2.2.2.1 (0, 0, 0))] v (some (.int r.1)) r.2 := by
  refine ct_of (cc := cL_voices) (maxL := 1) (ret := (some .boolean)) (fun (q : Int32 × mC) => (some (Value.int q.1), q.2)) hC.1 hr_ (by decide) rfl (Nat.le_of_ble_eq_true rfl) (fun Γ hG hT hN hl => ?_)
  subst hl
  show Sm Γ Λ (0, 0) 0 [(0, .ref (Λ.2.2.2.1 (0, 0, 0)))] [] v _
  unfold f_L_voices
  refine sm_aload_n hG 1 rfl dL_voices_0 rfl 0 rfl ?_
  refine sm_iconst (x := (0 : Int32)) hG 2 rfl dL_voices_1 rfl ?_
  refine sm_callV hG (fun (q : Int32 × mC) => (some (Value.int q.1), q.2)) (0, 0, 0) [.int (0 : Int32)] 5 rfl (ok0 hC) (ce_0 hC _) (ci := 6) rfl (fun r_ hr_ => c0n_X6_ageOf hC hr_) gL_voices_X6_ageOf rfl (by decide) (by decide) (n := 1) rfl (Nat.le_of_ble_eq_true rfl) (by decide) (by decide) rfl dL_voices_2 (fun r_2 => ?_)
  refine sm_bipush (x := (12 : Int32)) hG 7 rfl dL_voices_5 rfl ?_
  refine sm_icmp_ne hG 217 10 rfl dL_voices_7 (by decide) ?_ ?_
  · refine sm_iconst (x := (0 : Int32)) hG 218 rfl dL_voices_217 rfl ?_
    exact sm_bret hG hT (by decide) dL_voices_218 rfl
  · refine sm_aload_n hG 11 rfl dL_voices_10 rfl 0 rfl ?_
    refine sm_callV hG (fun (q : Int32) => (some (Value.int q), r_2.2)) (0, 0, 0) [] 14 rfl (ok0 hC) (ce_0 hC _) (ci := 6) rfl (fun r_ hr_ => c_X6_nextToBreak hC   hr_) gL_voices_X6_nextToBreak rfl (by decide) (by decide) (n := 0) rfl (Nat.le_of_ble_eq_true rfl) (by decide) (by decide) rfl dL_voices_11 (fun r_11 => ?_)
    refine sm_if_ne hG 217 17 rfl dL_voices_14 (by decide) ?_ ?_
    · refine sm_iconst (x := (0 : Int32)) hG 218 rfl dL_voices_217 rfl ?_
      exact sm_bret hG hT (by decide) dL_voices_218 rfl
    · refine sm_aload_n hG 18 rfl dL_voices_17 rfl 0 rfl ?_
      refine sm_iconst (x := (0 : Int32)) hG 19 rfl dL_voices_18 rfl ?_
      refine sm_callV hG (fun (q : Int32 × mC) => (some (Value.int q.1), q.2)) (0, 0, 0) [.int (0 : Int32)] 22 rfl (ok0 hC) (ce_0 hC _) (ci := 6) rfl (fun r_ hr_ => c0n_X6_lowestNoteOf hC hr_) gL_voices_X6_lowestNoteOf rfl (by decide) (by decide) (n := 1) rfl (Nat.le_of_ble_eq_true rfl) (by decide) (by decide) rfl dL_voices_19 (fun r_19 => ?_)
      refine sm_bipush (x := (10 : Int32)) hG 24 rfl dL_voices_22 rfl ?_
      refine sm_icmp_ne hG 217 27 rfl dL_voices_24 (by decide) ?_ ?_
      · refine sm_iconst (x := (0 : Int32)) hG 218 rfl dL_voices_217 rfl ?_
        exact sm_bret hG hT (by decide) dL_voices_218 rfl
      · refine sm_aload_n hG 28 rfl dL_voices_27 rfl 0 rfl ?_
        refine sm_sipush (x := (1080 : Int32)) hG 31 rfl dL_voices_28 rfl ?_
        refine sm_iconst (x := (1 : Int32)) hG 32 rfl dL_voices_31 rfl ?_
        refine sm_callV hG (fun (q : Int32 × mC) => (some (Value.int q.1), q.2)) (0, 0, 0) [.int (1080 : Int32), .int (1 : Int32)] 35 rfl (ok0 hC) (ce_0 hC _) (ci := 6) rfl (fun r_ hr_ => c0n_X6_announce hC hr_) gL_voices_X6_announce rfl (by decide) (by decide) (n := 2) rfl (Nat.le_of_ble_eq_true rfl) (by decide) (by decide) rfl dL_voices_32 (fun r_32 => ?_)
        refine sm_iconst (x := (2 : Int32)) hG 36 rfl dL_voices_35 rfl ?_
        refine sm_icmp_ne hG 217 39 rfl dL_voices_36 (by decide) ?_ ?_
        · refine sm_iconst (x := (0 : Int32)) hG 218 rfl dL_voices_217 rfl ?_
          exact sm_bret hG hT (by decide) dL_voices_218 rfl
        · refine sm_aload_n hG 40 rfl dL_voices_39 rfl 0 rfl ?_
          refine sm_sipush (x := (1169 : Int32)) hG 43 rfl dL_voices_40 rfl ?_
          refine sm_iconst (x := (1 : Int32)) hG 44 rfl dL_voices_43 rfl ?_
          refine sm_callV hG (fun (q : Int32 × mC) => (some (Value.int q.1), q.2)) (0, 0, 0) [.int (1169 : Int32), .int (1 : Int32)] 47 rfl (ok0 hC) (ce_0 hC _) (ci := 6) rfl (fun r_ hr_ => c0n_X6_announce hC hr_) gL_voices_X6_announce rfl (by decide) (by decide) (n := 2) rfl (Nat.le_of_ble_eq_true rfl) (by decide) (by decide) rfl dL_voices_44 (fun r_44 => ?_)
          refine sm_iconst (x := (3 : Int32)) hG 48 rfl dL_voices_47 rfl ?_
          refine sm_icmp_ne hG 217 51 rfl dL_voices_48 (by decide) ?_ ?_
          · refine sm_iconst (x := (0 : Int32)) hG 218 rfl dL_voices_217 rfl ?_
            exact sm_bret hG hT (by decide) dL_voices_218 rfl
          · refine sm_aload_n hG 52 rfl dL_voices_51 rfl 0 rfl ?_
            refine sm_sipush (x := (1170 : Int32)) hG 55 rfl dL_voices_52 rfl ?_
            refine sm_iconst (x := (1 : Int32)) hG 56 rfl dL_voices_55 rfl ?_
            refine sm_callV hG (fun (q : Int32 × mC) => (some (Value.int q.1), q.2)) (0, 0, 0) [.int (1170 : Int32), .int (1 : Int32)] 59 rfl (ok0 hC) (ce_0 hC _) (ci := 6) rfl (fun r_ hr_ => c0n_X6_announce hC hr_) gL_voices_X6_announce rfl (by decide) (by decide) (n := 2) rfl (Nat.le_of_ble_eq_true rfl) (by decide) (by decide) rfl dL_voices_56 (fun r_56 => ?_)
            refine sm_iconst (x := (4 : Int32)) hG 60 rfl dL_voices_59 rfl ?_
            refine sm_icmp_ne hG 217 63 rfl dL_voices_60 (by decide) ?_ ?_
            · refine sm_iconst (x := (0 : Int32)) hG 218 rfl dL_voices_217 rfl ?_
              exact sm_bret hG hT (by decide) dL_voices_218 rfl
            · refine sm_aload_n hG 64 rfl dL_voices_63 rfl 0 rfl ?_
              refine sm_iconst (x := (2 : Int32)) hG 65 rfl dL_voices_64 rfl ?_
              refine sm_iconst (x := (0 : Int32)) hG 66 rfl dL_voices_65 rfl ?_
              refine sm_iconst (x := (1 : Int32)) hG 67 rfl dL_voices_66 rfl ?_
              refine sm_bipush (x := (12 : Int32)) hG 69 rfl dL_voices_67 rfl ?_
              refine sm_bipush (x := (20 : Int32)) hG 71 rfl dL_voices_69 rfl ?_
              refine sm_callV hG (fun (q : Int32 × mC) => (some (Value.int q.1), q.2)) (0, 0, 0) [.int (2 : Int32), .int (0 : Int32), .int (1 : Int32), .int (12 : Int32), .int (20 : Int32)] 74 rfl (ok0 hC) (ce_0 hC _) (ci := 6) rfl (fun r_ hr_ => c0n_X6_setLine hC hr_) gL_voices_X6_setLine rfl (by decide) (by decide) (n := 5) rfl (Nat.le_of_ble_eq_true rfl) (by decide) (by decide) rfl dL_voices_71 (fun r_71 => ?_)
              refine sm_iconst (x := (1 : Int32)) hG 75 rfl dL_voices_74 rfl ?_
              refine sm_icmp_ne hG 217 78 rfl dL_voices_75 (by decide) ?_ ?_
              · refine sm_iconst (x := (0 : Int32)) hG 218 rfl dL_voices_217 rfl ?_
                exact sm_bret hG hT (by decide) dL_voices_218 rfl
              · refine sm_aload_n hG 79 rfl dL_voices_78 rfl 0 rfl ?_
                refine sm_iconst (x := (3 : Int32)) hG 80 rfl dL_voices_79 rfl ?_
                refine sm_iconst (x := (0 : Int32)) hG 81 rfl dL_voices_80 rfl ?_
                refine sm_iconst (x := (1 : Int32)) hG 82 rfl dL_voices_81 rfl ?_
                refine sm_bipush (x := (12 : Int32)) hG 84 rfl dL_voices_82 rfl ?_
                refine sm_bipush (x := (20 : Int32)) hG 86 rfl dL_voices_84 rfl ?_
                refine sm_callV hG (fun (q : Int32 × mC) => (some (Value.int q.1), q.2)) (0, 0, 0) [.int (3 : Int32), .int (0 : Int32), .int (1 : Int32), .int (12 : Int32), .int (20 : Int32)] 89 rfl (ok0 hC) (ce_0 hC _) (ci := 6) rfl (fun r_ hr_ => c0n_X6_setLine hC hr_) gL_voices_X6_setLine rfl (by decide) (by decide) (n := 5) rfl (Nat.le_of_ble_eq_true rfl) (by decide) (by decide) rfl dL_voices_86 (fun r_86 => ?_)
                refine sm_iconst (x := (1 : Int32)) hG 90 rfl dL_voices_89 rfl ?_
                refine sm_icmp_ne hG 217 93 rfl dL_voices_90 (by decide) ?_ ?_
                · refine sm_iconst (x := (0 : Int32)) hG 218 rfl dL_voices_217 rfl ?_
                  exact sm_bret hG hT (by decide) dL_voices_218 rfl
                · refine sm_aload_n hG 94 rfl dL_voices_93 rfl 0 rfl ?_
                  refine sm_iconst (x := (4 : Int32)) hG 95 rfl dL_voices_94 rfl ?_
                  refine sm_iconst (x := (0 : Int32)) hG 96 rfl dL_voices_95 rfl ?_
                  refine sm_iconst (x := (1 : Int32)) hG 97 rfl dL_voices_96 rfl ?_
                  refine sm_iconst (x := (0 : Int32)) hG 98 rfl dL_voices_97 rfl ?_
                  refine sm_bipush (x := (18 : Int32)) hG 100 rfl dL_voices_98 rfl ?_
                  refine sm_callV hG (fun (q : Int32 × mC) => (some (Value.int q.1), q.2)) (0, 0, 0) [.int (4 : Int32), .int (0 : Int32), .int (1 : Int32), .int (0 : Int32), .int (18 : Int32)] 103 rfl (ok0 hC) (ce_0 hC _) (ci := 6) rfl (fun r_ hr_ => c0n_X6_setLine hC hr_) gL_voices_X6_setLine rfl (by decide) (by decide) (n := 5) rfl (Nat.le_of_ble_eq_true rfl) (by decide) (by decide) rfl dL_voices_100 (fun r_100 => ?_)
                  refine sm_iconst (x := (1 : Int32)) hG 104 rfl dL_voices_103 rfl ?_
                  refine sm_icmp_ne hG 217 107 rfl dL_voices_104 (by decide) ?_ ?_
                  · refine sm_iconst (x := (0 : Int32)) hG 218 rfl dL_voices_217 rfl ?_
                    exact sm_bret hG hT (by decide) dL_voices_218 rfl
                  · refine sm_aload_n hG 108 rfl dL_voices_107 rfl 0 rfl ?_
                    refine sm_iconst (x := (4 : Int32)) hG 109 rfl dL_voices_108 rfl ?_
                    refine sm_iconst (x := (1 : Int32)) hG 110 rfl dL_voices_109 rfl ?_
                    refine sm_iconst (x := (1 : Int32)) hG 111 rfl dL_voices_110 rfl ?_
                    refine sm_iconst (x := (0 : Int32)) hG 112 rfl dL_voices_111 rfl ?_
                    refine sm_bipush (x := (19 : Int32)) hG 114 rfl dL_voices_112 rfl ?_
                    refine sm_callV hG (fun (q : Int32 × mC) => (some (Value.int q.1), q.2)) (0, 0, 0) [.int (4 : Int32), .int (1 : Int32), .int (1 : Int32), .int (0 : Int32), .int (19 : Int32)] 117 rfl (ok0 hC) (ce_0 hC _) (ci := 6) rfl (fun r_ hr_ => c0n_X6_setLine hC hr_) gL_voices_X6_setLine rfl (by decide) (by decide) (n := 5) rfl (Nat.le_of_ble_eq_true rfl) (by decide) (by decide) rfl dL_voices_114 (fun r_114 => ?_)
                    refine sm_iconst (x := (2 : Int32)) hG 118 rfl dL_voices_117 rfl ?_
                    refine sm_icmp_ne hG 217 121 rfl dL_voices_118 (by decide) ?_ ?_
                    · refine sm_iconst (x := (0 : Int32)) hG 218 rfl dL_voices_217 rfl ?_
                      exact sm_bret hG hT (by decide) dL_voices_218 rfl
                    · refine sm_aload_n hG 122 rfl dL_voices_121 rfl 0 rfl ?_
                      refine sm_iconst (x := (2 : Int32)) hG 123 rfl dL_voices_122 rfl ?_
                      refine sm_iconst (x := (0 : Int32)) hG 124 rfl dL_voices_123 rfl ?_
                      refine sm_iconst (x := (0 : Int32)) hG 125 rfl dL_voices_124 rfl ?_
                      refine sm_callV hG (fun (q : Int32 × mC) => (some (Value.int q.1), q.2)) (0, 0, 0) [.int (2 : Int32), .int (0 : Int32), .int (0 : Int32)] 128 rfl (ok0 hC) (ce_0 hC _) (ci := 6) rfl (fun r_ hr_ => c0n_X6_whyNot hC hr_) gL_voices_X6_whyNot rfl (by decide) (by decide) (n := 3) rfl (Nat.le_of_ble_eq_true rfl) (by decide) (by decide) rfl dL_voices_125 (fun r_125 => ?_)
                      refine sm_iconst (x := (4 : Int32)) hG 129 rfl dL_voices_128 rfl ?_
                      refine sm_icmp_ne hG 217 132 rfl dL_voices_129 (by decide) ?_ ?_
                      · refine sm_iconst (x := (0 : Int32)) hG 218 rfl dL_voices_217 rfl ?_
                        exact sm_bret hG hT (by decide) dL_voices_218 rfl
                      · refine sm_aload_n hG 133 rfl dL_voices_132 rfl 0 rfl ?_
                        refine sm_iconst (x := (3 : Int32)) hG 134 rfl dL_voices_133 rfl ?_
                        refine sm_iconst (x := (0 : Int32)) hG 135 rfl dL_voices_134 rfl ?_
                        refine sm_iconst (x := (0 : Int32)) hG 136 rfl dL_voices_135 rfl ?_
                        refine sm_callV hG (fun (q : Int32 × mC) => (some (Value.int q.1), q.2)) (0, 0, 0) [.int (3 : Int32), .int (0 : Int32), .int (0 : Int32)] 139 rfl (ok0 hC) (ce_0 hC _) (ci := 6) rfl (fun r_ hr_ => c0n_X6_whyNot hC hr_) gL_voices_X6_whyNot rfl (by decide) (by decide) (n := 3) rfl (Nat.le_of_ble_eq_true rfl) (by decide) (by decide) rfl dL_voices_136 (fun r_136 => ?_)
                        refine sm_iconst (x := (4 : Int32)) hG 140 rfl dL_voices_139 rfl ?_
                        refine sm_icmp_ne hG 217 143 rfl dL_voices_140 (by decide) ?_ ?_
                        · refine sm_iconst (x := (0 : Int32)) hG 218 rfl dL_voices_217 rfl ?_
                          exact sm_bret hG hT (by decide) dL_voices_218 rfl
                        · refine sm_aload_n hG 144 rfl dL_voices_143 rfl 0 rfl ?_
                          refine sm_iconst (x := (4 : Int32)) hG 145 rfl dL_voices_144 rfl ?_
                          refine sm_iconst (x := (0 : Int32)) hG 146 rfl dL_voices_145 rfl ?_
                          refine sm_iconst (x := (0 : Int32)) hG 147 rfl dL_voices_146 rfl ?_
                          refine sm_callV hG (fun (q : Int32 × mC) => (some (Value.int q.1), q.2)) (0, 0, 0) [.int (4 : Int32), .int (0 : Int32), .int (0 : Int32)] 150 rfl (ok0 hC) (ce_0 hC _) (ci := 6) rfl (fun r_ hr_ => c0n_X6_whyNot hC hr_) gL_voices_X6_whyNot rfl (by decide) (by decide) (n := 3) rfl (Nat.le_of_ble_eq_true rfl) (by decide) (by decide) rfl dL_voices_147 (fun r_147 => ?_)
                          refine sm_if_ne hG 217 153 rfl dL_voices_150 (by decide) ?_ ?_
                          · refine sm_iconst (x := (0 : Int32)) hG 218 rfl dL_voices_217 rfl ?_
                            exact sm_bret hG hT (by decide) dL_voices_218 rfl
                          · refine sm_aload_n hG 154 rfl dL_voices_153 rfl 0 rfl ?_
                            refine sm_iconst (x := (4 : Int32)) hG 155 rfl dL_voices_154 rfl ?_
                            refine sm_iconst (x := (0 : Int32)) hG 156 rfl dL_voices_155 rfl ?_
                            refine sm_iconst (x := (1 : Int32)) hG 157 rfl dL_voices_156 rfl ?_
                            refine sm_callV hG (fun (q : Int32 × mC) => (some (Value.int q.1), q.2)) (0, 0, 0) [.int (4 : Int32), .int (0 : Int32), .int (1 : Int32)] 160 rfl (ok0 hC) (ce_0 hC _) (ci := 6) rfl (fun r_ hr_ => c0n_X6_whyNot hC hr_) gL_voices_X6_whyNot rfl (by decide) (by decide) (n := 3) rfl (Nat.le_of_ble_eq_true rfl) (by decide) (by decide) rfl dL_voices_157 (fun r_157 => ?_)
                            refine sm_bipush (x := (6 : Int32)) hG 162 rfl dL_voices_160 rfl ?_
                            refine sm_icmp_ne hG 217 165 rfl dL_voices_162 (by decide) ?_ ?_
                            · refine sm_iconst (x := (0 : Int32)) hG 218 rfl dL_voices_217 rfl ?_
                              exact sm_bret hG hT (by decide) dL_voices_218 rfl
                            · refine sm_aload_n hG 166 rfl dL_voices_165 rfl 0 rfl ?_
                              refine sm_iconst (x := (4 : Int32)) hG 167 rfl dL_voices_166 rfl ?_
                              refine sm_iconst (x := (1 : Int32)) hG 168 rfl dL_voices_167 rfl ?_
                              refine sm_iconst (x := (0 : Int32)) hG 169 rfl dL_voices_168 rfl ?_
                              refine sm_callV hG (fun (q : Int32 × mC) => (some (Value.int q.1), q.2)) (0, 0, 0) [.int (4 : Int32), .int (1 : Int32), .int (0 : Int32)] 172 rfl (ok0 hC) (ce_0 hC _) (ci := 6) rfl (fun r_ hr_ => c0n_X6_whyNot hC hr_) gL_voices_X6_whyNot rfl (by decide) (by decide) (n := 3) rfl (Nat.le_of_ble_eq_true rfl) (by decide) (by decide) rfl dL_voices_169 (fun r_169 => ?_)
                              refine sm_iconst (x := (5 : Int32)) hG 173 rfl dL_voices_172 rfl ?_
                              refine sm_icmp_ne hG 217 176 rfl dL_voices_173 (by decide) ?_ ?_
                              · refine sm_iconst (x := (0 : Int32)) hG 218 rfl dL_voices_217 rfl ?_
                                exact sm_bret hG hT (by decide) dL_voices_218 rfl
                              · refine sm_aload_n hG 177 rfl dL_voices_176 rfl 0 rfl ?_
                                refine sm_iconst (x := (2 : Int32)) hG 178 rfl dL_voices_177 rfl ?_
                                refine sm_iconst (x := (-1 : Int32)) hG 179 rfl dL_voices_178 rfl ?_
                                refine sm_iconst (x := (0 : Int32)) hG 180 rfl dL_voices_179 rfl ?_
                                refine sm_iconst (x := (-1 : Int32)) hG 181 rfl dL_voices_180 rfl ?_
                                refine sm_callS hG (fun (q : Int32 × mC) => (some (Value.int q.1), q.2)) [.ref (Λ.2.2.2.1 (0, 0, 0)), .int (2 : Int32), .int (-1 : Int32), .int (0 : Int32), .int (-1 : Int32)] 184 rfl (fun r_ hr_ => c_L_lines hC   hr_) gL_voices_L_lines rfl (by decide) (by decide) (n := 5) rfl (Nat.le_of_ble_eq_true rfl) (by decide) (by decide) rfl dL_voices_181 (fun r_181 => ?_)
                                refine sm_if_eq hG 217 187 rfl dL_voices_184 (by decide) ?_ ?_
                                · refine sm_iconst (x := (0 : Int32)) hG 218 rfl dL_voices_217 rfl ?_
                                  exact sm_bret hG hT (by decide) dL_voices_218 rfl
                                · refine sm_aload_n hG 188 rfl dL_voices_187 rfl 0 rfl ?_
                                  refine sm_iconst (x := (4 : Int32)) hG 189 rfl dL_voices_188 rfl ?_
                                  refine sm_iconst (x := (0 : Int32)) hG 190 rfl dL_voices_189 rfl ?_
                                  refine sm_iconst (x := (-1 : Int32)) hG 191 rfl dL_voices_190 rfl ?_
                                  refine sm_iconst (x := (-1 : Int32)) hG 192 rfl dL_voices_191 rfl ?_
                                  refine sm_callS hG (fun (q : Int32 × mC) => (some (Value.int q.1), q.2)) [.ref (Λ.2.2.2.1 (0, 0, 0)), .int (4 : Int32), .int (0 : Int32), .int (-1 : Int32), .int (-1 : Int32)] 195 rfl (fun r_ hr_ => c_L_lines hC   hr_) gL_voices_L_lines rfl (by decide) (by decide) (n := 5) rfl (Nat.le_of_ble_eq_true rfl) (by decide) (by decide) rfl dL_voices_192 (fun r_192 => ?_)
                                  refine sm_if_eq hG 217 198 rfl dL_voices_195 (by decide) ?_ ?_
                                  · refine sm_iconst (x := (0 : Int32)) hG 218 rfl dL_voices_217 rfl ?_
                                    exact sm_bret hG hT (by decide) dL_voices_218 rfl
                                  · refine sm_aload_n hG 199 rfl dL_voices_198 rfl 0 rfl ?_
                                    refine sm_iconst (x := (4 : Int32)) hG 200 rfl dL_voices_199 rfl ?_
                                    refine sm_iconst (x := (1 : Int32)) hG 201 rfl dL_voices_200 rfl ?_
                                    refine sm_iconst (x := (1 : Int32)) hG 202 rfl dL_voices_201 rfl ?_
                                    refine sm_iconst (x := (0 : Int32)) hG 203 rfl dL_voices_202 rfl ?_
                                    refine sm_callS hG (fun (q : Int32 × mC) => (some (Value.int q.1), q.2)) [.ref (Λ.2.2.2.1 (0, 0, 0)), .int (4 : Int32), .int (1 : Int32), .int (1 : Int32), .int (0 : Int32)] 206 rfl (fun r_ hr_ => c_L_told hC   hr_) gL_voices_L_told rfl (by decide) (by decide) (n := 5) rfl (Nat.le_of_ble_eq_true rfl) (by decide) (by decide) rfl dL_voices_203 (fun r_203 => ?_)
                                    refine sm_if_eq hG 217 209 rfl dL_voices_206 (by decide) ?_ ?_
                                    · refine sm_iconst (x := (0 : Int32)) hG 218 rfl dL_voices_217 rfl ?_
                                      exact sm_bret hG hT (by decide) dL_voices_218 rfl
                                    · refine sm_aload_n hG 210 rfl dL_voices_209 rfl 0 rfl ?_
                                      refine sm_callV hG (fun (q : Int32 × mC) => (some (Value.int q.1), q.2)) (0, 0, 0) [] 213 rfl (ok0 hC) (ce_0 hC _) (ci := 6) rfl (fun r_ hr_ => c_X6_firstShortFeast hC   hr_) gL_voices_X6_firstShortFeast rfl (by decide) (by decide) (n := 0) rfl (Nat.le_of_ble_eq_true rfl) (by decide) (by decide) rfl dL_voices_210 (fun r_210 => ?_)
                                      refine sm_iconst (x := (4 : Int32)) hG 214 rfl dL_voices_213 rfl ?_
                                      refine sm_icmp_eq hG 219 217 rfl dL_voices_214 (by decide) ?_ ?_
                                      · refine sm_aload_n hG 220 rfl dL_voices_219 rfl 0 rfl ?_
                                        refine sm_iconst (x := (1 : Int32)) hG 221 rfl dL_voices_220 rfl ?_
                                        refine sm_callV hG (fun (q : Int32 × mC) => (some (Value.int q.1), q.2)) (0, 0, 0) [.int (1 : Int32)] 224 rfl (ok0 hC) (ce_0 hC _) (ci := 6) rfl (fun r_ hr_ => c0n_X6_passDays hC hr_) gL_voices_X6_passDays rfl (by decide) (by decide) (n := 1) rfl (Nat.le_of_ble_eq_true rfl) (by decide) (by decide) rfl dL_voices_221 (fun r_221 => ?_)
                                        refine sm_iconst (x := (1 : Int32)) hG 225 rfl dL_voices_224 rfl ?_
                                        refine sm_icmp_ne hG 371 228 rfl dL_voices_225 (by decide) ?_ ?_
                                        · refine sm_iconst (x := (0 : Int32)) hG 372 rfl dL_voices_371 rfl ?_
                                          exact sm_bret hG hT (by decide) dL_voices_372 rfl
                                        · refine sm_aload_n hG 229 rfl dL_voices_228 rfl 0 rfl ?_
                                          refine sm_iconst (x := (0 : Int32)) hG 230 rfl dL_voices_229 rfl ?_
                                          refine sm_callV hG (fun (q : Int32 × mC) => (some (Value.int q.1), q.2)) (0, 0, 0) [.int (0 : Int32)] 233 rfl (ok0 hC) (ce_0 hC _) (ci := 6) rfl (fun r_ hr_ => c0n_X6_ageOf hC hr_) gL_voices_X6_ageOf rfl (by decide) (by decide) (n := 1) rfl (Nat.le_of_ble_eq_true rfl) (by decide) (by decide) rfl dL_voices_230 (fun r_230 => ?_)
                                          refine sm_bipush (x := (13 : Int32)) hG 235 rfl dL_voices_233 rfl ?_
                                          refine sm_icmp_ne hG 371 238 rfl dL_voices_235 (by decide) ?_ ?_
                                          · refine sm_iconst (x := (0 : Int32)) hG 372 rfl dL_voices_371 rfl ?_
                                            exact sm_bret hG hT (by decide) dL_voices_372 rfl
                                          · refine sm_aload_n hG 239 rfl dL_voices_238 rfl 0 rfl ?_
                                            refine sm_callV hG (fun (q : Int32) => (some (Value.int q), r_230.2)) (0, 0, 0) [] 242 rfl (ok0 hC) (ce_0 hC _) (ci := 6) rfl (fun r_ hr_ => c_X6_nextToBreak hC   hr_) gL_voices_X6_nextToBreak rfl (by decide) (by decide) (n := 0) rfl (Nat.le_of_ble_eq_true rfl) (by decide) (by decide) rfl dL_voices_239 (fun r_239 => ?_)
                                            refine sm_iconst (x := (-1 : Int32)) hG 243 rfl dL_voices_242 rfl ?_
                                            refine sm_icmp_ne hG 371 246 rfl dL_voices_243 (by decide) ?_ ?_
                                            · refine sm_iconst (x := (0 : Int32)) hG 372 rfl dL_voices_371 rfl ?_
                                              exact sm_bret hG hT (by decide) dL_voices_372 rfl
                                            · refine sm_aload_n hG 247 rfl dL_voices_246 rfl 0 rfl ?_
                                              refine sm_iconst (x := (0 : Int32)) hG 248 rfl dL_voices_247 rfl ?_
                                              refine sm_callV hG (fun (q : Int32 × mC) => (some (Value.int q.1), q.2)) (0, 0, 0) [.int (0 : Int32)] 251 rfl (ok0 hC) (ce_0 hC _) (ci := 6) rfl (fun r_ hr_ => c0n_X6_lowestNoteOf hC hr_) gL_voices_X6_lowestNoteOf rfl (by decide) (by decide) (n := 1) rfl (Nat.le_of_ble_eq_true rfl) (by decide) (by decide) rfl dL_voices_248 (fun r_248 => ?_)
                                              refine sm_bipush (x := (10 : Int32)) hG 253 rfl dL_voices_251 rfl ?_
                                              refine sm_icmp_ne hG 371 256 rfl dL_voices_253 (by decide) ?_ ?_
                                              · refine sm_iconst (x := (0 : Int32)) hG 372 rfl dL_voices_371 rfl ?_
                                                exact sm_bret hG hT (by decide) dL_voices_372 rfl
                                              · refine sm_aload_n hG 257 rfl dL_voices_256 rfl 0 rfl ?_
                                                refine sm_iconst (x := (0 : Int32)) hG 258 rfl dL_voices_257 rfl ?_
                                                refine sm_callV hG (fun (q : Int32 × mC) => (some (Value.int q.1), q.2)) (0, 0, 0) [.int (0 : Int32)] 261 rfl (ok0 hC) (ce_0 hC _) (ci := 6) rfl (fun r_ hr_ => c0n_X6_highestNoteOf hC hr_) gL_voices_X6_highestNoteOf rfl (by decide) (by decide) (n := 1) rfl (Nat.le_of_ble_eq_true rfl) (by decide) (by decide) rfl dL_voices_258 (fun r_258 => ?_)
                                                refine sm_bipush (x := (30 : Int32)) hG 263 rfl dL_voices_261 rfl ?_
                                                refine sm_icmp_ne hG 371 266 rfl dL_voices_263 (by decide) ?_ ?_
                                                · refine sm_iconst (x := (0 : Int32)) hG 372 rfl dL_voices_371 rfl ?_
                                                  exact sm_bret hG hT (by decide) dL_voices_372 rfl
                                                · refine sm_aload_n hG 267 rfl dL_voices_266 rfl 0 rfl ?_
                                                  refine sm_bipush (x := (89 : Int32)) hG 269 rfl dL_voices_267 rfl ?_
                                                  refine sm_callV hG (fun (q : Int32 × mC) => (some (Value.int q.1), q.2)) (0, 0, 0) [.int (89 : Int32)] 272 rfl (ok0 hC) (ce_0 hC _) (ci := 6) rfl (fun r_ hr_ => c0n_X6_passDays hC hr_) gL_voices_X6_passDays rfl (by decide) (by decide) (n := 1) rfl (Nat.le_of_ble_eq_true rfl) (by decide) (by decide) rfl dL_voices_269 (fun r_269 => ?_)
                                                  refine sm_iconst (x := (1 : Int32)) hG 273 rfl dL_voices_272 rfl ?_
                                                  refine sm_icmp_ne hG 371 276 rfl dL_voices_273 (by decide) ?_ ?_
                                                  · refine sm_iconst (x := (0 : Int32)) hG 372 rfl dL_voices_371 rfl ?_
                                                    exact sm_bret hG hT (by decide) dL_voices_372 rfl
                                                  · refine sm_aload_n hG 277 rfl dL_voices_276 rfl 0 rfl ?_
                                                    refine sm_iconst (x := (0 : Int32)) hG 278 rfl dL_voices_277 rfl ?_
                                                    refine sm_callV hG (fun (q : Int32 × mC) => (some (Value.int q.1), q.2)) (0, 0, 0) [.int (0 : Int32)] 281 rfl (ok0 hC) (ce_0 hC _) (ci := 6) rfl (fun r_ hr_ => c0n_X6_lowestNoteOf hC hr_) gL_voices_X6_lowestNoteOf rfl (by decide) (by decide) (n := 1) rfl (Nat.le_of_ble_eq_true rfl) (by decide) (by decide) rfl dL_voices_278 (fun r_278 => ?_)
                                                    refine sm_bipush (x := (10 : Int32)) hG 283 rfl dL_voices_281 rfl ?_
                                                    refine sm_icmp_ne hG 371 286 rfl dL_voices_283 (by decide) ?_ ?_
                                                    · refine sm_iconst (x := (0 : Int32)) hG 372 rfl dL_voices_371 rfl ?_
                                                      exact sm_bret hG hT (by decide) dL_voices_372 rfl
                                                    · refine sm_aload_n hG 287 rfl dL_voices_286 rfl 0 rfl ?_
                                                      refine sm_iconst (x := (1 : Int32)) hG 288 rfl dL_voices_287 rfl ?_
                                                      refine sm_callV hG (fun (q : Int32 × mC) => (some (Value.int q.1), q.2)) (0, 0, 0) [.int (1 : Int32)] 291 rfl (ok0 hC) (ce_0 hC _) (ci := 6) rfl (fun r_ hr_ => c0n_X6_passDays hC hr_) gL_voices_X6_passDays rfl (by decide) (by decide) (n := 1) rfl (Nat.le_of_ble_eq_true rfl) (by decide) (by decide) rfl dL_voices_288 (fun r_288 => ?_)
                                                      refine sm_iconst (x := (1 : Int32)) hG 292 rfl dL_voices_291 rfl ?_
                                                      refine sm_icmp_ne hG 371 295 rfl dL_voices_292 (by decide) ?_ ?_
                                                      · refine sm_iconst (x := (0 : Int32)) hG 372 rfl dL_voices_371 rfl ?_
                                                        exact sm_bret hG hT (by decide) dL_voices_372 rfl
                                                      · refine sm_aload_n hG 296 rfl dL_voices_295 rfl 0 rfl ?_
                                                        refine sm_iconst (x := (0 : Int32)) hG 297 rfl dL_voices_296 rfl ?_
                                                        refine sm_callV hG (fun (q : Int32 × mC) => (some (Value.int q.1), q.2)) (0, 0, 0) [.int (0 : Int32)] 300 rfl (ok0 hC) (ce_0 hC _) (ci := 6) rfl (fun r_ hr_ => c0n_X6_lowestNoteOf hC hr_) gL_voices_X6_lowestNoteOf rfl (by decide) (by decide) (n := 1) rfl (Nat.le_of_ble_eq_true rfl) (by decide) (by decide) rfl dL_voices_297 (fun r_297 => ?_)
                                                        refine sm_if_ne hG 371 303 rfl dL_voices_300 (by decide) ?_ ?_
                                                        · refine sm_iconst (x := (0 : Int32)) hG 372 rfl dL_voices_371 rfl ?_
                                                          exact sm_bret hG hT (by decide) dL_voices_372 rfl
                                                        · refine sm_aload_n hG 304 rfl dL_voices_303 rfl 0 rfl ?_
                                                          refine sm_iconst (x := (0 : Int32)) hG 305 rfl dL_voices_304 rfl ?_
                                                          refine sm_callV hG (fun (q : Int32 × mC) => (some (Value.int q.1), q.2)) (0, 0, 0) [.int (0 : Int32)] 308 rfl (ok0 hC) (ce_0 hC _) (ci := 6) rfl (fun r_ hr_ => c0n_X6_highestNoteOf hC hr_) gL_voices_X6_highestNoteOf rfl (by decide) (by decide) (n := 1) rfl (Nat.le_of_ble_eq_true rfl) (by decide) (by decide) rfl dL_voices_305 (fun r_305 => ?_)
                                                          refine sm_bipush (x := (18 : Int32)) hG 310 rfl dL_voices_308 rfl ?_
                                                          refine sm_icmp_ne hG 371 313 rfl dL_voices_310 (by decide) ?_ ?_
                                                          · refine sm_iconst (x := (0 : Int32)) hG 372 rfl dL_voices_371 rfl ?_
                                                            exact sm_bret hG hT (by decide) dL_voices_372 rfl
                                                          · refine sm_aload_n hG 314 rfl dL_voices_313 rfl 0 rfl ?_
                                                            refine sm_iconst (x := (0 : Int32)) hG 315 rfl dL_voices_314 rfl ?_
                                                            refine sm_callV hG (fun (q : Int32 × mC) => (some (Value.int q.1), q.2)) (0, 0, 0) [.int (0 : Int32)] 318 rfl (ok0 hC) (ce_0 hC _) (ci := 6) rfl (fun r_ hr_ => c0n_X6_breakDayOf hC hr_) gL_voices_X6_breakDayOf rfl (by decide) (by decide) (n := 1) rfl (Nat.le_of_ble_eq_true rfl) (by decide) (by decide) rfl dL_voices_315 (fun r_315 => ?_)
                                                            refine sm_sipush (x := (1080 : Int32)) hG 321 rfl dL_voices_318 rfl ?_
                                                            refine sm_icmp_ne hG 371 324 rfl dL_voices_321 (by decide) ?_ ?_
                                                            · refine sm_iconst (x := (0 : Int32)) hG 372 rfl dL_voices_371 rfl ?_
                                                              exact sm_bret hG hT (by decide) dL_voices_372 rfl
                                                            · refine sm_aload_n hG 325 rfl dL_voices_324 rfl 0 rfl ?_
                                                              refine sm_iconst (x := (1 : Int32)) hG 326 rfl dL_voices_325 rfl ?_
                                                              refine sm_callV hG (fun (q : Int32 × mC) => (some (Value.int q.1), q.2)) (0, 0, 0) [.int (1 : Int32)] 329 rfl (ok0 hC) (ce_0 hC _) (ci := 6) rfl (fun r_ hr_ => c0n_X6_feastsOf hC hr_) gL_voices_X6_feastsOf rfl (by decide) (by decide) (n := 1) rfl (Nat.le_of_ble_eq_true rfl) (by decide) (by decide) rfl dL_voices_326 (fun r_326 => ?_)
                                                              refine sm_iconst (x := (2 : Int32)) hG 330 rfl dL_voices_329 rfl ?_
                                                              refine sm_icmp_ne hG 371 333 rfl dL_voices_330 (by decide) ?_ ?_
                                                              · refine sm_iconst (x := (0 : Int32)) hG 372 rfl dL_voices_371 rfl ?_
                                                                exact sm_bret hG hT (by decide) dL_voices_372 rfl
                                                              · refine sm_aload_n hG 334 rfl dL_voices_333 rfl 0 rfl ?_
                                                                refine sm_iconst (x := (1 : Int32)) hG 335 rfl dL_voices_334 rfl ?_
                                                                refine sm_callV hG (fun (q : Int32 × mC) => (some (Value.int q.1), q.2)) (0, 0, 0) [.int (1 : Int32)] 338 rfl (ok0 hC) (ce_0 hC _) (ci := 6) rfl (fun r_ hr_ => c0n_X6_descantsOf hC hr_) gL_voices_X6_descantsOf rfl (by decide) (by decide) (n := 1) rfl (Nat.le_of_ble_eq_true rfl) (by decide) (by decide) rfl dL_voices_335 (fun r_335 => ?_)
                                                                refine sm_iconst (x := (2 : Int32)) hG 339 rfl dL_voices_338 rfl ?_
                                                                refine sm_icmp_ne hG 371 342 rfl dL_voices_339 (by decide) ?_ ?_
                                                                · refine sm_iconst (x := (0 : Int32)) hG 372 rfl dL_voices_371 rfl ?_
                                                                  exact sm_bret hG hT (by decide) dL_voices_372 rfl
                                                                · refine sm_aload_n hG 343 rfl dL_voices_342 rfl 0 rfl ?_
                                                                  refine sm_iconst (x := (0 : Int32)) hG 344 rfl dL_voices_343 rfl ?_
                                                                  refine sm_callV hG (fun (q : Int32 × mC) => (some (Value.int q.1), q.2)) (0, 0, 0) [.int (0 : Int32)] 347 rfl (ok0 hC) (ce_0 hC _) (ci := 6) rfl (fun r_ hr_ => c0n_X6_descantsOf hC hr_) gL_voices_X6_descantsOf rfl (by decide) (by decide) (n := 1) rfl (Nat.le_of_ble_eq_true rfl) (by decide) (by decide) rfl dL_voices_344 (fun r_344 => ?_)
                                                                  refine sm_iconst (x := (1 : Int32)) hG 348 rfl dL_voices_347 rfl ?_
                                                                  refine sm_icmp_ne hG 371 351 rfl dL_voices_348 (by decide) ?_ ?_
                                                                  · refine sm_iconst (x := (0 : Int32)) hG 372 rfl dL_voices_371 rfl ?_
                                                                    exact sm_bret hG hT (by decide) dL_voices_372 rfl
                                                                  · refine sm_aload_n hG 352 rfl dL_voices_351 rfl 0 rfl ?_
                                                                    refine sm_bipush (x := (82 : Int32)) hG 354 rfl dL_voices_352 rfl ?_
                                                                    refine sm_iconst (x := (5 : Int32)) hG 355 rfl dL_voices_354 rfl ?_
                                                                    refine sm_iconst (x := (4 : Int32)) hG 356 rfl dL_voices_355 rfl ?_
                                                                    refine sm_bipush (x := (9 : Int32)) hG 358 rfl dL_voices_356 rfl ?_
                                                                    refine sm_callS hG (fun (q : Int32 × mC) => (some (Value.int q.1), q.2)) [.ref (Λ.2.2.2.1 (0, 0, 0)), .int (82 : Int32), .int (5 : Int32), .int (4 : Int32), .int (9 : Int32)] 361 rfl (fun r_ hr_ => c_L_accounts hC   hr_) gL_voices_L_accounts rfl (by decide) (by decide) (n := 5) rfl (Nat.le_of_ble_eq_true rfl) (by decide) (by decide) rfl dL_voices_358 (fun r_358 => ?_)
                                                                    refine sm_if_eq hG 371 364 rfl dL_voices_361 (by decide) ?_ ?_
                                                                    · refine sm_iconst (x := (0 : Int32)) hG 372 rfl dL_voices_371 rfl ?_
                                                                      exact sm_bret hG hT (by decide) dL_voices_372 rfl
                                                                    · refine sm_aload_n hG 365 rfl dL_voices_364 rfl 0 rfl ?_
                                                                      refine sm_callS2 hG (fun (q : Int32 × mC) => (some (Value.int q.1), q.2)) [.ref (Λ.2.2.2.1 (0, 0, 0))] 368 rfl (fun r_ hr_ => c_L_refused hC  hfl hX hr_) gL_voices_L_refused rfl (by decide) (by decide) (n := 1) rfl (Nat.le_of_ble_eq_true rfl) (740, 4440) ⟨rfl, rfl⟩ (by decide) rfl dL_voices_365 (fun r_365 => ?_)
                                                                      refine sm_if_ne hG 373 371 rfl dL_voices_368 (by decide) ?_ ?_
                                                                      · refine sm_aload_n hG 374 rfl dL_voices_373 rfl 0 rfl ?_
                                                                        refine sm_callV hG (fun (q : Int32 × mC) => (some (Value.int q.1), q.2)) (0, 0, 0) [] 377 rfl (ok0 hC) (ce_0 hC _) (ci := 6) rfl (fun r_ hr_ => c0n_X6_restoreSnapshot hC hr_) gL_voices_X6_restoreSnapshot rfl (by decide) (by decide) (n := 0) rfl (Nat.le_of_ble_eq_true rfl) (by decide) (by decide) rfl dL_voices_374 (fun r_374 => ?_)
                                                                        refine sm_if_ne hG 453 380 rfl dL_voices_377 (by decide) ?_ ?_
                                                                        · refine sm_iconst (x := (0 : Int32)) hG 454 rfl dL_voices_453 rfl ?_
                                                                          exact sm_bret hG hT (by decide) dL_voices_454 rfl
                                                                        · refine sm_aload_n hG 381 rfl dL_voices_380 rfl 0 rfl ?_
                                                                          refine sm_bipush (x := (90 : Int32)) hG 383 rfl dL_voices_381 rfl ?_
                                                                          refine sm_iconst (x := (0 : Int32)) hG 384 rfl dL_voices_383 rfl ?_
                                                                          refine sm_iconst (x := (0 : Int32)) hG 385 rfl dL_voices_384 rfl ?_
                                                                          refine sm_iconst (x := (0 : Int32)) hG 386 rfl dL_voices_385 rfl ?_
                                                                          refine sm_callS hG (fun (q : Int32 × mC) => (some (Value.int q.1), q.2)) [.ref (Λ.2.2.2.1 (0, 0, 0)), .int (90 : Int32), .int (0 : Int32), .int (0 : Int32), .int (0 : Int32)] 389 rfl (fun r_ hr_ => c_L_accounts hC   hr_) gL_voices_L_accounts rfl (by decide) (by decide) (n := 5) rfl (Nat.le_of_ble_eq_true rfl) (by decide) (by decide) rfl dL_voices_386 (fun r_386 => ?_)
                                                                          refine sm_if_eq hG 453 392 rfl dL_voices_389 (by decide) ?_ ?_
                                                                          · refine sm_iconst (x := (0 : Int32)) hG 454 rfl dL_voices_453 rfl ?_
                                                                            exact sm_bret hG hT (by decide) dL_voices_454 rfl
                                                                          · refine sm_aload_n hG 393 rfl dL_voices_392 rfl 0 rfl ?_
                                                                            refine sm_iconst (x := (0 : Int32)) hG 394 rfl dL_voices_393 rfl ?_
                                                                            refine sm_iconst (x := (4 : Int32)) hG 395 rfl dL_voices_394 rfl ?_
                                                                            refine sm_iconst (x := (0 : Int32)) hG 396 rfl dL_voices_395 rfl ?_
                                                                            refine sm_iconst (x := (2 : Int32)) hG 397 rfl dL_voices_396 rfl ?_
                                                                            refine sm_callS hG (fun (q : Int32 × mC) => (some (Value.int q.1), q.2)) [.ref (Λ.2.2.2.1 (0, 0, 0)), .int (0 : Int32), .int (4 : Int32), .int (0 : Int32), .int (2 : Int32)] 400 rfl (fun r_ hr_ => c_L_told hC   hr_) gL_voices_L_told rfl (by decide) (by decide) (n := 5) rfl (Nat.le_of_ble_eq_true rfl) (by decide) (by decide) rfl dL_voices_397 (fun r_397 => ?_)
                                                                            refine sm_if_eq hG 453 403 rfl dL_voices_400 (by decide) ?_ ?_
                                                                            · refine sm_iconst (x := (0 : Int32)) hG 454 rfl dL_voices_453 rfl ?_
                                                                              exact sm_bret hG hT (by decide) dL_voices_454 rfl
                                                                            · refine sm_aload_n hG 404 rfl dL_voices_403 rfl 0 rfl ?_
                                                                              refine sm_callV hG (fun (q : Int32) => (some (Value.int q), r_397.2)) (0, 0, 0) [] 407 rfl (ok0 hC) (ce_0 hC _) (ci := 6) rfl (fun r_ hr_ => c_X6_feasts hC   hr_) gL_voices_X6_feasts rfl (by decide) (by decide) (n := 0) rfl (Nat.le_of_ble_eq_true rfl) (by decide) (by decide) rfl dL_voices_404 (fun r_404 => ?_)
                                                                              refine sm_iconst (x := (2 : Int32)) hG 408 rfl dL_voices_407 rfl ?_
                                                                              refine sm_icmp_ne hG 453 411 rfl dL_voices_408 (by decide) ?_ ?_
                                                                              · refine sm_iconst (x := (0 : Int32)) hG 454 rfl dL_voices_453 rfl ?_
                                                                                exact sm_bret hG hT (by decide) dL_voices_454 rfl
                                                                              · refine sm_aload_n hG 412 rfl dL_voices_411 rfl 0 rfl ?_
                                                                                refine sm_callV hG (fun (q : Int32) => (some (Value.int q), r_397.2)) (0, 0, 0) [] 415 rfl (ok0 hC) (ce_0 hC _) (ci := 6) rfl (fun r_ hr_ => c_X6_recordedStates hC   hr_) gL_voices_X6_recordedStates rfl (by decide) (by decide) (n := 0) rfl (Nat.le_of_ble_eq_true rfl) (by decide) (by decide) rfl dL_voices_412 (fun r_412 => ?_)
                                                                                refine sm_iconst (x := (4 : Int32)) hG 416 rfl dL_voices_415 rfl ?_
                                                                                refine sm_icmp_ne hG 453 419 rfl dL_voices_416 (by decide) ?_ ?_
                                                                                · refine sm_iconst (x := (0 : Int32)) hG 454 rfl dL_voices_453 rfl ?_
                                                                                  exact sm_bret hG hT (by decide) dL_voices_454 rfl
                                                                                · refine sm_aload_n hG 420 rfl dL_voices_419 rfl 0 rfl ?_
                                                                                  refine sm_callV hG (fun (q : Int32 × mC) => (some (Value.int q.1), q.2)) (0, 0, 0) [] 423 rfl (ok0 hC) (ce_0 hC _) (ci := 6) rfl (fun r_ hr_ => c0n_X6_undo hC hr_) gL_voices_X6_undo rfl (by decide) (by decide) (n := 0) rfl (Nat.le_of_ble_eq_true rfl) (by decide) (by decide) rfl dL_voices_420 (fun r_420 => ?_)
                                                                                  refine sm_iconst (x := (3 : Int32)) hG 424 rfl dL_voices_423 rfl ?_
                                                                                  refine sm_icmp_ne hG 453 427 rfl dL_voices_424 (by decide) ?_ ?_
                                                                                  · refine sm_iconst (x := (0 : Int32)) hG 454 rfl dL_voices_453 rfl ?_
                                                                                    exact sm_bret hG hT (by decide) dL_voices_454 rfl
                                                                                  · refine sm_aload_n hG 428 rfl dL_voices_427 rfl 0 rfl ?_
                                                                                    refine sm_callV hG (fun (q : Int32) => (some (Value.int q), r_420.2)) (0, 0, 0) [] 431 rfl (ok0 hC) (ce_0 hC _) (ci := 6) rfl (fun r_ hr_ => c_X6_day hC   hr_) gL_voices_X6_day rfl (by decide) (by decide) (n := 0) rfl (Nat.le_of_ble_eq_true rfl) (by decide) (by decide) rfl dL_voices_428 (fun r_428 => ?_)
                                                                                    refine sm_sipush (x := (1170 : Int32)) hG 434 rfl dL_voices_431 rfl ?_
                                                                                    refine sm_icmp_ne hG 453 437 rfl dL_voices_434 (by decide) ?_ ?_
                                                                                    · refine sm_iconst (x := (0 : Int32)) hG 454 rfl dL_voices_453 rfl ?_
                                                                                      exact sm_bret hG hT (by decide) dL_voices_454 rfl
                                                                                    · refine sm_tcallS hG hC hX 440 rfl (fun r_ hr_ => t_L_turns hfl hr_) gL_voices_L_turns rfl (by decide) (by decide) (n := 0) rfl (Nat.le_of_ble_eq_true rfl) (1493, 15361) ⟨rfl, rfl⟩ (by decide) rfl dL_voices_437 (fun r_437 => ?_)
                                                                                      refine sm_if_eq hG 453 443 rfl dL_voices_440 (by decide) ?_ ?_
                                                                                      · refine sm_iconst (x := (0 : Int32)) hG 454 rfl dL_voices_453 rfl ?_
                                                                                        exact sm_bret hG hT (by decide) dL_voices_454 rfl
                                                                                      · refine sm_tcallS hG hC hX 446 rfl (fun r_ hr_ => t_L_limits hfl hr_) gL_voices_L_limits rfl (by decide) (by decide) (n := 0) rfl (Nat.le_of_ble_eq_true rfl) (3005, 30836) ⟨rfl, rfl⟩ (by decide) rfl dL_voices_443 (fun r_443 => ?_)
                                                                                        refine sm_if_eq hG 453 449 rfl dL_voices_446 (by decide) ?_ ?_
                                                                                        · refine sm_iconst (x := (0 : Int32)) hG 454 rfl dL_voices_453 rfl ?_
                                                                                          exact sm_bret hG hT (by decide) dL_voices_454 rfl
                                                                                        · refine sm_iconst (x := (1 : Int32)) hG 450 rfl dL_voices_449 rfl ?_
                                                                                          refine sm_goto hG 454 dL_voices_450 (by decide) ?_
                                                                                          exact sm_bret hG hT (by decide) dL_voices_454 rfl
                                                                      · refine sm_iconst (x := (0 : Int32)) hG 372 rfl dL_voices_371 rfl ?_
                                                                        exact sm_bret hG hT (by decide) dL_voices_372 rfl
                                      · refine sm_iconst (x := (0 : Int32)) hG 218 rfl dL_voices_217 rfl ?_
                                        exact sm_bret hG hT (by decide) dL_voices_218 rfl
abbrev rmL_choirs : Room := { frames := 18, cells := 5282, slots := 50901, locals := 404 }
set_option maxRecDepth 100000 in
set_option maxHeartbeats 4000000 in
theorem cb_L_choirs {Λ : jL kC} (hC : LC Λ) {l : Launch} (hfl : l.stackTraces = false) (hX : Xnc Λ) {v : mC} {Γ : jG (Int32 × mC)} (hG : jOk Γ Λ cL_choirs "ChoirRegisterLaw" wsL_choirs rmL_choirs) (hT : jRt Γ Λ rmL_choirs (some .boolean) (fun (q : Int32 × mC) => (some (Value.int q.1), q.2))) (hN : Γ.2.1 = 2) (hl : Γ.1.2.1 = l) : Sm Γ Λ (753, 10921) 8 [(0, .ref (Λ.2.2.2.1 (0, 0, 0)))] [] v (b_L_choirs v) := by
  subst hl
  unfold b_L_choirs
  refine sm_aload_n hG 9 rfl dL_choirs_8 rfl 0 rfl ?_
  refine sm_bipush (x := (33 : Int32)) hG 11 rfl dL_choirs_9 rfl ?_
  refine sm_iconst (x := (0 : Int32)) hG 12 rfl dL_choirs_11 rfl ?_
  refine sm_iconst (x := (0 : Int32)) hG 13 rfl dL_choirs_12 rfl ?_
  refine sm_iconst (x := (0 : Int32)) hG 14 rfl dL_choirs_13 rfl ?_
  refine sm_hcallS hG [.ref (Λ.2.2.2.1 (0, 0, 0)), .int (33 : Int32), .int (0 : Int32), .int (0 : Int32), .int (0 : Int32)] 17 rfl (fun r_ hr_ => c_L_call hC hfl hX hr_) gL_choirs_L_call rfl (by decide) (by decide) (n := 5) rfl (Nat.le_of_ble_eq_true rfl) (757, 10945) ⟨rfl, rfl⟩ (by decide) rfl dL_choirs_14 (fun r_14 => ?_)
  refine sm_sipush (x := (-2013 : Int32)) hG 20 rfl dL_choirs_17 rfl ?_
  refine sm_icmp_ne hG 276 23 rfl dL_choirs_20 (by decide) ?_ ?_
  · refine sm_iconst (x := (0 : Int32)) hG 277 rfl dL_choirs_276 rfl ?_
    exact sm_bret hG hT (by decide) dL_choirs_277 rfl
  · refine sm_aload_n hG 24 rfl dL_choirs_23 rfl 0 rfl ?_
    refine sm_bipush (x := (34 : Int32)) hG 26 rfl dL_choirs_24 rfl ?_
    refine sm_iconst (x := (0 : Int32)) hG 27 rfl dL_choirs_26 rfl ?_
    refine sm_iconst (x := (0 : Int32)) hG 28 rfl dL_choirs_27 rfl ?_
    refine sm_iconst (x := (0 : Int32)) hG 29 rfl dL_choirs_28 rfl ?_
    refine sm_hcallS hG [.ref (Λ.2.2.2.1 (0, 0, 0)), .int (34 : Int32), .int (0 : Int32), .int (0 : Int32), .int (0 : Int32)] 32 rfl (fun r_ hr_ => c_L_call hC hfl hX hr_) gL_choirs_L_call rfl (by decide) (by decide) (n := 5) rfl (Nat.le_of_ble_eq_true rfl) (761, 10969) ⟨rfl, rfl⟩ (by decide) rfl dL_choirs_29 (fun r_29 => ?_)
    refine sm_sipush (x := (-2013 : Int32)) hG 35 rfl dL_choirs_32 rfl ?_
    refine sm_icmp_ne hG 276 38 rfl dL_choirs_35 (by decide) ?_ ?_
    · refine sm_iconst (x := (0 : Int32)) hG 277 rfl dL_choirs_276 rfl ?_
      exact sm_bret hG hT (by decide) dL_choirs_277 rfl
    · refine sm_aload_n hG 39 rfl dL_choirs_38 rfl 0 rfl ?_
      refine sm_callV hG (fun (q : Int32) => (some (Value.int q), r_29.2)) (0, 0, 0) [] 42 rfl (ok0 hC) (ce_0 hC _) (ci := 6) rfl (fun r_ hr_ => c_X6_day hC   hr_) gL_choirs_X6_day rfl (by decide) (by decide) (n := 0) rfl (Nat.le_of_ble_eq_true rfl) (by decide) (by decide) rfl dL_choirs_39 (fun r_39 => ?_)
      refine sm_if_ne hG 276 45 rfl dL_choirs_42 (by decide) ?_ ?_
      · refine sm_iconst (x := (0 : Int32)) hG 277 rfl dL_choirs_276 rfl ?_
        exact sm_bret hG hT (by decide) dL_choirs_277 rfl
      · refine sm_aload_n hG 46 rfl dL_choirs_45 rfl 0 rfl ?_
        refine sm_callV hG (fun (q : Int32) => (some (Value.int q), r_29.2)) (0, 0, 0) [] 49 rfl (ok0 hC) (ce_0 hC _) (ci := 6) rfl (fun r_ hr_ => c_X6_singers hC   hr_) gL_choirs_X6_singers rfl (by decide) (by decide) (n := 0) rfl (Nat.le_of_ble_eq_true rfl) (by decide) (by decide) rfl dL_choirs_46 (fun r_46 => ?_)
        refine sm_if_ne hG 276 52 rfl dL_choirs_49 (by decide) ?_ ?_
        · refine sm_iconst (x := (0 : Int32)) hG 277 rfl dL_choirs_276 rfl ?_
          exact sm_bret hG hT (by decide) dL_choirs_277 rfl
        · refine sm_aload_n hG 53 rfl dL_choirs_52 rfl 0 rfl ?_
          refine sm_callV hG (fun (q : Int32) => (some (Value.int q), r_29.2)) (0, 0, 0) [] 56 rfl (ok0 hC) (ce_0 hC _) (ci := 6) rfl (fun r_ hr_ => c_X6_feasts hC   hr_) gL_choirs_X6_feasts rfl (by decide) (by decide) (n := 0) rfl (Nat.le_of_ble_eq_true rfl) (by decide) (by decide) rfl dL_choirs_53 (fun r_53 => ?_)
          refine sm_if_ne hG 276 59 rfl dL_choirs_56 (by decide) ?_ ?_
          · refine sm_iconst (x := (0 : Int32)) hG 277 rfl dL_choirs_276 rfl ?_
            exact sm_bret hG hT (by decide) dL_choirs_277 rfl
          · refine sm_aload_n hG 60 rfl dL_choirs_59 rfl 0 rfl ?_
            refine sm_bipush (x := (50 : Int32)) hG 62 rfl dL_choirs_60 rfl ?_
            refine sm_iconst (x := (0 : Int32)) hG 63 rfl dL_choirs_62 rfl ?_
            refine sm_iconst (x := (0 : Int32)) hG 64 rfl dL_choirs_63 rfl ?_
            refine sm_iconst (x := (0 : Int32)) hG 65 rfl dL_choirs_64 rfl ?_
            refine sm_callS hG (fun (q : Int32 × mC) => (some (Value.int q.1), q.2)) [.ref (Λ.2.2.2.1 (0, 0, 0)), .int (50 : Int32), .int (0 : Int32), .int (0 : Int32), .int (0 : Int32)] 68 rfl (fun r_ hr_ => c_L_accounts hC   hr_) gL_choirs_L_accounts rfl (by decide) (by decide) (n := 5) rfl (Nat.le_of_ble_eq_true rfl) (by decide) (by decide) rfl dL_choirs_65 (fun r_65 => ?_)
            refine sm_if_eq hG 276 71 rfl dL_choirs_68 (by decide) ?_ ?_
            · refine sm_iconst (x := (0 : Int32)) hG 277 rfl dL_choirs_276 rfl ?_
              exact sm_bret hG hT (by decide) dL_choirs_277 rfl
            · refine sm_aload_n hG 72 rfl dL_choirs_71 rfl 0 rfl ?_
              refine sm_callV hG (fun (q : Int32) => (some (Value.int q), r_65.2)) (0, 0, 0) [] 75 rfl (ok0 hC) (ce_0 hC _) (ci := 6) rfl (fun r_ hr_ => c_X6_nextToBreak hC   hr_) gL_choirs_X6_nextToBreak rfl (by decide) (by decide) (n := 0) rfl (Nat.le_of_ble_eq_true rfl) (by decide) (by decide) rfl dL_choirs_72 (fun r_72 => ?_)
              refine sm_iconst (x := (-1 : Int32)) hG 76 rfl dL_choirs_75 rfl ?_
              refine sm_icmp_ne hG 276 79 rfl dL_choirs_76 (by decide) ?_ ?_
              · refine sm_iconst (x := (0 : Int32)) hG 277 rfl dL_choirs_276 rfl ?_
                exact sm_bret hG hT (by decide) dL_choirs_277 rfl
              · refine sm_aload_n hG 80 rfl dL_choirs_79 rfl 0 rfl ?_
                refine sm_callV hG (fun (q : Int32 × mC) => (some (Value.int q.1), q.2)) (0, 0, 0) [] 83 rfl (ok0 hC) (ce_0 hC _) (ci := 6) rfl (fun r_ hr_ => c_X6_firstShortFeast hC   hr_) gL_choirs_X6_firstShortFeast rfl (by decide) (by decide) (n := 0) rfl (Nat.le_of_ble_eq_true rfl) (by decide) (by decide) rfl dL_choirs_80 (fun r_80 => ?_)
                refine sm_iconst (x := (-1 : Int32)) hG 84 rfl dL_choirs_83 rfl ?_
                refine sm_icmp_ne hG 276 87 rfl dL_choirs_84 (by decide) ?_ ?_
                · refine sm_iconst (x := (0 : Int32)) hG 277 rfl dL_choirs_276 rfl ?_
                  exact sm_bret hG hT (by decide) dL_choirs_277 rfl
                · refine sm_aload_n hG 88 rfl dL_choirs_87 rfl 0 rfl ?_
                  refine sm_callS2 hG (fun (q : Int32 × mC) => (some (Value.int q.1), q.2)) [.ref (Λ.2.2.2.1 (0, 0, 0))] 91 rfl (fun r_ hr_ => c_L_refused hC  hfl hX hr_) gL_choirs_L_refused rfl (by decide) (by decide) (n := 1) rfl (Nat.le_of_ble_eq_true rfl) (1501, 15409) ⟨rfl, rfl⟩ (by decide) rfl dL_choirs_88 (fun r_88 => ?_)
                  refine sm_if_eq hG 276 94 rfl dL_choirs_91 (by decide) ?_ ?_
                  · refine sm_iconst (x := (0 : Int32)) hG 277 rfl dL_choirs_276 rfl ?_
                    exact sm_bret hG hT (by decide) dL_choirs_277 rfl
                  · refine sm_aload_n hG 95 rfl dL_choirs_94 rfl 0 rfl ?_
                    refine sm_bipush (x := (10 : Int32)) hG 97 rfl dL_choirs_95 rfl ?_
                    refine sm_sipush (x := (150 : Int32)) hG 100 rfl dL_choirs_97 rfl ?_
                    refine sm_bipush (x := (10 : Int32)) hG 102 rfl dL_choirs_100 rfl ?_
                    refine sm_bipush (x := (30 : Int32)) hG 104 rfl dL_choirs_102 rfl ?_
                    refine sm_bipush (x := (13 : Int32)) hG 106 rfl dL_choirs_104 rfl ?_
                    refine sm_callV hG (fun (q : Int32 × mC) => (some (Value.int q.1), q.2)) (0, 0, 0) [.int (10 : Int32), .int (150 : Int32), .int (10 : Int32), .int (30 : Int32), .int (13 : Int32)] 109 rfl (ok0 hC) (ce_0 hC _) (ci := 6) rfl (fun r_ hr_ => c0n_X6_register hC hr_) gL_choirs_X6_register rfl (by decide) (by decide) (n := 5) rfl (Nat.le_of_ble_eq_true rfl) (by decide) (by decide) rfl dL_choirs_106 (fun r_106 => ?_)
                    refine sm_if_ne hG 276 112 rfl dL_choirs_109 (by decide) ?_ ?_
                    · refine sm_iconst (x := (0 : Int32)) hG 277 rfl dL_choirs_276 rfl ?_
                      exact sm_bret hG hT (by decide) dL_choirs_277 rfl
                    · refine sm_aload_n hG 113 rfl dL_choirs_112 rfl 0 rfl ?_
                      refine sm_iconst (x := (0 : Int32)) hG 114 rfl dL_choirs_113 rfl ?_
                      refine sm_callV hG (fun (q : Int32 × mC) => (some (Value.int q.1), q.2)) (0, 0, 0) [.int (0 : Int32)] 117 rfl (ok0 hC) (ce_0 hC _) (ci := 6) rfl (fun r_ hr_ => c0n_X6_breakDayOf hC hr_) gL_choirs_X6_breakDayOf rfl (by decide) (by decide) (n := 1) rfl (Nat.le_of_ble_eq_true rfl) (by decide) (by decide) rfl dL_choirs_114 (fun r_114 => ?_)
                      refine sm_sipush (x := (1080 : Int32)) hG 120 rfl dL_choirs_117 rfl ?_
                      refine sm_icmp_ne hG 276 123 rfl dL_choirs_120 (by decide) ?_ ?_
                      · refine sm_iconst (x := (0 : Int32)) hG 277 rfl dL_choirs_276 rfl ?_
                        exact sm_bret hG hT (by decide) dL_choirs_277 rfl
                      · refine sm_aload_n hG 124 rfl dL_choirs_123 rfl 0 rfl ?_
                        refine sm_bipush (x := (20 : Int32)) hG 126 rfl dL_choirs_124 rfl ?_
                        refine sm_sipush (x := (160 : Int32)) hG 129 rfl dL_choirs_126 rfl ?_
                        refine sm_iconst (x := (5 : Int32)) hG 130 rfl dL_choirs_129 rfl ?_
                        refine sm_bipush (x := (25 : Int32)) hG 132 rfl dL_choirs_130 rfl ?_
                        refine sm_iconst (x := (0 : Int32)) hG 133 rfl dL_choirs_132 rfl ?_
                        refine sm_callV hG (fun (q : Int32 × mC) => (some (Value.int q.1), q.2)) (0, 0, 0) [.int (20 : Int32), .int (160 : Int32), .int (5 : Int32), .int (25 : Int32), .int (0 : Int32)] 136 rfl (ok0 hC) (ce_0 hC _) (ci := 6) rfl (fun r_ hr_ => c0n_X6_register hC hr_) gL_choirs_X6_register rfl (by decide) (by decide) (n := 5) rfl (Nat.le_of_ble_eq_true rfl) (by decide) (by decide) rfl dL_choirs_133 (fun r_133 => ?_)
                        refine sm_iconst (x := (1 : Int32)) hG 137 rfl dL_choirs_136 rfl ?_
                        refine sm_icmp_ne hG 276 140 rfl dL_choirs_137 (by decide) ?_ ?_
                        · refine sm_iconst (x := (0 : Int32)) hG 277 rfl dL_choirs_276 rfl ?_
                          exact sm_bret hG hT (by decide) dL_choirs_277 rfl
                        · refine sm_aload_n hG 141 rfl dL_choirs_140 rfl 0 rfl ?_
                          refine sm_iconst (x := (1 : Int32)) hG 142 rfl dL_choirs_141 rfl ?_
                          refine sm_callV hG (fun (q : Int32 × mC) => (some (Value.int q.1), q.2)) (0, 0, 0) [.int (1 : Int32)] 145 rfl (ok0 hC) (ce_0 hC _) (ci := 6) rfl (fun r_ hr_ => c0n_X6_breakDayOf hC hr_) gL_choirs_X6_breakDayOf rfl (by decide) (by decide) (n := 1) rfl (Nat.le_of_ble_eq_true rfl) (by decide) (by decide) rfl dL_choirs_142 (fun r_142 => ?_)
                          refine sm_iconst (x := (-1 : Int32)) hG 146 rfl dL_choirs_145 rfl ?_
                          refine sm_icmp_ne hG 276 149 rfl dL_choirs_146 (by decide) ?_ ?_
                          · refine sm_iconst (x := (0 : Int32)) hG 277 rfl dL_choirs_276 rfl ?_
                            exact sm_bret hG hT (by decide) dL_choirs_277 rfl
                          · refine sm_aload_n hG 150 rfl dL_choirs_149 rfl 0 rfl ?_
                            refine sm_iconst (x := (2 : Int32)) hG 151 rfl dL_choirs_150 rfl ?_
                            refine sm_iconst (x := (4 : Int32)) hG 152 rfl dL_choirs_151 rfl ?_
                            refine sm_sipush (x := (170 : Int32)) hG 155 rfl dL_choirs_152 rfl ?_
                            refine sm_iconst (x := (0 : Int32)) hG 156 rfl dL_choirs_155 rfl ?_
                            refine sm_bipush (x := (40 : Int32)) hG 158 rfl dL_choirs_156 rfl ?_
                            refine sm_bipush (x := (30 : Int32)) hG 160 rfl dL_choirs_158 rfl ?_
                            refine sm_callV hG (fun (q : Int32 × mC) => (some (Value.int q.1), q.2)) (0, 0, 0) [.int (2 : Int32), .int (4 : Int32), .int (170 : Int32), .int (0 : Int32), .int (40 : Int32), .int (30 : Int32)] 163 rfl (ok0 hC) (ce_0 hC _) (ci := 6) rfl (fun r_ hr_ => c0n_X6_borrow hC hr_) gL_choirs_X6_borrow rfl (by decide) (by decide) (n := 6) rfl (Nat.le_of_ble_eq_true rfl) (by decide) (by decide) rfl dL_choirs_160 (fun r_160 => ?_)
                            refine sm_iconst (x := (2 : Int32)) hG 164 rfl dL_choirs_163 rfl ?_
                            refine sm_icmp_ne hG 276 167 rfl dL_choirs_164 (by decide) ?_ ?_
                            · refine sm_iconst (x := (0 : Int32)) hG 277 rfl dL_choirs_276 rfl ?_
                              exact sm_bret hG hT (by decide) dL_choirs_277 rfl
                            · refine sm_aload_n hG 168 rfl dL_choirs_167 rfl 0 rfl ?_
                              refine sm_iconst (x := (2 : Int32)) hG 169 rfl dL_choirs_168 rfl ?_
                              refine sm_callV hG (fun (q : Int32 × mC) => (some (Value.int q.1), q.2)) (0, 0, 0) [.int (2 : Int32)] 172 rfl (ok0 hC) (ce_0 hC _) (ci := 6) rfl (fun r_ hr_ => c0n_X6_favoursOf hC hr_) gL_choirs_X6_favoursOf rfl (by decide) (by decide) (n := 1) rfl (Nat.le_of_ble_eq_true rfl) (by decide) (by decide) rfl dL_choirs_169 (fun r_169 => ?_)
                              refine sm_iconst (x := (-1 : Int32)) hG 173 rfl dL_choirs_172 rfl ?_
                              refine sm_icmp_ne hG 276 176 rfl dL_choirs_173 (by decide) ?_ ?_
                              · refine sm_iconst (x := (0 : Int32)) hG 277 rfl dL_choirs_276 rfl ?_
                                exact sm_bret hG hT (by decide) dL_choirs_277 rfl
                              · refine sm_aload_n hG 177 rfl dL_choirs_176 rfl 0 rfl ?_
                                refine sm_iconst (x := (2 : Int32)) hG 178 rfl dL_choirs_177 rfl ?_
                                refine sm_callV hG (fun (q : Int32 × mC) => (some (Value.int q.1), q.2)) (0, 0, 0) [.int (2 : Int32)] 181 rfl (ok0 hC) (ce_0 hC _) (ci := 6) rfl (fun r_ hr_ => c0n_X6_choirOf hC hr_) gL_choirs_X6_choirOf rfl (by decide) (by decide) (n := 1) rfl (Nat.le_of_ble_eq_true rfl) (by decide) (by decide) rfl dL_choirs_178 (fun r_178 => ?_)
                                refine sm_iconst (x := (2 : Int32)) hG 182 rfl dL_choirs_181 rfl ?_
                                refine sm_icmp_ne hG 276 185 rfl dL_choirs_182 (by decide) ?_ ?_
                                · refine sm_iconst (x := (0 : Int32)) hG 277 rfl dL_choirs_276 rfl ?_
                                  exact sm_bret hG hT (by decide) dL_choirs_277 rfl
                                · refine sm_aload_n hG 186 rfl dL_choirs_185 rfl 0 rfl ?_
                                  refine sm_iconst (x := (0 : Int32)) hG 187 rfl dL_choirs_186 rfl ?_
                                  refine sm_callV hG (fun (q : Int32 × mC) => (some (Value.int q.1), q.2)) (0, 0, 0) [.int (0 : Int32)] 190 rfl (ok0 hC) (ce_0 hC _) (ci := 6) rfl (fun r_ hr_ => c0n_X6_choirOf hC hr_) gL_choirs_X6_choirOf rfl (by decide) (by decide) (n := 1) rfl (Nat.le_of_ble_eq_true rfl) (by decide) (by decide) rfl dL_choirs_187 (fun r_187 => ?_)
                                  refine sm_iconst (x := (-1 : Int32)) hG 191 rfl dL_choirs_190 rfl ?_
                                  refine sm_icmp_ne hG 276 194 rfl dL_choirs_191 (by decide) ?_ ?_
                                  · refine sm_iconst (x := (0 : Int32)) hG 277 rfl dL_choirs_276 rfl ?_
                                    exact sm_bret hG hT (by decide) dL_choirs_277 rfl
                                  · refine sm_aload_n hG 195 rfl dL_choirs_194 rfl 0 rfl ?_
                                    refine sm_iconst (x := (2 : Int32)) hG 196 rfl dL_choirs_195 rfl ?_
                                    refine sm_callV hG (fun (q : Int32 × mC) => (some (Value.int q.1), q.2)) (0, 0, 0) [.int (2 : Int32)] 199 rfl (ok0 hC) (ce_0 hC _) (ci := 6) rfl (fun r_ hr_ => c0n_X6_ageOf hC hr_) gL_choirs_X6_ageOf rfl (by decide) (by decide) (n := 1) rfl (Nat.le_of_ble_eq_true rfl) (by decide) (by decide) rfl dL_choirs_196 (fun r_196 => ?_)
                                    refine sm_bipush (x := (30 : Int32)) hG 201 rfl dL_choirs_199 rfl ?_
                                    refine sm_icmp_ne hG 276 204 rfl dL_choirs_201 (by decide) ?_ ?_
                                    · refine sm_iconst (x := (0 : Int32)) hG 277 rfl dL_choirs_276 rfl ?_
                                      exact sm_bret hG hT (by decide) dL_choirs_277 rfl
                                    · refine sm_aload_n hG 205 rfl dL_choirs_204 rfl 0 rfl ?_
                                      refine sm_callV hG (fun (q : Int32) => (some (Value.int q), r_196.2)) (0, 0, 0) [] 208 rfl (ok0 hC) (ce_0 hC _) (ci := 6) rfl (fun r_ hr_ => c_X6_nextToBreak hC   hr_) gL_choirs_X6_nextToBreak rfl (by decide) (by decide) (n := 0) rfl (Nat.le_of_ble_eq_true rfl) (by decide) (by decide) rfl dL_choirs_205 (fun r_205 => ?_)
                                      refine sm_if_ne hG 276 211 rfl dL_choirs_208 (by decide) ?_ ?_
                                      · refine sm_iconst (x := (0 : Int32)) hG 277 rfl dL_choirs_276 rfl ?_
                                        exact sm_bret hG hT (by decide) dL_choirs_277 rfl
                                      · refine sm_aload_n hG 212 rfl dL_choirs_211 rfl 0 rfl ?_
                                        refine sm_bipush (x := (10 : Int32)) hG 214 rfl dL_choirs_212 rfl ?_
                                        refine sm_iconst (x := (2 : Int32)) hG 215 rfl dL_choirs_214 rfl ?_
                                        refine sm_callV hG (fun (q : Int32 × mC) => (some (Value.int q.1), q.2)) (0, 0, 0) [.int (10 : Int32), .int (2 : Int32)] 218 rfl (ok0 hC) (ce_0 hC _) (ci := 6) rfl (fun r_ hr_ => c0n_X6_announce hC hr_) gL_choirs_X6_announce rfl (by decide) (by decide) (n := 2) rfl (Nat.le_of_ble_eq_true rfl) (by decide) (by decide) rfl dL_choirs_215 (fun r_215 => ?_)
                                        refine sm_if_ne hG 276 221 rfl dL_choirs_218 (by decide) ?_ ?_
                                        · refine sm_iconst (x := (0 : Int32)) hG 277 rfl dL_choirs_276 rfl ?_
                                          exact sm_bret hG hT (by decide) dL_choirs_277 rfl
                                        · refine sm_aload_n hG 222 rfl dL_choirs_221 rfl 0 rfl ?_
                                          refine sm_iconst (x := (5 : Int32)) hG 223 rfl dL_choirs_222 rfl ?_
                                          refine sm_bipush (x := (10 : Int32)) hG 225 rfl dL_choirs_223 rfl ?_
                                          refine sm_iconst (x := (1 : Int32)) hG 226 rfl dL_choirs_225 rfl ?_
                                          refine sm_iconst (x := (0 : Int32)) hG 227 rfl dL_choirs_226 rfl ?_
                                          refine sm_hcallS hG [.ref (Λ.2.2.2.1 (0, 0, 0)), .int (5 : Int32), .int (10 : Int32), .int (1 : Int32), .int (0 : Int32)] 230 rfl (fun r_ hr_ => c_L_call hC hfl hX hr_) gL_choirs_L_call rfl (by decide) (by decide) (n := 5) rfl (Nat.le_of_ble_eq_true rfl) (1505, 15433) ⟨rfl, rfl⟩ (by decide) rfl dL_choirs_227 (fun r_227 => ?_)
                                          refine sm_sipush (x := (-2013 : Int32)) hG 233 rfl dL_choirs_230 rfl ?_
                                          refine sm_icmp_ne hG 276 236 rfl dL_choirs_233 (by decide) ?_ ?_
                                          · refine sm_iconst (x := (0 : Int32)) hG 277 rfl dL_choirs_276 rfl ?_
                                            exact sm_bret hG hT (by decide) dL_choirs_277 rfl
                                          · refine sm_aload_n hG 237 rfl dL_choirs_236 rfl 0 rfl ?_
                                            refine sm_bipush (x := (20 : Int32)) hG 239 rfl dL_choirs_237 rfl ?_
                                            refine sm_iconst (x := (3 : Int32)) hG 240 rfl dL_choirs_239 rfl ?_
                                            refine sm_callV hG (fun (q : Int32 × mC) => (some (Value.int q.1), q.2)) (0, 0, 0) [.int (20 : Int32), .int (3 : Int32)] 243 rfl (ok0 hC) (ce_0 hC _) (ci := 6) rfl (fun r_ hr_ => c0n_X6_announce hC hr_) gL_choirs_X6_announce rfl (by decide) (by decide) (n := 2) rfl (Nat.le_of_ble_eq_true rfl) (by decide) (by decide) rfl dL_choirs_240 (fun r_240 => ?_)
                                            refine sm_iconst (x := (1 : Int32)) hG 244 rfl dL_choirs_243 rfl ?_
                                            refine sm_icmp_ne hG 276 247 rfl dL_choirs_244 (by decide) ?_ ?_
                                            · refine sm_iconst (x := (0 : Int32)) hG 277 rfl dL_choirs_276 rfl ?_
                                              exact sm_bret hG hT (by decide) dL_choirs_277 rfl
                                            · refine sm_aload_n hG 248 rfl dL_choirs_247 rfl 0 rfl ?_
                                              refine sm_iconst (x := (0 : Int32)) hG 249 rfl dL_choirs_248 rfl ?_
                                              refine sm_iconst (x := (0 : Int32)) hG 250 rfl dL_choirs_249 rfl ?_
                                              refine sm_iconst (x := (2 : Int32)) hG 251 rfl dL_choirs_250 rfl ?_
                                              refine sm_bipush (x := (12 : Int32)) hG 253 rfl dL_choirs_251 rfl ?_
                                              refine sm_bipush (x := (20 : Int32)) hG 255 rfl dL_choirs_253 rfl ?_
                                              refine sm_callV hG (fun (q : Int32 × mC) => (some (Value.int q.1), q.2)) (0, 0, 0) [.int (0 : Int32), .int (0 : Int32), .int (2 : Int32), .int (12 : Int32), .int (20 : Int32)] 258 rfl (ok0 hC) (ce_0 hC _) (ci := 6) rfl (fun r_ hr_ => c0n_X6_setLine hC hr_) gL_choirs_X6_setLine rfl (by decide) (by decide) (n := 5) rfl (Nat.le_of_ble_eq_true rfl) (by decide) (by decide) rfl dL_choirs_255 (fun r_255 => ?_)
                                              refine sm_iconst (x := (2 : Int32)) hG 259 rfl dL_choirs_258 rfl ?_
                                              refine sm_icmp_ne hG 276 262 rfl dL_choirs_259 (by decide) ?_ ?_
                                              · refine sm_iconst (x := (0 : Int32)) hG 277 rfl dL_choirs_276 rfl ?_
                                                exact sm_bret hG hT (by decide) dL_choirs_277 rfl
                                              · refine sm_aload_n hG 263 rfl dL_choirs_262 rfl 0 rfl ?_
                                                refine sm_iconst (x := (0 : Int32)) hG 264 rfl dL_choirs_263 rfl ?_
                                                refine sm_iconst (x := (1 : Int32)) hG 265 rfl dL_choirs_264 rfl ?_
                                                refine sm_iconst (x := (1 : Int32)) hG 266 rfl dL_choirs_265 rfl ?_
                                                refine sm_iconst (x := (0 : Int32)) hG 267 rfl dL_choirs_266 rfl ?_
                                                refine sm_bipush (x := (10 : Int32)) hG 269 rfl dL_choirs_267 rfl ?_
                                                refine sm_callV hG (fun (q : Int32 × mC) => (some (Value.int q.1), q.2)) (0, 0, 0) [.int (0 : Int32), .int (1 : Int32), .int (1 : Int32), .int (0 : Int32), .int (10 : Int32)] 272 rfl (ok0 hC) (ce_0 hC _) (ci := 6) rfl (fun r_ hr_ => c0n_X6_setLine hC hr_) gL_choirs_X6_setLine rfl (by decide) (by decide) (n := 5) rfl (Nat.le_of_ble_eq_true rfl) (by decide) (by decide) rfl dL_choirs_269 (fun r_269 => ?_)
                                                refine sm_iconst (x := (3 : Int32)) hG 273 rfl dL_choirs_272 rfl ?_
                                                refine sm_icmp_eq hG 278 276 rfl dL_choirs_273 (by decide) ?_ ?_
                                                · refine sm_aload_n hG 279 rfl dL_choirs_278 rfl 0 rfl ?_
                                                  refine sm_iconst (x := (0 : Int32)) hG 280 rfl dL_choirs_279 rfl ?_
                                                  refine sm_iconst (x := (0 : Int32)) hG 281 rfl dL_choirs_280 rfl ?_
                                                  refine sm_iconst (x := (0 : Int32)) hG 282 rfl dL_choirs_281 rfl ?_
                                                  refine sm_callV hG (fun (q : Int32 × mC) => (some (Value.int q.1), q.2)) (0, 0, 0) [.int (0 : Int32), .int (0 : Int32), .int (0 : Int32)] 285 rfl (ok0 hC) (ce_0 hC _) (ci := 6) rfl (fun r_ hr_ => c0n_X6_whyNot hC hr_) gL_choirs_X6_whyNot rfl (by decide) (by decide) (n := 3) rfl (Nat.le_of_ble_eq_true rfl) (by decide) (by decide) rfl dL_choirs_282 (fun r_282 => ?_)
                                                  refine sm_if_ne hG 564 288 rfl dL_choirs_285 (by decide) ?_ ?_
                                                  · refine sm_iconst (x := (0 : Int32)) hG 565 rfl dL_choirs_564 rfl ?_
                                                    exact sm_bret hG hT (by decide) dL_choirs_565 rfl
                                                  · refine sm_aload_n hG 289 rfl dL_choirs_288 rfl 0 rfl ?_
                                                    refine sm_iconst (x := (0 : Int32)) hG 290 rfl dL_choirs_289 rfl ?_
                                                    refine sm_iconst (x := (0 : Int32)) hG 291 rfl dL_choirs_290 rfl ?_
                                                    refine sm_iconst (x := (1 : Int32)) hG 292 rfl dL_choirs_291 rfl ?_
                                                    refine sm_callV hG (fun (q : Int32 × mC) => (some (Value.int q.1), q.2)) (0, 0, 0) [.int (0 : Int32), .int (0 : Int32), .int (1 : Int32)] 295 rfl (ok0 hC) (ce_0 hC _) (ci := 6) rfl (fun r_ hr_ => c0n_X6_whyNot hC hr_) gL_choirs_X6_whyNot rfl (by decide) (by decide) (n := 3) rfl (Nat.le_of_ble_eq_true rfl) (by decide) (by decide) rfl dL_choirs_292 (fun r_292 => ?_)
                                                    refine sm_iconst (x := (5 : Int32)) hG 296 rfl dL_choirs_295 rfl ?_
                                                    refine sm_icmp_ne hG 564 299 rfl dL_choirs_296 (by decide) ?_ ?_
                                                    · refine sm_iconst (x := (0 : Int32)) hG 565 rfl dL_choirs_564 rfl ?_
                                                      exact sm_bret hG hT (by decide) dL_choirs_565 rfl
                                                    · refine sm_aload_n hG 300 rfl dL_choirs_299 rfl 0 rfl ?_
                                                      refine sm_iconst (x := (0 : Int32)) hG 301 rfl dL_choirs_300 rfl ?_
                                                      refine sm_iconst (x := (1 : Int32)) hG 302 rfl dL_choirs_301 rfl ?_
                                                      refine sm_iconst (x := (1 : Int32)) hG 303 rfl dL_choirs_302 rfl ?_
                                                      refine sm_callV hG (fun (q : Int32 × mC) => (some (Value.int q.1), q.2)) (0, 0, 0) [.int (0 : Int32), .int (1 : Int32), .int (1 : Int32)] 306 rfl (ok0 hC) (ce_0 hC _) (ci := 6) rfl (fun r_ hr_ => c0n_X6_whyNot hC hr_) gL_choirs_X6_whyNot rfl (by decide) (by decide) (n := 3) rfl (Nat.le_of_ble_eq_true rfl) (by decide) (by decide) rfl dL_choirs_303 (fun r_303 => ?_)
                                                      refine sm_iconst (x := (5 : Int32)) hG 307 rfl dL_choirs_306 rfl ?_
                                                      refine sm_icmp_ne hG 564 310 rfl dL_choirs_307 (by decide) ?_ ?_
                                                      · refine sm_iconst (x := (0 : Int32)) hG 565 rfl dL_choirs_564 rfl ?_
                                                        exact sm_bret hG hT (by decide) dL_choirs_565 rfl
                                                      · refine sm_aload_n hG 311 rfl dL_choirs_310 rfl 0 rfl ?_
                                                        refine sm_iconst (x := (0 : Int32)) hG 312 rfl dL_choirs_311 rfl ?_
                                                        refine sm_iconst (x := (2 : Int32)) hG 313 rfl dL_choirs_312 rfl ?_
                                                        refine sm_iconst (x := (1 : Int32)) hG 314 rfl dL_choirs_313 rfl ?_
                                                        refine sm_callV hG (fun (q : Int32 × mC) => (some (Value.int q.1), q.2)) (0, 0, 0) [.int (0 : Int32), .int (2 : Int32), .int (1 : Int32)] 317 rfl (ok0 hC) (ce_0 hC _) (ci := 6) rfl (fun r_ hr_ => c0n_X6_whyNot hC hr_) gL_choirs_X6_whyNot rfl (by decide) (by decide) (n := 3) rfl (Nat.le_of_ble_eq_true rfl) (by decide) (by decide) rfl dL_choirs_314 (fun r_314 => ?_)
                                                        refine sm_if_ne hG 564 320 rfl dL_choirs_317 (by decide) ?_ ?_
                                                        · refine sm_iconst (x := (0 : Int32)) hG 565 rfl dL_choirs_564 rfl ?_
                                                          exact sm_bret hG hT (by decide) dL_choirs_565 rfl
                                                        · refine sm_aload_n hG 321 rfl dL_choirs_320 rfl 0 rfl ?_
                                                          refine sm_iconst (x := (0 : Int32)) hG 322 rfl dL_choirs_321 rfl ?_
                                                          refine sm_iconst (x := (0 : Int32)) hG 323 rfl dL_choirs_322 rfl ?_
                                                          refine sm_iconst (x := (0 : Int32)) hG 324 rfl dL_choirs_323 rfl ?_
                                                          refine sm_iconst (x := (1 : Int32)) hG 325 rfl dL_choirs_324 rfl ?_
                                                          refine sm_callS hG (fun (q : Int32 × mC) => (some (Value.int q.1), q.2)) [.ref (Λ.2.2.2.1 (0, 0, 0)), .int (0 : Int32), .int (0 : Int32), .int (0 : Int32), .int (1 : Int32)] 328 rfl (fun r_ hr_ => c_L_lines hC   hr_) gL_choirs_L_lines rfl (by decide) (by decide) (n := 5) rfl (Nat.le_of_ble_eq_true rfl) (by decide) (by decide) rfl dL_choirs_325 (fun r_325 => ?_)
                                                          refine sm_if_eq hG 564 331 rfl dL_choirs_328 (by decide) ?_ ?_
                                                          · refine sm_iconst (x := (0 : Int32)) hG 565 rfl dL_choirs_564 rfl ?_
                                                            exact sm_bret hG hT (by decide) dL_choirs_565 rfl
                                                          · refine sm_aload_n hG 332 rfl dL_choirs_331 rfl 0 rfl ?_
                                                            refine sm_iconst (x := (0 : Int32)) hG 333 rfl dL_choirs_332 rfl ?_
                                                            refine sm_iconst (x := (0 : Int32)) hG 334 rfl dL_choirs_333 rfl ?_
                                                            refine sm_iconst (x := (-1 : Int32)) hG 335 rfl dL_choirs_334 rfl ?_
                                                            refine sm_iconst (x := (1 : Int32)) hG 336 rfl dL_choirs_335 rfl ?_
                                                            refine sm_callS hG (fun (q : Int32 × mC) => (some (Value.int q.1), q.2)) [.ref (Λ.2.2.2.1 (0, 0, 0)), .int (0 : Int32), .int (0 : Int32), .int (-1 : Int32), .int (1 : Int32)] 339 rfl (fun r_ hr_ => c_L_told hC   hr_) gL_choirs_L_told rfl (by decide) (by decide) (n := 5) rfl (Nat.le_of_ble_eq_true rfl) (by decide) (by decide) rfl dL_choirs_336 (fun r_336 => ?_)
                                                            refine sm_if_eq hG 564 342 rfl dL_choirs_339 (by decide) ?_ ?_
                                                            · refine sm_iconst (x := (0 : Int32)) hG 565 rfl dL_choirs_564 rfl ?_
                                                              exact sm_bret hG hT (by decide) dL_choirs_565 rfl
                                                            · refine sm_aload_n hG 343 rfl dL_choirs_342 rfl 0 rfl ?_
                                                              refine sm_iconst (x := (0 : Int32)) hG 344 rfl dL_choirs_343 rfl ?_
                                                              refine sm_iconst (x := (0 : Int32)) hG 345 rfl dL_choirs_344 rfl ?_
                                                              refine sm_iconst (x := (0 : Int32)) hG 346 rfl dL_choirs_345 rfl ?_
                                                              refine sm_iconst (x := (0 : Int32)) hG 347 rfl dL_choirs_346 rfl ?_
                                                              refine sm_callS hG (fun (q : Int32 × mC) => (some (Value.int q.1), q.2)) [.ref (Λ.2.2.2.1 (0, 0, 0)), .int (0 : Int32), .int (0 : Int32), .int (0 : Int32), .int (0 : Int32)] 350 rfl (fun r_ hr_ => c_L_sits hC   hr_) gL_choirs_L_sits rfl (by decide) (by decide) (n := 5) rfl (Nat.le_of_ble_eq_true rfl) (by decide) (by decide) rfl dL_choirs_347 (fun r_347 => ?_)
                                                              refine sm_if_eq hG 564 353 rfl dL_choirs_350 (by decide) ?_ ?_
                                                              · refine sm_iconst (x := (0 : Int32)) hG 565 rfl dL_choirs_564 rfl ?_
                                                                exact sm_bret hG hT (by decide) dL_choirs_565 rfl
                                                              · refine sm_aload_n hG 354 rfl dL_choirs_353 rfl 0 rfl ?_
                                                                refine sm_iconst (x := (0 : Int32)) hG 355 rfl dL_choirs_354 rfl ?_
                                                                refine sm_iconst (x := (1 : Int32)) hG 356 rfl dL_choirs_355 rfl ?_
                                                                refine sm_iconst (x := (0 : Int32)) hG 357 rfl dL_choirs_356 rfl ?_
                                                                refine sm_iconst (x := (1 : Int32)) hG 358 rfl dL_choirs_357 rfl ?_
                                                                refine sm_callS hG (fun (q : Int32 × mC) => (some (Value.int q.1), q.2)) [.ref (Λ.2.2.2.1 (0, 0, 0)), .int (0 : Int32), .int (1 : Int32), .int (0 : Int32), .int (1 : Int32)] 361 rfl (fun r_ hr_ => c_L_sits hC   hr_) gL_choirs_L_sits rfl (by decide) (by decide) (n := 5) rfl (Nat.le_of_ble_eq_true rfl) (by decide) (by decide) rfl dL_choirs_358 (fun r_358 => ?_)
                                                                refine sm_if_eq hG 564 364 rfl dL_choirs_361 (by decide) ?_ ?_
                                                                · refine sm_iconst (x := (0 : Int32)) hG 565 rfl dL_choirs_564 rfl ?_
                                                                  exact sm_bret hG hT (by decide) dL_choirs_565 rfl
                                                                · refine sm_aload_n hG 365 rfl dL_choirs_364 rfl 0 rfl ?_
                                                                  refine sm_iconst (x := (0 : Int32)) hG 366 rfl dL_choirs_365 rfl ?_
                                                                  refine sm_iconst (x := (2 : Int32)) hG 367 rfl dL_choirs_366 rfl ?_
                                                                  refine sm_iconst (x := (0 : Int32)) hG 368 rfl dL_choirs_367 rfl ?_
                                                                  refine sm_iconst (x := (0 : Int32)) hG 369 rfl dL_choirs_368 rfl ?_
                                                                  refine sm_callS hG (fun (q : Int32 × mC) => (some (Value.int q.1), q.2)) [.ref (Λ.2.2.2.1 (0, 0, 0)), .int (0 : Int32), .int (2 : Int32), .int (0 : Int32), .int (0 : Int32)] 372 rfl (fun r_ hr_ => c_L_sits hC   hr_) gL_choirs_L_sits rfl (by decide) (by decide) (n := 5) rfl (Nat.le_of_ble_eq_true rfl) (by decide) (by decide) rfl dL_choirs_369 (fun r_369 => ?_)
                                                                  refine sm_if_eq hG 564 375 rfl dL_choirs_372 (by decide) ?_ ?_
                                                                  · refine sm_iconst (x := (0 : Int32)) hG 565 rfl dL_choirs_564 rfl ?_
                                                                    exact sm_bret hG hT (by decide) dL_choirs_565 rfl
                                                                  · refine sm_aload_n hG 376 rfl dL_choirs_375 rfl 0 rfl ?_
                                                                    refine sm_callV hG (fun (q : Int32 × mC) => (some (Value.int q.1), q.2)) (0, 0, 0) [] 379 rfl (ok0 hC) (ce_0 hC _) (ci := 6) rfl (fun r_ hr_ => c_X6_firstShortFeast hC   hr_) gL_choirs_X6_firstShortFeast rfl (by decide) (by decide) (n := 0) rfl (Nat.le_of_ble_eq_true rfl) (by decide) (by decide) rfl dL_choirs_376 (fun r_376 => ?_)
                                                                    refine sm_iconst (x := (-1 : Int32)) hG 380 rfl dL_choirs_379 rfl ?_
                                                                    refine sm_icmp_ne hG 564 383 rfl dL_choirs_380 (by decide) ?_ ?_
                                                                    · refine sm_iconst (x := (0 : Int32)) hG 565 rfl dL_choirs_564 rfl ?_
                                                                      exact sm_bret hG hT (by decide) dL_choirs_565 rfl
                                                                    · refine sm_aload_n hG 384 rfl dL_choirs_383 rfl 0 rfl ?_
                                                                      refine sm_iconst (x := (0 : Int32)) hG 385 rfl dL_choirs_384 rfl ?_
                                                                      refine sm_iconst (x := (2 : Int32)) hG 386 rfl dL_choirs_385 rfl ?_
                                                                      refine sm_iconst (x := (2 : Int32)) hG 387 rfl dL_choirs_386 rfl ?_
                                                                      refine sm_bipush (x := (30 : Int32)) hG 389 rfl dL_choirs_387 rfl ?_
                                                                      refine sm_bipush (x := (45 : Int32)) hG 391 rfl dL_choirs_389 rfl ?_
                                                                      refine sm_callV hG (fun (q : Int32 × mC) => (some (Value.int q.1), q.2)) (0, 0, 0) [.int (0 : Int32), .int (2 : Int32), .int (2 : Int32), .int (30 : Int32), .int (45 : Int32)] 394 rfl (ok0 hC) (ce_0 hC _) (ci := 6) rfl (fun r_ hr_ => c0n_X6_setLine hC hr_) gL_choirs_X6_setLine rfl (by decide) (by decide) (n := 5) rfl (Nat.le_of_ble_eq_true rfl) (by decide) (by decide) rfl dL_choirs_391 (fun r_391 => ?_)
                                                                      refine sm_iconst (x := (5 : Int32)) hG 395 rfl dL_choirs_394 rfl ?_
                                                                      refine sm_icmp_ne hG 564 398 rfl dL_choirs_395 (by decide) ?_ ?_
                                                                      · refine sm_iconst (x := (0 : Int32)) hG 565 rfl dL_choirs_564 rfl ?_
                                                                        exact sm_bret hG hT (by decide) dL_choirs_565 rfl
                                                                      · refine sm_aload_n hG 399 rfl dL_choirs_398 rfl 0 rfl ?_
                                                                        refine sm_iconst (x := (0 : Int32)) hG 400 rfl dL_choirs_399 rfl ?_
                                                                        refine sm_iconst (x := (2 : Int32)) hG 401 rfl dL_choirs_400 rfl ?_
                                                                        refine sm_iconst (x := (2 : Int32)) hG 402 rfl dL_choirs_401 rfl ?_
                                                                        refine sm_callV hG (fun (q : Int32 × mC) => (some (Value.int q.1), q.2)) (0, 0, 0) [.int (0 : Int32), .int (2 : Int32), .int (2 : Int32)] 405 rfl (ok0 hC) (ce_0 hC _) (ci := 6) rfl (fun r_ hr_ => c0n_X6_whyNot hC hr_) gL_choirs_X6_whyNot rfl (by decide) (by decide) (n := 3) rfl (Nat.le_of_ble_eq_true rfl) (by decide) (by decide) rfl dL_choirs_402 (fun r_402 => ?_)
                                                                        refine sm_bipush (x := (6 : Int32)) hG 407 rfl dL_choirs_405 rfl ?_
                                                                        refine sm_icmp_ne hG 564 410 rfl dL_choirs_407 (by decide) ?_ ?_
                                                                        · refine sm_iconst (x := (0 : Int32)) hG 565 rfl dL_choirs_564 rfl ?_
                                                                          exact sm_bret hG hT (by decide) dL_choirs_565 rfl
                                                                        · refine sm_aload_n hG 411 rfl dL_choirs_410 rfl 0 rfl ?_
                                                                          refine sm_iconst (x := (0 : Int32)) hG 412 rfl dL_choirs_411 rfl ?_
                                                                          refine sm_iconst (x := (0 : Int32)) hG 413 rfl dL_choirs_412 rfl ?_
                                                                          refine sm_iconst (x := (2 : Int32)) hG 414 rfl dL_choirs_413 rfl ?_
                                                                          refine sm_callV hG (fun (q : Int32 × mC) => (some (Value.int q.1), q.2)) (0, 0, 0) [.int (0 : Int32), .int (0 : Int32), .int (2 : Int32)] 417 rfl (ok0 hC) (ce_0 hC _) (ci := 6) rfl (fun r_ hr_ => c0n_X6_whyNot hC hr_) gL_choirs_X6_whyNot rfl (by decide) (by decide) (n := 3) rfl (Nat.le_of_ble_eq_true rfl) (by decide) (by decide) rfl dL_choirs_414 (fun r_414 => ?_)
                                                                          refine sm_bipush (x := (6 : Int32)) hG 419 rfl dL_choirs_417 rfl ?_
                                                                          refine sm_icmp_ne hG 564 422 rfl dL_choirs_419 (by decide) ?_ ?_
                                                                          · refine sm_iconst (x := (0 : Int32)) hG 565 rfl dL_choirs_564 rfl ?_
                                                                            exact sm_bret hG hT (by decide) dL_choirs_565 rfl
                                                                          · refine sm_aload_n hG 423 rfl dL_choirs_422 rfl 0 rfl ?_
                                                                            refine sm_iconst (x := (0 : Int32)) hG 424 rfl dL_choirs_423 rfl ?_
                                                                            refine sm_iconst (x := (2 : Int32)) hG 425 rfl dL_choirs_424 rfl ?_
                                                                            refine sm_iconst (x := (2 : Int32)) hG 426 rfl dL_choirs_425 rfl ?_
                                                                            refine sm_iconst (x := (1 : Int32)) hG 427 rfl dL_choirs_426 rfl ?_
                                                                            refine sm_callS hG (fun (q : Int32 × mC) => (some (Value.int q.1), q.2)) [.ref (Λ.2.2.2.1 (0, 0, 0)), .int (0 : Int32), .int (2 : Int32), .int (2 : Int32), .int (1 : Int32)] 430 rfl (fun r_ hr_ => c_L_told hC   hr_) gL_choirs_L_told rfl (by decide) (by decide) (n := 5) rfl (Nat.le_of_ble_eq_true rfl) (by decide) (by decide) rfl dL_choirs_427 (fun r_427 => ?_)
                                                                            refine sm_if_eq hG 564 433 rfl dL_choirs_430 (by decide) ?_ ?_
                                                                            · refine sm_iconst (x := (0 : Int32)) hG 565 rfl dL_choirs_564 rfl ?_
                                                                              exact sm_bret hG hT (by decide) dL_choirs_565 rfl
                                                                            · refine sm_aload_n hG 434 rfl dL_choirs_433 rfl 0 rfl ?_
                                                                              refine sm_callV hG (fun (q : Int32 × mC) => (some (Value.int q.1), q.2)) (0, 0, 0) [] 437 rfl (ok0 hC) (ce_0 hC _) (ci := 6) rfl (fun r_ hr_ => c_X6_firstShortFeast hC   hr_) gL_choirs_X6_firstShortFeast rfl (by decide) (by decide) (n := 0) rfl (Nat.le_of_ble_eq_true rfl) (by decide) (by decide) rfl dL_choirs_434 (fun r_434 => ?_)
                                                                              refine sm_if_ne hG 564 440 rfl dL_choirs_437 (by decide) ?_ ?_
                                                                              · refine sm_iconst (x := (0 : Int32)) hG 565 rfl dL_choirs_564 rfl ?_
                                                                                exact sm_bret hG hT (by decide) dL_choirs_565 rfl
                                                                              · refine sm_aload_n hG 441 rfl dL_choirs_440 rfl 0 rfl ?_
                                                                                refine sm_iconst (x := (1 : Int32)) hG 442 rfl dL_choirs_441 rfl ?_
                                                                                refine sm_bipush (x := (10 : Int32)) hG 444 rfl dL_choirs_442 rfl ?_
                                                                                refine sm_bipush (x := (12 : Int32)) hG 446 rfl dL_choirs_444 rfl ?_
                                                                                refine sm_callV hG (fun (q : Int32 × mC) => (some (Value.int q.1), q.2)) (0, 0, 0) [.int (1 : Int32), .int (10 : Int32), .int (12 : Int32)] 449 rfl (ok0 hC) (ce_0 hC _) (ci := 6) rfl (fun r_ hr_ => c0n_X6_excuse hC hr_) gL_choirs_X6_excuse rfl (by decide) (by decide) (n := 3) rfl (Nat.le_of_ble_eq_true rfl) (by decide) (by decide) rfl dL_choirs_446 (fun r_446 => ?_)
                                                                                refine sm_iconst (x := (1 : Int32)) hG 450 rfl dL_choirs_449 rfl ?_
                                                                                refine sm_icmp_ne hG 564 453 rfl dL_choirs_450 (by decide) ?_ ?_
                                                                                · refine sm_iconst (x := (0 : Int32)) hG 565 rfl dL_choirs_564 rfl ?_
                                                                                  exact sm_bret hG hT (by decide) dL_choirs_565 rfl
                                                                                · refine sm_aload_n hG 454 rfl dL_choirs_453 rfl 0 rfl ?_
                                                                                  refine sm_iconst (x := (0 : Int32)) hG 455 rfl dL_choirs_454 rfl ?_
                                                                                  refine sm_iconst (x := (1 : Int32)) hG 456 rfl dL_choirs_455 rfl ?_
                                                                                  refine sm_iconst (x := (0 : Int32)) hG 457 rfl dL_choirs_456 rfl ?_
                                                                                  refine sm_callV hG (fun (q : Int32 × mC) => (some (Value.int q.1), q.2)) (0, 0, 0) [.int (0 : Int32), .int (1 : Int32), .int (0 : Int32)] 460 rfl (ok0 hC) (ce_0 hC _) (ci := 6) rfl (fun r_ hr_ => c0n_X6_whyNot hC hr_) gL_choirs_X6_whyNot rfl (by decide) (by decide) (n := 3) rfl (Nat.le_of_ble_eq_true rfl) (by decide) (by decide) rfl dL_choirs_457 (fun r_457 => ?_)
                                                                                  refine sm_iconst (x := (3 : Int32)) hG 461 rfl dL_choirs_460 rfl ?_
                                                                                  refine sm_icmp_ne hG 564 464 rfl dL_choirs_461 (by decide) ?_ ?_
                                                                                  · refine sm_iconst (x := (0 : Int32)) hG 565 rfl dL_choirs_564 rfl ?_
                                                                                    exact sm_bret hG hT (by decide) dL_choirs_565 rfl
                                                                                  · refine sm_aload_n hG 465 rfl dL_choirs_464 rfl 0 rfl ?_
                                                                                    refine sm_iconst (x := (1 : Int32)) hG 466 rfl dL_choirs_465 rfl ?_
                                                                                    refine sm_bipush (x := (11 : Int32)) hG 468 rfl dL_choirs_466 rfl ?_
                                                                                    refine sm_callV hG (fun (q : Int32 × mC) => (some (Value.int q.1), q.2)) (0, 0, 0) [.int (1 : Int32), .int (11 : Int32)] 471 rfl (ok0 hC) (ce_0 hC _) (ci := 6) rfl (fun r_ hr_ => c0n_X6_isExcused hC hr_) gL_choirs_X6_isExcused rfl (by decide) (by decide) (n := 2) rfl (Nat.le_of_ble_eq_true rfl) (by decide) (by decide) rfl dL_choirs_468 (fun r_468 => ?_)
                                                                                    refine sm_if_eq hG 564 474 rfl dL_choirs_471 (by decide) ?_ ?_
                                                                                    · refine sm_iconst (x := (0 : Int32)) hG 565 rfl dL_choirs_564 rfl ?_
                                                                                      exact sm_bret hG hT (by decide) dL_choirs_565 rfl
                                                                                    · refine sm_aload_n hG 475 rfl dL_choirs_474 rfl 0 rfl ?_
                                                                                      refine sm_iconst (x := (1 : Int32)) hG 476 rfl dL_choirs_475 rfl ?_
                                                                                      refine sm_bipush (x := (13 : Int32)) hG 478 rfl dL_choirs_476 rfl ?_
                                                                                      refine sm_callV hG (fun (q : Int32 × mC) => (some (Value.int q.1), q.2)) (0, 0, 0) [.int (1 : Int32), .int (13 : Int32)] 481 rfl (ok0 hC) (ce_0 hC _) (ci := 6) rfl (fun r_ hr_ => c0n_X6_isExcused hC hr_) gL_choirs_X6_isExcused rfl (by decide) (by decide) (n := 2) rfl (Nat.le_of_ble_eq_true rfl) (by decide) (by decide) rfl dL_choirs_478 (fun r_478 => ?_)
                                                                                      refine sm_if_ne hG 564 484 rfl dL_choirs_481 (by decide) ?_ ?_
                                                                                      · refine sm_iconst (x := (0 : Int32)) hG 565 rfl dL_choirs_564 rfl ?_
                                                                                        exact sm_bret hG hT (by decide) dL_choirs_565 rfl
                                                                                      · refine sm_aload_n hG 485 rfl dL_choirs_484 rfl 0 rfl ?_
                                                                                        refine sm_iconst (x := (4 : Int32)) hG 486 rfl dL_choirs_485 rfl ?_
                                                                                        refine sm_iconst (x := (1 : Int32)) hG 487 rfl dL_choirs_486 rfl ?_
                                                                                        refine sm_bipush (x := (12 : Int32)) hG 489 rfl dL_choirs_487 rfl ?_
                                                                                        refine sm_bipush (x := (14 : Int32)) hG 491 rfl dL_choirs_489 rfl ?_
                                                                                        refine sm_hcallS hG [.ref (Λ.2.2.2.1 (0, 0, 0)), .int (4 : Int32), .int (1 : Int32), .int (12 : Int32), .int (14 : Int32)] 494 rfl (fun r_ hr_ => c_L_call hC hfl hX hr_) gL_choirs_L_call rfl (by decide) (by decide) (n := 5) rfl (Nat.le_of_ble_eq_true rfl) (1509, 15457) ⟨rfl, rfl⟩ (by decide) rfl dL_choirs_491 (fun r_491 => ?_)
                                                                                        refine sm_sipush (x := (-2013 : Int32)) hG 497 rfl dL_choirs_494 rfl ?_
                                                                                        refine sm_icmp_ne hG 564 500 rfl dL_choirs_497 (by decide) ?_ ?_
                                                                                        · refine sm_iconst (x := (0 : Int32)) hG 565 rfl dL_choirs_564 rfl ?_
                                                                                          exact sm_bret hG hT (by decide) dL_choirs_565 rfl
                                                                                        · refine sm_aload_n hG 501 rfl dL_choirs_500 rfl 0 rfl ?_
                                                                                          refine sm_iconst (x := (1 : Int32)) hG 502 rfl dL_choirs_501 rfl ?_
                                                                                          refine sm_bipush (x := (13 : Int32)) hG 504 rfl dL_choirs_502 rfl ?_
                                                                                          refine sm_bipush (x := (13 : Int32)) hG 506 rfl dL_choirs_504 rfl ?_
                                                                                          refine sm_callV hG (fun (q : Int32 × mC) => (some (Value.int q.1), q.2)) (0, 0, 0) [.int (1 : Int32), .int (13 : Int32), .int (13 : Int32)] 509 rfl (ok0 hC) (ce_0 hC _) (ci := 6) rfl (fun r_ hr_ => c0n_X6_excuse hC hr_) gL_choirs_X6_excuse rfl (by decide) (by decide) (n := 3) rfl (Nat.le_of_ble_eq_true rfl) (by decide) (by decide) rfl dL_choirs_506 (fun r_506 => ?_)
                                                                                          refine sm_iconst (x := (2 : Int32)) hG 510 rfl dL_choirs_509 rfl ?_
                                                                                          refine sm_icmp_ne hG 564 513 rfl dL_choirs_510 (by decide) ?_ ?_
                                                                                          · refine sm_iconst (x := (0 : Int32)) hG 565 rfl dL_choirs_564 rfl ?_
                                                                                            exact sm_bret hG hT (by decide) dL_choirs_565 rfl
                                                                                          · refine sm_aload_n hG 514 rfl dL_choirs_513 rfl 0 rfl ?_
                                                                                            refine sm_iconst (x := (0 : Int32)) hG 515 rfl dL_choirs_514 rfl ?_
                                                                                            refine sm_iconst (x := (0 : Int32)) hG 516 rfl dL_choirs_515 rfl ?_
                                                                                            refine sm_iconst (x := (-1 : Int32)) hG 517 rfl dL_choirs_516 rfl ?_
                                                                                            refine sm_iconst (x := (0 : Int32)) hG 518 rfl dL_choirs_517 rfl ?_
                                                                                            refine sm_callS hG (fun (q : Int32 × mC) => (some (Value.int q.1), q.2)) [.ref (Λ.2.2.2.1 (0, 0, 0)), .int (0 : Int32), .int (0 : Int32), .int (-1 : Int32), .int (0 : Int32)] 521 rfl (fun r_ hr_ => c_L_lines hC   hr_) gL_choirs_L_lines rfl (by decide) (by decide) (n := 5) rfl (Nat.le_of_ble_eq_true rfl) (by decide) (by decide) rfl dL_choirs_518 (fun r_518 => ?_)
                                                                                            refine sm_if_eq hG 564 524 rfl dL_choirs_521 (by decide) ?_ ?_
                                                                                            · refine sm_iconst (x := (0 : Int32)) hG 565 rfl dL_choirs_564 rfl ?_
                                                                                              exact sm_bret hG hT (by decide) dL_choirs_565 rfl
                                                                                            · refine sm_aload_n hG 525 rfl dL_choirs_524 rfl 0 rfl ?_
                                                                                              refine sm_iconst (x := (0 : Int32)) hG 526 rfl dL_choirs_525 rfl ?_
                                                                                              refine sm_iconst (x := (3 : Int32)) hG 527 rfl dL_choirs_526 rfl ?_
                                                                                              refine sm_iconst (x := (0 : Int32)) hG 528 rfl dL_choirs_527 rfl ?_
                                                                                              refine sm_iconst (x := (2 : Int32)) hG 529 rfl dL_choirs_528 rfl ?_
                                                                                              refine sm_callS hG (fun (q : Int32 × mC) => (some (Value.int q.1), q.2)) [.ref (Λ.2.2.2.1 (0, 0, 0)), .int (0 : Int32), .int (3 : Int32), .int (0 : Int32), .int (2 : Int32)] 532 rfl (fun r_ hr_ => c_L_told hC   hr_) gL_choirs_L_told rfl (by decide) (by decide) (n := 5) rfl (Nat.le_of_ble_eq_true rfl) (by decide) (by decide) rfl dL_choirs_529 (fun r_529 => ?_)
                                                                                              refine sm_if_eq hG 564 535 rfl dL_choirs_532 (by decide) ?_ ?_
                                                                                              · refine sm_iconst (x := (0 : Int32)) hG 565 rfl dL_choirs_564 rfl ?_
                                                                                                exact sm_bret hG hT (by decide) dL_choirs_565 rfl
                                                                                              · refine sm_aload_n hG 536 rfl dL_choirs_535 rfl 0 rfl ?_
                                                                                                refine sm_iconst (x := (0 : Int32)) hG 537 rfl dL_choirs_536 rfl ?_
                                                                                                refine sm_iconst (x := (1 : Int32)) hG 538 rfl dL_choirs_537 rfl ?_
                                                                                                refine sm_iconst (x := (-1 : Int32)) hG 539 rfl dL_choirs_538 rfl ?_
                                                                                                refine sm_iconst (x := (-1 : Int32)) hG 540 rfl dL_choirs_539 rfl ?_
                                                                                                refine sm_callS hG (fun (q : Int32 × mC) => (some (Value.int q.1), q.2)) [.ref (Λ.2.2.2.1 (0, 0, 0)), .int (0 : Int32), .int (1 : Int32), .int (-1 : Int32), .int (-1 : Int32)] 543 rfl (fun r_ hr_ => c_L_sits hC   hr_) gL_choirs_L_sits rfl (by decide) (by decide) (n := 5) rfl (Nat.le_of_ble_eq_true rfl) (by decide) (by decide) rfl dL_choirs_540 (fun r_540 => ?_)
                                                                                                refine sm_if_eq hG 564 546 rfl dL_choirs_543 (by decide) ?_ ?_
                                                                                                · refine sm_iconst (x := (0 : Int32)) hG 565 rfl dL_choirs_564 rfl ?_
                                                                                                  exact sm_bret hG hT (by decide) dL_choirs_565 rfl
                                                                                                · refine sm_aload_n hG 547 rfl dL_choirs_546 rfl 0 rfl ?_
                                                                                                  refine sm_iconst (x := (0 : Int32)) hG 548 rfl dL_choirs_547 rfl ?_
                                                                                                  refine sm_iconst (x := (2 : Int32)) hG 549 rfl dL_choirs_548 rfl ?_
                                                                                                  refine sm_iconst (x := (0 : Int32)) hG 550 rfl dL_choirs_549 rfl ?_
                                                                                                  refine sm_iconst (x := (1 : Int32)) hG 551 rfl dL_choirs_550 rfl ?_
                                                                                                  refine sm_callS hG (fun (q : Int32 × mC) => (some (Value.int q.1), q.2)) [.ref (Λ.2.2.2.1 (0, 0, 0)), .int (0 : Int32), .int (2 : Int32), .int (0 : Int32), .int (1 : Int32)] 554 rfl (fun r_ hr_ => c_L_sits hC   hr_) gL_choirs_L_sits rfl (by decide) (by decide) (n := 5) rfl (Nat.le_of_ble_eq_true rfl) (by decide) (by decide) rfl dL_choirs_551 (fun r_551 => ?_)
                                                                                                  refine sm_if_eq hG 564 557 rfl dL_choirs_554 (by decide) ?_ ?_
                                                                                                  · refine sm_iconst (x := (0 : Int32)) hG 565 rfl dL_choirs_564 rfl ?_
                                                                                                    exact sm_bret hG hT (by decide) dL_choirs_565 rfl
                                                                                                  · refine sm_aload_n hG 558 rfl dL_choirs_557 rfl 0 rfl ?_
                                                                                                    refine sm_callS2 hG (fun (q : Int32 × mC) => (some (Value.int q.1), q.2)) [.ref (Λ.2.2.2.1 (0, 0, 0))] 561 rfl (fun r_ hr_ => c_L_refused hC  hfl hX hr_) gL_choirs_L_refused rfl (by decide) (by decide) (n := 1) rfl (Nat.le_of_ble_eq_true rfl) (2249, 19897) ⟨rfl, rfl⟩ (by decide) rfl dL_choirs_558 (fun r_558 => ?_)
                                                                                                    refine sm_if_ne hG 566 564 rfl dL_choirs_561 (by decide) ?_ ?_
                                                                                                    · refine sm_aload_n hG 567 rfl dL_choirs_566 rfl 0 rfl ?_
                                                                                                      refine sm_iconst (x := (0 : Int32)) hG 568 rfl dL_choirs_567 rfl ?_
                                                                                                      refine sm_iconst (x := (4 : Int32)) hG 569 rfl dL_choirs_568 rfl ?_
                                                                                                      refine sm_bipush (x := (20 : Int32)) hG 571 rfl dL_choirs_569 rfl ?_
                                                                                                      refine sm_callV hG (fun (q : Int32 × mC) => (some (Value.int q.1), q.2)) (0, 0, 0) [.int (0 : Int32), .int (4 : Int32), .int (20 : Int32)] 574 rfl (ok0 hC) (ce_0 hC _) (ci := 6) rfl (fun r_ hr_ => c0n_X6_lend hC hr_) gL_choirs_X6_lend rfl (by decide) (by decide) (n := 3) rfl (Nat.le_of_ble_eq_true rfl) (by decide) (by decide) rfl dL_choirs_571 (fun r_571 => ?_)
                                                                                                      refine sm_bipush (x := (20 : Int32)) hG 576 rfl dL_choirs_574 rfl ?_
                                                                                                      refine sm_icmp_ne hG 829 579 rfl dL_choirs_576 (by decide) ?_ ?_
                                                                                                      · refine sm_iconst (x := (0 : Int32)) hG 830 rfl dL_choirs_829 rfl ?_
                                                                                                        exact sm_bret hG hT (by decide) dL_choirs_830 rfl
                                                                                                      · refine sm_aload_n hG 580 rfl dL_choirs_579 rfl 0 rfl ?_
                                                                                                        refine sm_bipush (x := (90 : Int32)) hG 582 rfl dL_choirs_580 rfl ?_
                                                                                                        refine sm_iconst (x := (0 : Int32)) hG 583 rfl dL_choirs_582 rfl ?_
                                                                                                        refine sm_iconst (x := (0 : Int32)) hG 584 rfl dL_choirs_583 rfl ?_
                                                                                                        refine sm_iconst (x := (0 : Int32)) hG 585 rfl dL_choirs_584 rfl ?_
                                                                                                        refine sm_callS hG (fun (q : Int32 × mC) => (some (Value.int q.1), q.2)) [.ref (Λ.2.2.2.1 (0, 0, 0)), .int (90 : Int32), .int (0 : Int32), .int (0 : Int32), .int (0 : Int32)] 588 rfl (fun r_ hr_ => c_L_accounts hC   hr_) gL_choirs_L_accounts rfl (by decide) (by decide) (n := 5) rfl (Nat.le_of_ble_eq_true rfl) (by decide) (by decide) rfl dL_choirs_585 (fun r_585 => ?_)
                                                                                                        refine sm_if_eq hG 829 591 rfl dL_choirs_588 (by decide) ?_ ?_
                                                                                                        · refine sm_iconst (x := (0 : Int32)) hG 830 rfl dL_choirs_829 rfl ?_
                                                                                                          exact sm_bret hG hT (by decide) dL_choirs_830 rfl
                                                                                                        · refine sm_aload_n hG 592 rfl dL_choirs_591 rfl 0 rfl ?_
                                                                                                          refine sm_iconst (x := (4 : Int32)) hG 593 rfl dL_choirs_592 rfl ?_
                                                                                                          refine sm_callV hG (fun (q : Int32 × mC) => (some (Value.int q.1), q.2)) (0, 0, 0) [.int (4 : Int32)] 596 rfl (ok0 hC) (ce_0 hC _) (ci := 6) rfl (fun r_ hr_ => c0n_X6_favoursOf hC hr_) gL_choirs_X6_favoursOf rfl (by decide) (by decide) (n := 1) rfl (Nat.le_of_ble_eq_true rfl) (by decide) (by decide) rfl dL_choirs_593 (fun r_593 => ?_)
                                                                                                          refine sm_iconst (x := (1 : Int32)) hG 597 rfl dL_choirs_596 rfl ?_
                                                                                                          refine sm_icmp_ne hG 829 600 rfl dL_choirs_597 (by decide) ?_ ?_
                                                                                                          · refine sm_iconst (x := (0 : Int32)) hG 830 rfl dL_choirs_829 rfl ?_
                                                                                                            exact sm_bret hG hT (by decide) dL_choirs_830 rfl
                                                                                                          · refine sm_aload_n hG 601 rfl dL_choirs_600 rfl 0 rfl ?_
                                                                                                            refine sm_iconst (x := (0 : Int32)) hG 602 rfl dL_choirs_601 rfl ?_
                                                                                                            refine sm_callV hG (fun (q : Int32 × mC) => (some (Value.int q.1), q.2)) (0, 0, 0) [.int (0 : Int32)] 605 rfl (ok0 hC) (ce_0 hC _) (ci := 6) rfl (fun r_ hr_ => c0n_X6_awayUntil hC hr_) gL_choirs_X6_awayUntil rfl (by decide) (by decide) (n := 1) rfl (Nat.le_of_ble_eq_true rfl) (by decide) (by decide) rfl dL_choirs_602 (fun r_602 => ?_)
                                                                                                            refine sm_bipush (x := (20 : Int32)) hG 607 rfl dL_choirs_605 rfl ?_
                                                                                                            refine sm_icmp_ne hG 829 610 rfl dL_choirs_607 (by decide) ?_ ?_
                                                                                                            · refine sm_iconst (x := (0 : Int32)) hG 830 rfl dL_choirs_829 rfl ?_
                                                                                                              exact sm_bret hG hT (by decide) dL_choirs_830 rfl
                                                                                                            · refine sm_aload_n hG 611 rfl dL_choirs_610 rfl 0 rfl ?_
                                                                                                              refine sm_iconst (x := (0 : Int32)) hG 612 rfl dL_choirs_611 rfl ?_
                                                                                                              refine sm_iconst (x := (0 : Int32)) hG 613 rfl dL_choirs_612 rfl ?_
                                                                                                              refine sm_iconst (x := (0 : Int32)) hG 614 rfl dL_choirs_613 rfl ?_
                                                                                                              refine sm_callV hG (fun (q : Int32 × mC) => (some (Value.int q.1), q.2)) (0, 0, 0) [.int (0 : Int32), .int (0 : Int32), .int (0 : Int32)] 617 rfl (ok0 hC) (ce_0 hC _) (ci := 6) rfl (fun r_ hr_ => c0n_X6_whyNot hC hr_) gL_choirs_X6_whyNot rfl (by decide) (by decide) (n := 3) rfl (Nat.le_of_ble_eq_true rfl) (by decide) (by decide) rfl dL_choirs_614 (fun r_614 => ?_)
                                                                                                              refine sm_iconst (x := (2 : Int32)) hG 618 rfl dL_choirs_617 rfl ?_
                                                                                                              refine sm_icmp_ne hG 829 621 rfl dL_choirs_618 (by decide) ?_ ?_
                                                                                                              · refine sm_iconst (x := (0 : Int32)) hG 830 rfl dL_choirs_829 rfl ?_
                                                                                                                exact sm_bret hG hT (by decide) dL_choirs_830 rfl
                                                                                                              · refine sm_aload_n hG 622 rfl dL_choirs_621 rfl 0 rfl ?_
                                                                                                                refine sm_iconst (x := (1 : Int32)) hG 623 rfl dL_choirs_622 rfl ?_
                                                                                                                refine sm_iconst (x := (0 : Int32)) hG 624 rfl dL_choirs_623 rfl ?_
                                                                                                                refine sm_iconst (x := (0 : Int32)) hG 625 rfl dL_choirs_624 rfl ?_
                                                                                                                refine sm_callV hG (fun (q : Int32 × mC) => (some (Value.int q.1), q.2)) (0, 0, 0) [.int (1 : Int32), .int (0 : Int32), .int (0 : Int32)] 628 rfl (ok0 hC) (ce_0 hC _) (ci := 6) rfl (fun r_ hr_ => c0n_X6_whyNot hC hr_) gL_choirs_X6_whyNot rfl (by decide) (by decide) (n := 3) rfl (Nat.le_of_ble_eq_true rfl) (by decide) (by decide) rfl dL_choirs_625 (fun r_625 => ?_)
                                                                                                                refine sm_iconst (x := (2 : Int32)) hG 629 rfl dL_choirs_628 rfl ?_
                                                                                                                refine sm_icmp_ne hG 829 632 rfl dL_choirs_629 (by decide) ?_ ?_
                                                                                                                · refine sm_iconst (x := (0 : Int32)) hG 830 rfl dL_choirs_829 rfl ?_
                                                                                                                  exact sm_bret hG hT (by decide) dL_choirs_830 rfl
                                                                                                                · refine sm_aload_n hG 633 rfl dL_choirs_632 rfl 0 rfl ?_
                                                                                                                  refine sm_iconst (x := (3 : Int32)) hG 634 rfl dL_choirs_633 rfl ?_
                                                                                                                  refine sm_iconst (x := (0 : Int32)) hG 635 rfl dL_choirs_634 rfl ?_
                                                                                                                  refine sm_iconst (x := (3 : Int32)) hG 636 rfl dL_choirs_635 rfl ?_
                                                                                                                  refine sm_iconst (x := (5 : Int32)) hG 637 rfl dL_choirs_636 rfl ?_
                                                                                                                  refine sm_hcallS hG [.ref (Λ.2.2.2.1 (0, 0, 0)), .int (3 : Int32), .int (0 : Int32), .int (3 : Int32), .int (5 : Int32)] 640 rfl (fun r_ hr_ => c_L_call hC hfl hX hr_) gL_choirs_L_call rfl (by decide) (by decide) (n := 5) rfl (Nat.le_of_ble_eq_true rfl) (2253, 19921) ⟨rfl, rfl⟩ (by decide) rfl dL_choirs_637 (fun r_637 => ?_)
                                                                                                                  refine sm_sipush (x := (-2013 : Int32)) hG 643 rfl dL_choirs_640 rfl ?_
                                                                                                                  refine sm_icmp_ne hG 829 646 rfl dL_choirs_643 (by decide) ?_ ?_
                                                                                                                  · refine sm_iconst (x := (0 : Int32)) hG 830 rfl dL_choirs_829 rfl ?_
                                                                                                                    exact sm_bret hG hT (by decide) dL_choirs_830 rfl
                                                                                                                  · refine sm_aload_n hG 647 rfl dL_choirs_646 rfl 0 rfl ?_
                                                                                                                    refine sm_iconst (x := (3 : Int32)) hG 648 rfl dL_choirs_647 rfl ?_
                                                                                                                    refine sm_iconst (x := (2 : Int32)) hG 649 rfl dL_choirs_648 rfl ?_
                                                                                                                    refine sm_iconst (x := (3 : Int32)) hG 650 rfl dL_choirs_649 rfl ?_
                                                                                                                    refine sm_iconst (x := (5 : Int32)) hG 651 rfl dL_choirs_650 rfl ?_
                                                                                                                    refine sm_hcallS hG [.ref (Λ.2.2.2.1 (0, 0, 0)), .int (3 : Int32), .int (2 : Int32), .int (3 : Int32), .int (5 : Int32)] 654 rfl (fun r_ hr_ => c_L_call hC hfl hX hr_) gL_choirs_L_call rfl (by decide) (by decide) (n := 5) rfl (Nat.le_of_ble_eq_true rfl) (2257, 19945) ⟨rfl, rfl⟩ (by decide) rfl dL_choirs_651 (fun r_651 => ?_)
                                                                                                                    refine sm_sipush (x := (-2013 : Int32)) hG 657 rfl dL_choirs_654 rfl ?_
                                                                                                                    refine sm_icmp_ne hG 829 660 rfl dL_choirs_657 (by decide) ?_ ?_
                                                                                                                    · refine sm_iconst (x := (0 : Int32)) hG 830 rfl dL_choirs_829 rfl ?_
                                                                                                                      exact sm_bret hG hT (by decide) dL_choirs_830 rfl
                                                                                                                    · refine sm_aload_n hG 661 rfl dL_choirs_660 rfl 0 rfl ?_
                                                                                                                      refine sm_iconst (x := (0 : Int32)) hG 662 rfl dL_choirs_661 rfl ?_
                                                                                                                      refine sm_iconst (x := (4 : Int32)) hG 663 rfl dL_choirs_662 rfl ?_
                                                                                                                      refine sm_iconst (x := (0 : Int32)) hG 664 rfl dL_choirs_663 rfl ?_
                                                                                                                      refine sm_iconst (x := (2 : Int32)) hG 665 rfl dL_choirs_664 rfl ?_
                                                                                                                      refine sm_callS hG (fun (q : Int32 × mC) => (some (Value.int q.1), q.2)) [.ref (Λ.2.2.2.1 (0, 0, 0)), .int (0 : Int32), .int (4 : Int32), .int (0 : Int32), .int (2 : Int32)] 668 rfl (fun r_ hr_ => c_L_told hC   hr_) gL_choirs_L_told rfl (by decide) (by decide) (n := 5) rfl (Nat.le_of_ble_eq_true rfl) (by decide) (by decide) rfl dL_choirs_665 (fun r_665 => ?_)
                                                                                                                      refine sm_if_eq hG 829 671 rfl dL_choirs_668 (by decide) ?_ ?_
                                                                                                                      · refine sm_iconst (x := (0 : Int32)) hG 830 rfl dL_choirs_829 rfl ?_
                                                                                                                        exact sm_bret hG hT (by decide) dL_choirs_830 rfl
                                                                                                                      · refine sm_aload_n hG 672 rfl dL_choirs_671 rfl 0 rfl ?_
                                                                                                                        refine sm_callV hG (fun (q : Int32 × mC) => (some (Value.int q.1), q.2)) (0, 0, 0) [] 675 rfl (ok0 hC) (ce_0 hC _) (ci := 6) rfl (fun r_ hr_ => c_X6_takeSnapshot hC   hr_) gL_choirs_X6_takeSnapshot rfl (by decide) (by decide) (n := 0) rfl (Nat.le_of_ble_eq_true rfl) (by decide) (by decide) rfl dL_choirs_672 (fun r_672 => ?_)
                                                                                                                        refine sm_if_ne hG 829 678 rfl dL_choirs_675 (by decide) ?_ ?_
                                                                                                                        · refine sm_iconst (x := (0 : Int32)) hG 830 rfl dL_choirs_829 rfl ?_
                                                                                                                          exact sm_bret hG hT (by decide) dL_choirs_830 rfl
                                                                                                                        · refine sm_aload_n hG 679 rfl dL_choirs_678 rfl 0 rfl ?_
                                                                                                                          refine sm_bipush (x := (10 : Int32)) hG 681 rfl dL_choirs_679 rfl ?_
                                                                                                                          refine sm_callV hG (fun (q : Int32 × mC) => (some (Value.int q.1), q.2)) (0, 0, 0) [.int (10 : Int32)] 684 rfl (ok0 hC) (ce_0 hC _) (ci := 6) rfl (fun r_ hr_ => c0n_X6_passDays hC hr_) gL_choirs_X6_passDays rfl (by decide) (by decide) (n := 1) rfl (Nat.le_of_ble_eq_true rfl) (by decide) (by decide) rfl dL_choirs_681 (fun r_681 => ?_)
                                                                                                                          refine sm_iconst (x := (1 : Int32)) hG 685 rfl dL_choirs_684 rfl ?_
                                                                                                                          refine sm_icmp_ne hG 829 688 rfl dL_choirs_685 (by decide) ?_ ?_
                                                                                                                          · refine sm_iconst (x := (0 : Int32)) hG 830 rfl dL_choirs_829 rfl ?_
                                                                                                                            exact sm_bret hG hT (by decide) dL_choirs_830 rfl
                                                                                                                          · refine sm_aload_n hG 689 rfl dL_choirs_688 rfl 0 rfl ?_
                                                                                                                            refine sm_iconst (x := (0 : Int32)) hG 690 rfl dL_choirs_689 rfl ?_
                                                                                                                            refine sm_callV hG (fun (q : Int32 × mC) => (some (Value.int q.1), q.2)) (0, 0, 0) [.int (0 : Int32)] 693 rfl (ok0 hC) (ce_0 hC _) (ci := 6) rfl (fun r_ hr_ => c0n_X6_isHeld hC hr_) gL_choirs_X6_isHeld rfl (by decide) (by decide) (n := 1) rfl (Nat.le_of_ble_eq_true rfl) (by decide) (by decide) rfl dL_choirs_690 (fun r_690 => ?_)
                                                                                                                            refine sm_if_eq hG 829 696 rfl dL_choirs_693 (by decide) ?_ ?_
                                                                                                                            · refine sm_iconst (x := (0 : Int32)) hG 830 rfl dL_choirs_829 rfl ?_
                                                                                                                              exact sm_bret hG hT (by decide) dL_choirs_830 rfl
                                                                                                                            · refine sm_aload_n hG 697 rfl dL_choirs_696 rfl 0 rfl ?_
                                                                                                                              refine sm_iconst (x := (0 : Int32)) hG 698 rfl dL_choirs_697 rfl ?_
                                                                                                                              refine sm_iconst (x := (-1 : Int32)) hG 699 rfl dL_choirs_698 rfl ?_
                                                                                                                              refine sm_iconst (x := (-1 : Int32)) hG 700 rfl dL_choirs_699 rfl ?_
                                                                                                                              refine sm_iconst (x := (0 : Int32)) hG 701 rfl dL_choirs_700 rfl ?_
                                                                                                                              refine sm_callS hG (fun (q : Int32 × mC) => (some (Value.int q.1), q.2)) [.ref (Λ.2.2.2.1 (0, 0, 0)), .int (0 : Int32), .int (-1 : Int32), .int (-1 : Int32), .int (0 : Int32)] 704 rfl (fun r_ hr_ => c_L_lines hC   hr_) gL_choirs_L_lines rfl (by decide) (by decide) (n := 5) rfl (Nat.le_of_ble_eq_true rfl) (by decide) (by decide) rfl dL_choirs_701 (fun r_701 => ?_)
                                                                                                                              refine sm_if_eq hG 829 707 rfl dL_choirs_704 (by decide) ?_ ?_
                                                                                                                              · refine sm_iconst (x := (0 : Int32)) hG 830 rfl dL_choirs_829 rfl ?_
                                                                                                                                exact sm_bret hG hT (by decide) dL_choirs_830 rfl
                                                                                                                              · refine sm_aload_n hG 708 rfl dL_choirs_707 rfl 0 rfl ?_
                                                                                                                                refine sm_iconst (x := (0 : Int32)) hG 709 rfl dL_choirs_708 rfl ?_
                                                                                                                                refine sm_callV hG (fun (q : Int32 × mC) => (some (Value.int q.1), q.2)) (0, 0, 0) [.int (0 : Int32)] 712 rfl (ok0 hC) (ce_0 hC _) (ci := 6) rfl (fun r_ hr_ => c0n_X6_shortfall hC hr_) gL_choirs_X6_shortfall rfl (by decide) (by decide) (n := 1) rfl (Nat.le_of_ble_eq_true rfl) (by decide) (by decide) rfl dL_choirs_709 (fun r_709 => ?_)
                                                                                                                                refine sm_iconst (x := (4 : Int32)) hG 713 rfl dL_choirs_712 rfl ?_
                                                                                                                                refine sm_icmp_ne hG 829 716 rfl dL_choirs_713 (by decide) ?_ ?_
                                                                                                                                · refine sm_iconst (x := (0 : Int32)) hG 830 rfl dL_choirs_829 rfl ?_
                                                                                                                                  exact sm_bret hG hT (by decide) dL_choirs_830 rfl
                                                                                                                                · refine sm_aload_n hG 717 rfl dL_choirs_716 rfl 0 rfl ?_
                                                                                                                                  refine sm_iconst (x := (0 : Int32)) hG 718 rfl dL_choirs_717 rfl ?_
                                                                                                                                  refine sm_callV hG (fun (q : Int32 × mC) => (some (Value.int q.1), q.2)) (0, 0, 0) [.int (0 : Int32)] 721 rfl (ok0 hC) (ce_0 hC _) (ci := 6) rfl (fun r_ hr_ => c0n_X6_descantIn hC hr_) gL_choirs_X6_descantIn rfl (by decide) (by decide) (n := 1) rfl (Nat.le_of_ble_eq_true rfl) (by decide) (by decide) rfl dL_choirs_718 (fun r_718 => ?_)
                                                                                                                                  refine sm_iconst (x := (2 : Int32)) hG 722 rfl dL_choirs_721 rfl ?_
                                                                                                                                  refine sm_icmp_ne hG 829 725 rfl dL_choirs_722 (by decide) ?_ ?_
                                                                                                                                  · refine sm_iconst (x := (0 : Int32)) hG 830 rfl dL_choirs_829 rfl ?_
                                                                                                                                    exact sm_bret hG hT (by decide) dL_choirs_830 rfl
                                                                                                                                  · refine sm_aload_n hG 726 rfl dL_choirs_725 rfl 0 rfl ?_
                                                                                                                                    refine sm_bipush (x := (80 : Int32)) hG 728 rfl dL_choirs_726 rfl ?_
                                                                                                                                    refine sm_iconst (x := (2 : Int32)) hG 729 rfl dL_choirs_728 rfl ?_
                                                                                                                                    refine sm_iconst (x := (4 : Int32)) hG 730 rfl dL_choirs_729 rfl ?_
                                                                                                                                    refine sm_bipush (x := (8 : Int32)) hG 732 rfl dL_choirs_730 rfl ?_
                                                                                                                                    refine sm_callS hG (fun (q : Int32 × mC) => (some (Value.int q.1), q.2)) [.ref (Λ.2.2.2.1 (0, 0, 0)), .int (80 : Int32), .int (2 : Int32), .int (4 : Int32), .int (8 : Int32)] 735 rfl (fun r_ hr_ => c_L_accounts hC   hr_) gL_choirs_L_accounts rfl (by decide) (by decide) (n := 5) rfl (Nat.le_of_ble_eq_true rfl) (by decide) (by decide) rfl dL_choirs_732 (fun r_732 => ?_)
                                                                                                                                    refine sm_if_eq hG 829 738 rfl dL_choirs_735 (by decide) ?_ ?_
                                                                                                                                    · refine sm_iconst (x := (0 : Int32)) hG 830 rfl dL_choirs_829 rfl ?_
                                                                                                                                      exact sm_bret hG hT (by decide) dL_choirs_830 rfl
                                                                                                                                    · refine sm_aload_n hG 739 rfl dL_choirs_738 rfl 0 rfl ?_
                                                                                                                                      refine sm_iconst (x := (2 : Int32)) hG 740 rfl dL_choirs_739 rfl ?_
                                                                                                                                      refine sm_callV hG (fun (q : Int32 × mC) => (some (Value.int q.1), q.2)) (0, 0, 0) [.int (2 : Int32)] 743 rfl (ok0 hC) (ce_0 hC _) (ci := 6) rfl (fun r_ hr_ => c0n_X6_feastsOf hC hr_) gL_choirs_X6_feastsOf rfl (by decide) (by decide) (n := 1) rfl (Nat.le_of_ble_eq_true rfl) (by decide) (by decide) rfl dL_choirs_740 (fun r_740 => ?_)
                                                                                                                                      refine sm_iconst (x := (1 : Int32)) hG 744 rfl dL_choirs_743 rfl ?_
                                                                                                                                      refine sm_icmp_ne hG 829 747 rfl dL_choirs_744 (by decide) ?_ ?_
                                                                                                                                      · refine sm_iconst (x := (0 : Int32)) hG 830 rfl dL_choirs_829 rfl ?_
                                                                                                                                        exact sm_bret hG hT (by decide) dL_choirs_830 rfl
                                                                                                                                      · refine sm_aload_n hG 748 rfl dL_choirs_747 rfl 0 rfl ?_
                                                                                                                                        refine sm_iconst (x := (2 : Int32)) hG 749 rfl dL_choirs_748 rfl ?_
                                                                                                                                        refine sm_callV hG (fun (q : Int32 × mC) => (some (Value.int q.1), q.2)) (0, 0, 0) [.int (2 : Int32)] 752 rfl (ok0 hC) (ce_0 hC _) (ci := 6) rfl (fun r_ hr_ => c0n_X6_descantsOf hC hr_) gL_choirs_X6_descantsOf rfl (by decide) (by decide) (n := 1) rfl (Nat.le_of_ble_eq_true rfl) (by decide) (by decide) rfl dL_choirs_749 (fun r_749 => ?_)
                                                                                                                                        refine sm_iconst (x := (1 : Int32)) hG 753 rfl dL_choirs_752 rfl ?_
                                                                                                                                        refine sm_icmp_ne hG 829 756 rfl dL_choirs_753 (by decide) ?_ ?_
                                                                                                                                        · refine sm_iconst (x := (0 : Int32)) hG 830 rfl dL_choirs_829 rfl ?_
                                                                                                                                          exact sm_bret hG hT (by decide) dL_choirs_830 rfl
                                                                                                                                        · refine sm_aload_n hG 757 rfl dL_choirs_756 rfl 0 rfl ?_
                                                                                                                                          refine sm_iconst (x := (0 : Int32)) hG 758 rfl dL_choirs_757 rfl ?_
                                                                                                                                          refine sm_callV hG (fun (q : Int32 × mC) => (some (Value.int q.1), q.2)) (0, 0, 0) [.int (0 : Int32)] 761 rfl (ok0 hC) (ce_0 hC _) (ci := 6) rfl (fun r_ hr_ => c0n_X6_feastsOf hC hr_) gL_choirs_X6_feastsOf rfl (by decide) (by decide) (n := 1) rfl (Nat.le_of_ble_eq_true rfl) (by decide) (by decide) rfl dL_choirs_758 (fun r_758 => ?_)
                                                                                                                                          refine sm_if_ne hG 829 764 rfl dL_choirs_761 (by decide) ?_ ?_
                                                                                                                                          · refine sm_iconst (x := (0 : Int32)) hG 830 rfl dL_choirs_829 rfl ?_
                                                                                                                                            exact sm_bret hG hT (by decide) dL_choirs_830 rfl
                                                                                                                                          · refine sm_aload_n hG 765 rfl dL_choirs_764 rfl 0 rfl ?_
                                                                                                                                            refine sm_bipush (x := (29 : Int32)) hG 767 rfl dL_choirs_765 rfl ?_
                                                                                                                                            refine sm_iconst (x := (0 : Int32)) hG 768 rfl dL_choirs_767 rfl ?_
                                                                                                                                            refine sm_iconst (x := (0 : Int32)) hG 769 rfl dL_choirs_768 rfl ?_
                                                                                                                                            refine sm_iconst (x := (0 : Int32)) hG 770 rfl dL_choirs_769 rfl ?_
                                                                                                                                            refine sm_hcallS hG [.ref (Λ.2.2.2.1 (0, 0, 0)), .int (29 : Int32), .int (0 : Int32), .int (0 : Int32), .int (0 : Int32)] 773 rfl (fun r_ hr_ => c_L_call hC hfl hX hr_) gL_choirs_L_call rfl (by decide) (by decide) (n := 5) rfl (Nat.le_of_ble_eq_true rfl) (2261, 19969) ⟨rfl, rfl⟩ (by decide) rfl dL_choirs_770 (fun r_770 => ?_)
                                                                                                                                            refine sm_sipush (x := (-2013 : Int32)) hG 776 rfl dL_choirs_773 rfl ?_
                                                                                                                                            refine sm_icmp_ne hG 829 779 rfl dL_choirs_776 (by decide) ?_ ?_
                                                                                                                                            · refine sm_iconst (x := (0 : Int32)) hG 830 rfl dL_choirs_829 rfl ?_
                                                                                                                                              exact sm_bret hG hT (by decide) dL_choirs_830 rfl
                                                                                                                                            · refine sm_aload_n hG 780 rfl dL_choirs_779 rfl 0 rfl ?_
                                                                                                                                              refine sm_bipush (x := (23 : Int32)) hG 782 rfl dL_choirs_780 rfl ?_
                                                                                                                                              refine sm_iconst (x := (0 : Int32)) hG 783 rfl dL_choirs_782 rfl ?_
                                                                                                                                              refine sm_iconst (x := (0 : Int32)) hG 784 rfl dL_choirs_783 rfl ?_
                                                                                                                                              refine sm_iconst (x := (0 : Int32)) hG 785 rfl dL_choirs_784 rfl ?_
                                                                                                                                              refine sm_hcallS hG [.ref (Λ.2.2.2.1 (0, 0, 0)), .int (23 : Int32), .int (0 : Int32), .int (0 : Int32), .int (0 : Int32)] 788 rfl (fun r_ hr_ => c_L_call hC hfl hX hr_) gL_choirs_L_call rfl (by decide) (by decide) (n := 5) rfl (Nat.le_of_ble_eq_true rfl) (2265, 19993) ⟨rfl, rfl⟩ (by decide) rfl dL_choirs_785 (fun r_785 => ?_)
                                                                                                                                              refine sm_sipush (x := (-2013 : Int32)) hG 791 rfl dL_choirs_788 rfl ?_
                                                                                                                                              refine sm_icmp_ne hG 829 794 rfl dL_choirs_791 (by decide) ?_ ?_
                                                                                                                                              · refine sm_iconst (x := (0 : Int32)) hG 830 rfl dL_choirs_829 rfl ?_
                                                                                                                                                exact sm_bret hG hT (by decide) dL_choirs_830 rfl
                                                                                                                                              · refine sm_aload_n hG 795 rfl dL_choirs_794 rfl 0 rfl ?_
                                                                                                                                                refine sm_bipush (x := (6 : Int32)) hG 797 rfl dL_choirs_795 rfl ?_
                                                                                                                                                refine sm_iconst (x := (0 : Int32)) hG 798 rfl dL_choirs_797 rfl ?_
                                                                                                                                                refine sm_iconst (x := (0 : Int32)) hG 799 rfl dL_choirs_798 rfl ?_
                                                                                                                                                refine sm_iconst (x := (0 : Int32)) hG 800 rfl dL_choirs_799 rfl ?_
                                                                                                                                                refine sm_hcallS hG [.ref (Λ.2.2.2.1 (0, 0, 0)), .int (6 : Int32), .int (0 : Int32), .int (0 : Int32), .int (0 : Int32)] 803 rfl (fun r_ hr_ => c_L_call hC hfl hX hr_) gL_choirs_L_call rfl (by decide) (by decide) (n := 5) rfl (Nat.le_of_ble_eq_true rfl) (2269, 20017) ⟨rfl, rfl⟩ (by decide) rfl dL_choirs_800 (fun r_800 => ?_)
                                                                                                                                                refine sm_sipush (x := (-2013 : Int32)) hG 806 rfl dL_choirs_803 rfl ?_
                                                                                                                                                refine sm_icmp_ne hG 829 809 rfl dL_choirs_806 (by decide) ?_ ?_
                                                                                                                                                · refine sm_iconst (x := (0 : Int32)) hG 830 rfl dL_choirs_829 rfl ?_
                                                                                                                                                  exact sm_bret hG hT (by decide) dL_choirs_830 rfl
                                                                                                                                                · refine sm_aload_n hG 810 rfl dL_choirs_809 rfl 0 rfl ?_
                                                                                                                                                  refine sm_iconst (x := (0 : Int32)) hG 811 rfl dL_choirs_810 rfl ?_
                                                                                                                                                  refine sm_iconst (x := (0 : Int32)) hG 812 rfl dL_choirs_811 rfl ?_
                                                                                                                                                  refine sm_callV hG (fun (q : Int32 × mC) => (some (Value.int q.1), q.2)) (0, 0, 0) [.int (0 : Int32), .int (0 : Int32)] 815 rfl (ok0 hC) (ce_0 hC _) (ci := 6) rfl (fun r_ hr_ => c0n_X6_singersIn hC hr_) gL_choirs_X6_singersIn rfl (by decide) (by decide) (n := 2) rfl (Nat.le_of_ble_eq_true rfl) (by decide) (by decide) rfl dL_choirs_812 (fun r_812 => ?_)
                                                                                                                                                  refine sm_iconst (x := (1 : Int32)) hG 816 rfl dL_choirs_815 rfl ?_
                                                                                                                                                  refine sm_icmp_ne hG 829 819 rfl dL_choirs_816 (by decide) ?_ ?_
                                                                                                                                                  · refine sm_iconst (x := (0 : Int32)) hG 830 rfl dL_choirs_829 rfl ?_
                                                                                                                                                    exact sm_bret hG hT (by decide) dL_choirs_830 rfl
                                                                                                                                                  · refine sm_aload_n hG 820 rfl dL_choirs_819 rfl 0 rfl ?_
                                                                                                                                                    refine sm_iconst (x := (0 : Int32)) hG 821 rfl dL_choirs_820 rfl ?_
                                                                                                                                                    refine sm_callV hG (fun (q : Int32 × mC) => (some (Value.int q.1), q.2)) (0, 0, 0) [.int (0 : Int32)] 824 rfl (ok0 hC) (ce_0 hC _) (ci := 6) rfl (fun r_ hr_ => c0n_X6_awayUntil hC hr_) gL_choirs_X6_awayUntil rfl (by decide) (by decide) (n := 1) rfl (Nat.le_of_ble_eq_true rfl) (by decide) (by decide) rfl dL_choirs_821 (fun r_821 => ?_)
                                                                                                                                                    refine sm_bipush (x := (20 : Int32)) hG 826 rfl dL_choirs_824 rfl ?_
                                                                                                                                                    refine sm_icmp_eq hG 831 829 rfl dL_choirs_826 (by decide) ?_ ?_
                                                                                                                                                    · refine sm_aload_n hG 832 rfl dL_choirs_831 rfl 0 rfl ?_
                                                                                                                                                      refine sm_bipush (x := (20 : Int32)) hG 834 rfl dL_choirs_832 rfl ?_
                                                                                                                                                      refine sm_callV hG (fun (q : Int32 × mC) => (some (Value.int q.1), q.2)) (0, 0, 0) [.int (20 : Int32)] 837 rfl (ok0 hC) (ce_0 hC _) (ci := 6) rfl (fun r_ hr_ => c0n_X6_passDays hC hr_) gL_choirs_X6_passDays rfl (by decide) (by decide) (n := 1) rfl (Nat.le_of_ble_eq_true rfl) (by decide) (by decide) rfl dL_choirs_834 (fun r_834 => ?_)
                                                                                                                                                      refine sm_iconst (x := (1 : Int32)) hG 838 rfl dL_choirs_837 rfl ?_
                                                                                                                                                      refine sm_icmp_ne hG 952 841 rfl dL_choirs_838 (by decide) ?_ ?_
                                                                                                                                                      · refine sm_iconst (x := (0 : Int32)) hG 953 rfl dL_choirs_952 rfl ?_
                                                                                                                                                        exact sm_bret hG hT (by decide) dL_choirs_953 rfl
                                                                                                                                                      · refine sm_aload_n hG 842 rfl dL_choirs_841 rfl 0 rfl ?_
                                                                                                                                                        refine sm_iconst (x := (1 : Int32)) hG 843 rfl dL_choirs_842 rfl ?_
                                                                                                                                                        refine sm_callV hG (fun (q : Int32 × mC) => (some (Value.int q.1), q.2)) (0, 0, 0) [.int (1 : Int32)] 846 rfl (ok0 hC) (ce_0 hC _) (ci := 6) rfl (fun r_ hr_ => c0n_X6_descantIn hC hr_) gL_choirs_X6_descantIn rfl (by decide) (by decide) (n := 1) rfl (Nat.le_of_ble_eq_true rfl) (by decide) (by decide) rfl dL_choirs_843 (fun r_843 => ?_)
                                                                                                                                                        refine sm_iconst (x := (-1 : Int32)) hG 847 rfl dL_choirs_846 rfl ?_
                                                                                                                                                        refine sm_icmp_ne hG 952 850 rfl dL_choirs_847 (by decide) ?_ ?_
                                                                                                                                                        · refine sm_iconst (x := (0 : Int32)) hG 953 rfl dL_choirs_952 rfl ?_
                                                                                                                                                          exact sm_bret hG hT (by decide) dL_choirs_953 rfl
                                                                                                                                                        · refine sm_aload_n hG 851 rfl dL_choirs_850 rfl 0 rfl ?_
                                                                                                                                                          refine sm_iconst (x := (1 : Int32)) hG 852 rfl dL_choirs_851 rfl ?_
                                                                                                                                                          refine sm_callV hG (fun (q : Int32 × mC) => (some (Value.int q.1), q.2)) (0, 0, 0) [.int (1 : Int32)] 855 rfl (ok0 hC) (ce_0 hC _) (ci := 6) rfl (fun r_ hr_ => c0n_X6_shortfall hC hr_) gL_choirs_X6_shortfall rfl (by decide) (by decide) (n := 1) rfl (Nat.le_of_ble_eq_true rfl) (by decide) (by decide) rfl dL_choirs_852 (fun r_852 => ?_)
                                                                                                                                                          refine sm_if_ne hG 952 858 rfl dL_choirs_855 (by decide) ?_ ?_
                                                                                                                                                          · refine sm_iconst (x := (0 : Int32)) hG 953 rfl dL_choirs_952 rfl ?_
                                                                                                                                                            exact sm_bret hG hT (by decide) dL_choirs_953 rfl
                                                                                                                                                          · refine sm_aload_n hG 859 rfl dL_choirs_858 rfl 0 rfl ?_
                                                                                                                                                            refine sm_iconst (x := (2 : Int32)) hG 860 rfl dL_choirs_859 rfl ?_
                                                                                                                                                            refine sm_callV hG (fun (q : Int32 × mC) => (some (Value.int q.1), q.2)) (0, 0, 0) [.int (2 : Int32)] 863 rfl (ok0 hC) (ce_0 hC _) (ci := 6) rfl (fun r_ hr_ => c0n_X6_isInChoir hC hr_) gL_choirs_X6_isInChoir rfl (by decide) (by decide) (n := 1) rfl (Nat.le_of_ble_eq_true rfl) (by decide) (by decide) rfl dL_choirs_860 (fun r_860 => ?_)
                                                                                                                                                            refine sm_if_eq hG 952 866 rfl dL_choirs_863 (by decide) ?_ ?_
                                                                                                                                                            · refine sm_iconst (x := (0 : Int32)) hG 953 rfl dL_choirs_952 rfl ?_
                                                                                                                                                              exact sm_bret hG hT (by decide) dL_choirs_953 rfl
                                                                                                                                                            · refine sm_aload_n hG 867 rfl dL_choirs_866 rfl 0 rfl ?_
                                                                                                                                                              refine sm_iconst (x := (0 : Int32)) hG 868 rfl dL_choirs_867 rfl ?_
                                                                                                                                                              refine sm_callV hG (fun (q : Int32 × mC) => (some (Value.int q.1), q.2)) (0, 0, 0) [.int (0 : Int32)] 871 rfl (ok0 hC) (ce_0 hC _) (ci := 6) rfl (fun r_ hr_ => c0n_X6_awayUntil hC hr_) gL_choirs_X6_awayUntil rfl (by decide) (by decide) (n := 1) rfl (Nat.le_of_ble_eq_true rfl) (by decide) (by decide) rfl dL_choirs_868 (fun r_868 => ?_)
                                                                                                                                                              refine sm_iconst (x := (-1 : Int32)) hG 872 rfl dL_choirs_871 rfl ?_
                                                                                                                                                              refine sm_icmp_ne hG 952 875 rfl dL_choirs_872 (by decide) ?_ ?_
                                                                                                                                                              · refine sm_iconst (x := (0 : Int32)) hG 953 rfl dL_choirs_952 rfl ?_
                                                                                                                                                                exact sm_bret hG hT (by decide) dL_choirs_953 rfl
                                                                                                                                                              · refine sm_aload_n hG 876 rfl dL_choirs_875 rfl 0 rfl ?_
                                                                                                                                                                refine sm_iconst (x := (1 : Int32)) hG 877 rfl dL_choirs_876 rfl ?_
                                                                                                                                                                refine sm_callV hG (fun (q : Int32 × mC) => (some (Value.int q.1), q.2)) (0, 0, 0) [.int (1 : Int32)] 880 rfl (ok0 hC) (ce_0 hC _) (ci := 6) rfl (fun r_ hr_ => c0n_X6_passDays hC hr_) gL_choirs_X6_passDays rfl (by decide) (by decide) (n := 1) rfl (Nat.le_of_ble_eq_true rfl) (by decide) (by decide) rfl dL_choirs_877 (fun r_877 => ?_)
                                                                                                                                                                refine sm_if_ne hG 952 883 rfl dL_choirs_880 (by decide) ?_ ?_
                                                                                                                                                                · refine sm_iconst (x := (0 : Int32)) hG 953 rfl dL_choirs_952 rfl ?_
                                                                                                                                                                  exact sm_bret hG hT (by decide) dL_choirs_953 rfl
                                                                                                                                                                · refine sm_aload_n hG 884 rfl dL_choirs_883 rfl 0 rfl ?_
                                                                                                                                                                  refine sm_iconst (x := (2 : Int32)) hG 885 rfl dL_choirs_884 rfl ?_
                                                                                                                                                                  refine sm_callV hG (fun (q : Int32 × mC) => (some (Value.int q.1), q.2)) (0, 0, 0) [.int (2 : Int32)] 888 rfl (ok0 hC) (ce_0 hC _) (ci := 6) rfl (fun r_ hr_ => c0n_X6_isInChoir hC hr_) gL_choirs_X6_isInChoir rfl (by decide) (by decide) (n := 1) rfl (Nat.le_of_ble_eq_true rfl) (by decide) (by decide) rfl dL_choirs_885 (fun r_885 => ?_)
                                                                                                                                                                  refine sm_if_ne hG 952 891 rfl dL_choirs_888 (by decide) ?_ ?_
                                                                                                                                                                  · refine sm_iconst (x := (0 : Int32)) hG 953 rfl dL_choirs_952 rfl ?_
                                                                                                                                                                    exact sm_bret hG hT (by decide) dL_choirs_953 rfl
                                                                                                                                                                  · refine sm_aload_n hG 892 rfl dL_choirs_891 rfl 0 rfl ?_
                                                                                                                                                                    refine sm_iconst (x := (1 : Int32)) hG 893 rfl dL_choirs_892 rfl ?_
                                                                                                                                                                    refine sm_iconst (x := (2 : Int32)) hG 894 rfl dL_choirs_893 rfl ?_
                                                                                                                                                                    refine sm_iconst (x := (0 : Int32)) hG 895 rfl dL_choirs_894 rfl ?_
                                                                                                                                                                    refine sm_iconst (x := (0 : Int32)) hG 896 rfl dL_choirs_895 rfl ?_
                                                                                                                                                                    refine sm_hcallS hG [.ref (Λ.2.2.2.1 (0, 0, 0)), .int (1 : Int32), .int (2 : Int32), .int (0 : Int32), .int (0 : Int32)] 899 rfl (fun r_ hr_ => c_L_call hC hfl hX hr_) gL_choirs_L_call rfl (by decide) (by decide) (n := 5) rfl (Nat.le_of_ble_eq_true rfl) (2273, 20041) ⟨rfl, rfl⟩ (by decide) rfl dL_choirs_896 (fun r_896 => ?_)
                                                                                                                                                                    refine sm_sipush (x := (-2013 : Int32)) hG 902 rfl dL_choirs_899 rfl ?_
                                                                                                                                                                    refine sm_icmp_ne hG 952 905 rfl dL_choirs_902 (by decide) ?_ ?_
                                                                                                                                                                    · refine sm_iconst (x := (0 : Int32)) hG 953 rfl dL_choirs_952 rfl ?_
                                                                                                                                                                      exact sm_bret hG hT (by decide) dL_choirs_953 rfl
                                                                                                                                                                    · refine sm_aload_n hG 906 rfl dL_choirs_905 rfl 0 rfl ?_
                                                                                                                                                                      refine sm_iconst (x := (4 : Int32)) hG 907 rfl dL_choirs_906 rfl ?_
                                                                                                                                                                      refine sm_iconst (x := (2 : Int32)) hG 908 rfl dL_choirs_907 rfl ?_
                                                                                                                                                                      refine sm_bipush (x := (99 : Int32)) hG 910 rfl dL_choirs_908 rfl ?_
                                                                                                                                                                      refine sm_bipush (x := (99 : Int32)) hG 912 rfl dL_choirs_910 rfl ?_
                                                                                                                                                                      refine sm_hcallS hG [.ref (Λ.2.2.2.1 (0, 0, 0)), .int (4 : Int32), .int (2 : Int32), .int (99 : Int32), .int (99 : Int32)] 915 rfl (fun r_ hr_ => c_L_call hC hfl hX hr_) gL_choirs_L_call rfl (by decide) (by decide) (n := 5) rfl (Nat.le_of_ble_eq_true rfl) (2277, 20065) ⟨rfl, rfl⟩ (by decide) rfl dL_choirs_912 (fun r_912 => ?_)
                                                                                                                                                                      refine sm_sipush (x := (-2013 : Int32)) hG 918 rfl dL_choirs_915 rfl ?_
                                                                                                                                                                      refine sm_icmp_ne hG 952 921 rfl dL_choirs_918 (by decide) ?_ ?_
                                                                                                                                                                      · refine sm_iconst (x := (0 : Int32)) hG 953 rfl dL_choirs_952 rfl ?_
                                                                                                                                                                        exact sm_bret hG hT (by decide) dL_choirs_953 rfl
                                                                                                                                                                      · refine sm_aload_n hG 922 rfl dL_choirs_921 rfl 0 rfl ?_
                                                                                                                                                                        refine sm_callV hG (fun (q : Int32) => (some (Value.int q), r_912.2)) (0, 0, 0) [] 925 rfl (ok0 hC) (ce_0 hC _) (ci := 6) rfl (fun r_ hr_ => c_X6_day hC   hr_) gL_choirs_X6_day rfl (by decide) (by decide) (n := 0) rfl (Nat.le_of_ble_eq_true rfl) (by decide) (by decide) rfl dL_choirs_922 (fun r_922 => ?_)
                                                                                                                                                                        refine sm_bipush (x := (31 : Int32)) hG 927 rfl dL_choirs_925 rfl ?_
                                                                                                                                                                        refine sm_icmp_ne hG 952 930 rfl dL_choirs_927 (by decide) ?_ ?_
                                                                                                                                                                        · refine sm_iconst (x := (0 : Int32)) hG 953 rfl dL_choirs_952 rfl ?_
                                                                                                                                                                          exact sm_bret hG hT (by decide) dL_choirs_953 rfl
                                                                                                                                                                        · refine sm_aload_n hG 931 rfl dL_choirs_930 rfl 0 rfl ?_
                                                                                                                                                                          refine sm_iconst (x := (0 : Int32)) hG 932 rfl dL_choirs_931 rfl ?_
                                                                                                                                                                          refine sm_iconst (x := (2 : Int32)) hG 933 rfl dL_choirs_932 rfl ?_
                                                                                                                                                                          refine sm_callV hG (fun (q : Int32 × mC) => (some (Value.int q.1), q.2)) (0, 0, 0) [.int (0 : Int32), .int (2 : Int32)] 936 rfl (ok0 hC) (ce_0 hC _) (ci := 6) rfl (fun r_ hr_ => c0n_X6_lineOf hC hr_) gL_choirs_X6_lineOf rfl (by decide) (by decide) (n := 2) rfl (Nat.le_of_ble_eq_true rfl) (by decide) (by decide) rfl dL_choirs_933 (fun r_933 => ?_)
                                                                                                                                                                          refine sm_if_ne hG 952 939 rfl dL_choirs_936 (by decide) ?_ ?_
                                                                                                                                                                          · refine sm_iconst (x := (0 : Int32)) hG 953 rfl dL_choirs_952 rfl ?_
                                                                                                                                                                            exact sm_bret hG hT (by decide) dL_choirs_953 rfl
                                                                                                                                                                          · refine sm_aload_n hG 940 rfl dL_choirs_939 rfl 0 rfl ?_
                                                                                                                                                                            refine sm_bipush (x := (80 : Int32)) hG 942 rfl dL_choirs_940 rfl ?_
                                                                                                                                                                            refine sm_iconst (x := (2 : Int32)) hG 943 rfl dL_choirs_942 rfl ?_
                                                                                                                                                                            refine sm_iconst (x := (4 : Int32)) hG 944 rfl dL_choirs_943 rfl ?_
                                                                                                                                                                            refine sm_bipush (x := (8 : Int32)) hG 946 rfl dL_choirs_944 rfl ?_
                                                                                                                                                                            refine sm_callS hG (fun (q : Int32 × mC) => (some (Value.int q.1), q.2)) [.ref (Λ.2.2.2.1 (0, 0, 0)), .int (80 : Int32), .int (2 : Int32), .int (4 : Int32), .int (8 : Int32)] 949 rfl (fun r_ hr_ => c_L_accounts hC   hr_) gL_choirs_L_accounts rfl (by decide) (by decide) (n := 5) rfl (Nat.le_of_ble_eq_true rfl) (by decide) (by decide) rfl dL_choirs_946 (fun r_946 => ?_)
                                                                                                                                                                            refine sm_if_ne hG 954 952 rfl dL_choirs_949 (by decide) ?_ ?_
                                                                                                                                                                            · refine sm_iconst (x := (0 : Int32)) hG 955 rfl dL_choirs_954 rfl ?_
                                                                                                                                                                              refine sm_istore_n hG 956 rfl dL_choirs_955 rfl (jlt hN rfl) [(1, .int (0 : Int32)), (0, .ref (Λ.2.2.2.1 (0, 0, 0)))] rfl ?_
                                                                                                                                                                              refine sm_loc [1, 0] [(0, .ref (Λ.2.2.2.1 (0, 0, 0))), (1, .int (0 : Int32))] rfl ?_
                                                                                                                                                                              refine lp_ind (fun (X956 : Int32 → mC → Option (Int32 × mC)) => ∀ (x1_956 : Int32) (v_956 : mC), Sm Γ Λ (2277, 20065) 956 [(0, .ref (Λ.2.2.2.1 (0, 0, 0))), (1, .int x1_956)] [] v_956 (X956 x1_956 v_956)) (fun _ _ => sm_none) (fun self956 hs956 x1_956 v_956 => ?_) 8192 _ _
                                                                                                                                                                              refine sm_iload_n hG 957 rfl dL_choirs_956 rfl 1 rfl ?_
                                                                                                                                                                              refine sm_bipush (x := (10 : Int32)) hG 959 rfl dL_choirs_957 rfl ?_
                                                                                                                                                                              refine sm_icmp_ge hG 979 962 rfl dL_choirs_959 (by decide) ?_ ?_
                                                                                                                                                                              · refine sm_aload_n hG 980 rfl dL_choirs_979 rfl 0 rfl ?_
                                                                                                                                                                                refine sm_bipush (x := (58 : Int32)) hG 982 rfl dL_choirs_980 rfl ?_
                                                                                                                                                                                refine sm_callV hG (fun (q : Int32 × mC) => (some (Value.int q.1), q.2)) (0, 0, 0) [.int (58 : Int32)] 985 rfl (ok0 hC) (ce_0 hC _) (ci := 6) rfl (fun r_ hr_ => c0n_X6_passDays hC hr_) gL_choirs_X6_passDays rfl (by decide) (by decide) (n := 1) rfl (Nat.le_of_ble_eq_true rfl) (by decide) (by decide) rfl dL_choirs_982 (fun r_982 => ?_)
                                                                                                                                                                                refine sm_if_ne hG 1009 988 rfl dL_choirs_985 (by decide) ?_ ?_
                                                                                                                                                                                · refine sm_iconst (x := (0 : Int32)) hG 1010 rfl dL_choirs_1009 rfl ?_
                                                                                                                                                                                  exact sm_bret hG hT (by decide) dL_choirs_1010 rfl
                                                                                                                                                                                · refine sm_aload_n hG 989 rfl dL_choirs_988 rfl 0 rfl ?_
                                                                                                                                                                                  refine sm_callV hG (fun (q : Int32) => (some (Value.int q), r_982.2)) (0, 0, 0) [] 992 rfl (ok0 hC) (ce_0 hC _) (ci := 6) rfl (fun r_ hr_ => c_X6_day hC   hr_) gL_choirs_X6_day rfl (by decide) (by decide) (n := 0) rfl (Nat.le_of_ble_eq_true rfl) (by decide) (by decide) rfl dL_choirs_989 (fun r_989 => ?_)
                                                                                                                                                                                  refine sm_sipush (x := (1079 : Int32)) hG 995 rfl dL_choirs_992 rfl ?_
                                                                                                                                                                                  refine sm_icmp_ne hG 1009 998 rfl dL_choirs_995 (by decide) ?_ ?_
                                                                                                                                                                                  · refine sm_iconst (x := (0 : Int32)) hG 1010 rfl dL_choirs_1009 rfl ?_
                                                                                                                                                                                    exact sm_bret hG hT (by decide) dL_choirs_1010 rfl
                                                                                                                                                                                  · refine sm_aload_n hG 999 rfl dL_choirs_998 rfl 0 rfl ?_
                                                                                                                                                                                    refine sm_callS2 hG (fun (q : Int32 × mC) => (some (Value.int q.1), q.2)) [.ref (Λ.2.2.2.1 (0, 0, 0))] 1002 rfl (fun r_ hr_ => c_L_voices hC  hfl hX hr_) gL_choirs_L_voices rfl (by decide) (by decide) (n := 1) rfl (Nat.le_of_ble_eq_true rfl) (5282, 50901) ⟨rfl, rfl⟩ (by decide) rfl dL_choirs_999 (fun r_999 => ?_)
                                                                                                                                                                                    refine sm_if_eq hG 1009 1005 rfl dL_choirs_1002 (by decide) ?_ ?_
                                                                                                                                                                                    · refine sm_iconst (x := (0 : Int32)) hG 1010 rfl dL_choirs_1009 rfl ?_
                                                                                                                                                                                      exact sm_bret hG hT (by decide) dL_choirs_1010 rfl
                                                                                                                                                                                    · refine sm_iconst (x := (1 : Int32)) hG 1006 rfl dL_choirs_1005 rfl ?_
                                                                                                                                                                                      refine sm_goto hG 1010 dL_choirs_1006 (by decide) ?_
                                                                                                                                                                                      exact sm_bret hG hT (by decide) dL_choirs_1010 rfl
                                                                                                                                                                              · refine sm_aload_n hG 963 rfl dL_choirs_962 rfl 0 rfl ?_
                                                                                                                                                                                refine sm_bipush (x := (99 : Int32)) hG 965 rfl dL_choirs_963 rfl ?_
                                                                                                                                                                                refine sm_callV hG (fun (q : Int32 × mC) => (some (Value.int q.1), q.2)) (0, 0, 0) [.int (99 : Int32)] 968 rfl (ok0 hC) (ce_0 hC _) (ci := 6) rfl (fun r_ hr_ => c0n_X6_passDays hC hr_) gL_choirs_X6_passDays rfl (by decide) (by decide) (n := 1) rfl (Nat.le_of_ble_eq_true rfl) (by decide) (by decide) rfl dL_choirs_965 (fun r_965 => ?_)
                                                                                                                                                                                refine sm_if_eq hG 973 971 rfl dL_choirs_968 (by decide) ?_ ?_
                                                                                                                                                                                · refine sm_iinc hG 976 rfl dL_choirs_973 (j := 1) rfl rfl (jlt hN rfl) [(1, .int (x1_956 + (1 : Int32))), (0, .ref (Λ.2.2.2.1 (0, 0, 0)))] rfl ?_
                                                                                                                                                                                  refine sm_goto hG 956 dL_choirs_976 (by decide) ?_
                                                                                                                                                                                  refine sm_loc [1, 0] [(0, .ref (Λ.2.2.2.1 (0, 0, 0))), (1, .int (x1_956 + (1 : Int32)))] rfl ?_
                                                                                                                                                                                  exact hs956 _ _
                                                                                                                                                                                · refine sm_iconst (x := (0 : Int32)) hG 972 rfl dL_choirs_971 rfl ?_
                                                                                                                                                                                  exact sm_bret hG hT (by decide) dL_choirs_972 rfl
                                                                                                                                                                            · refine sm_iconst (x := (0 : Int32)) hG 953 rfl dL_choirs_952 rfl ?_
                                                                                                                                                                              exact sm_bret hG hT (by decide) dL_choirs_953 rfl
                                                                                                                                                    · refine sm_iconst (x := (0 : Int32)) hG 830 rfl dL_choirs_829 rfl ?_
                                                                                                                                                      exact sm_bret hG hT (by decide) dL_choirs_830 rfl
                                                                                                    · refine sm_iconst (x := (0 : Int32)) hG 565 rfl dL_choirs_564 rfl ?_
                                                                                                      exact sm_bret hG hT (by decide) dL_choirs_565 rfl
                                                · refine sm_iconst (x := (0 : Int32)) hG 277 rfl dL_choirs_276 rfl ?_
                                                  exact sm_bret hG hT (by decide) dL_choirs_277 rfl
