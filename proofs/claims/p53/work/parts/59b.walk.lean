/-! printed by wip/p53/jgen.py out of the bytecode: the law -/
abbrev rmL_act : Room := { frames := 11, cells := 1, slots := 6, locals := 246 }
set_option maxRecDepth 100000 in
set_option maxHeartbeats 4000000 in
theorem c_L_act {Λ : jL kC} (hC : LC Λ) {x1 : Int32} {x2 : Int32} {x3 : Int32} {x4 : Int32}  {l : Launch} (hfl : l.stackTraces = false) {v : mC} {r : (Int32 × Nat × mC)} (hr_ : f_L_act x1 x2 x3 x4 v = some r) : Cx l yL_act wsL_act rmL_act Λ [.ref (Λ.2.2.2.1 (0, 0, 0)), .int x1, .int x2, .int x3, .int x4] v (some (.int r.1)) r.2.1 r.2.2 := by
  refine cx_of (cc := cL_act) (maxL := 5) (ret := (some .int)) (fun (q : Int32 × Nat × mC) => (some (Value.int q.1), q.2)) hC.1 hr_ (by decide) rfl (Nat.le_of_ble_eq_true rfl) (fun Γ hG hT hN hl => ?_)
  subst hl
  show Sm Γ Λ (0, 0) 0 [(0, .ref (Λ.2.2.2.1 (0, 0, 0))), (1, .int x1), (2, .int x2), (3, .int x3), (4, .int x4)] [] v _
  unfold f_L_act
  refine sm_iload_n hG 1 rfl dL_act_0 rfl 1 rfl ?_
  refine sm_if_ne hG 31 4 rfl dL_act_1 (by decide) ?_ ?_
  · refine sm_iload_n hG 32 rfl dL_act_31 rfl 1 rfl ?_
    refine sm_iconst (x := (1 : Int32)) hG 33 rfl dL_act_32 rfl ?_
    refine sm_icmp_ne hG 44 36 rfl dL_act_33 (by decide) ?_ ?_
    · refine sm_iload_n hG 45 rfl dL_act_44 rfl 1 rfl ?_
      refine sm_iconst (x := (2 : Int32)) hG 46 rfl dL_act_45 rfl ?_
      refine sm_icmp_ne hG 85 49 rfl dL_act_46 (by decide) ?_ ?_
      · refine sm_iload_n hG 86 rfl dL_act_85 rfl 1 rfl ?_
        refine sm_iconst (x := (3 : Int32)) hG 87 rfl dL_act_86 rfl ?_
        refine sm_icmp_ne hG 101 90 rfl dL_act_87 (by decide) ?_ ?_
        · refine sm_iload_n hG 102 rfl dL_act_101 rfl 1 rfl ?_
          refine sm_iconst (x := (4 : Int32)) hG 103 rfl dL_act_102 rfl ?_
          refine sm_icmp_ne hG 117 106 rfl dL_act_103 (by decide) ?_ ?_
          · refine sm_iload_n hG 118 rfl dL_act_117 rfl 1 rfl ?_
            refine sm_iconst (x := (5 : Int32)) hG 119 rfl dL_act_118 rfl ?_
            refine sm_icmp_ne hG 131 122 rfl dL_act_119 (by decide) ?_ ?_
            · refine sm_iload_n hG 132 rfl dL_act_131 rfl 1 rfl ?_
              refine sm_bipush (x := (6 : Int32)) hG 134 rfl dL_act_132 rfl ?_
              refine sm_icmp_ne hG 163 137 rfl dL_act_134 (by decide) ?_ ?_
              · refine sm_aload_n hG 164 rfl dL_act_163 rfl 0 rfl ?_
                refine sm_iload_n hG 165 rfl dL_act_164 rfl 2 rfl ?_
                refine sm_xcallV hG hT (fun _ => rfl) (finc := (fun (q : Int32 × Nat × mC) => (some (Value.int q.1), q.2))) (fun _ => rfl) (0, 0, 0) [.int x2] 168 rfl (ok0 hC) (ce_0 hC _) (ci := 6) rfl (fun r_ hr_ => c_X6_passDays hC  hfl hr_) gL_act_X6_passDays rfl (by decide) (by decide) (n := 1) rfl (Nat.le_of_ble_eq_true rfl) (1, 6) ⟨rfl, rfl⟩ (by decide) rfl dL_act_165 (fun r_165 w_165 => ?_)
                exact sm_tiret hG hT (by decide) dL_act_168 rfl
              · refine sm_aload_n hG 138 rfl dL_act_137 rfl 0 rfl ?_
                refine sm_iload_n hG 139 rfl dL_act_138 rfl 2 rfl ?_
                refine sm_iload_n hG 140 rfl dL_act_139 rfl 3 rfl ?_
                refine sm_iload hG 142 rfl dL_act_140 4 rfl ?_
                refine sm_bipush (x := (7 : Int32)) hG 144 rfl dL_act_142 rfl ?_
                refine sm_iand hG 145 rfl dL_act_144 ?_
                refine sm_iload hG 147 rfl dL_act_145 4 rfl ?_
                refine sm_iconst (x := (3 : Int32)) hG 148 rfl dL_act_147 rfl ?_
                refine sm_ishr hG 149 rfl dL_act_148 ?_
                refine sm_bipush (x := (63 : Int32)) hG 151 rfl dL_act_149 rfl ?_
                refine sm_iand hG 152 rfl dL_act_151 ?_
                refine sm_nmi (fun y151_1 => ?_)
                refine sm_iload hG 154 rfl dL_act_152 4 rfl ?_
                refine sm_bipush (x := (9 : Int32)) hG 156 rfl dL_act_154 rfl ?_
                refine sm_ishr hG 157 rfl dL_act_156 ?_
                refine sm_xcallV hG hT (fun _ => rfl) (finc := (fun (q : Int32 × Nat × mC) => (some (Value.int q.1), q.2))) (fun _ => rfl) (0, 0, 0) [.int x2, .int x3, .int (x4 &&& (7 : Int32)), .int y151_1, .int (x4 >>> ((9 : Int32) &&& 31))] 160 rfl (ok0 hC) (ce_0 hC _) (ci := 6) rfl (fun r_ hr_ => c_X6_setLine hC  hfl hr_) gL_act_X6_setLine rfl (by decide) (by decide) (n := 5) rfl (Nat.le_of_ble_eq_true rfl) (1, 6) ⟨rfl, rfl⟩ (by decide) rfl dL_act_157 (fun r_157 w_157 => ?_)
                refine sm_goto hG 168 dL_act_160 (by decide) ?_
                exact sm_tiret hG hT (by decide) dL_act_168 rfl
            · refine sm_aload_n hG 123 rfl dL_act_122 rfl 0 rfl ?_
              refine sm_iload_n hG 124 rfl dL_act_123 rfl 2 rfl ?_
              refine sm_iload_n hG 125 rfl dL_act_124 rfl 3 rfl ?_
              refine sm_xcallV hG hT (fun _ => rfl) (finc := (fun (q : Int32 × Nat × mC) => (some (Value.int q.1), q.2))) (fun _ => rfl) (0, 0, 0) [.int x2, .int x3] 128 rfl (ok0 hC) (ce_0 hC _) (ci := 6) rfl (fun r_ hr_ => c_X6_announce hC  hfl hr_) gL_act_X6_announce rfl (by decide) (by decide) (n := 2) rfl (Nat.le_of_ble_eq_true rfl) (1, 6) ⟨rfl, rfl⟩ (by decide) rfl dL_act_125 (fun r_125 w_125 => ?_)
              refine sm_goto hG 168 dL_act_128 (by decide) ?_
              exact sm_tiret hG hT (by decide) dL_act_168 rfl
          · refine sm_aload_n hG 107 rfl dL_act_106 rfl 0 rfl ?_
            refine sm_iload_n hG 108 rfl dL_act_107 rfl 2 rfl ?_
            refine sm_iload_n hG 109 rfl dL_act_108 rfl 3 rfl ?_
            refine sm_iload hG 111 rfl dL_act_109 4 rfl ?_
            refine sm_xcallV hG hT (fun _ => rfl) (finc := (fun (q : Int32 × Nat × mC) => (some (Value.int q.1), q.2))) (fun _ => rfl) (0, 0, 0) [.int x2, .int x3, .int x4] 114 rfl (ok0 hC) (ce_0 hC _) (ci := 6) rfl (fun r_ hr_ => c_X6_excuse hC  hfl hr_) gL_act_X6_excuse rfl (by decide) (by decide) (n := 3) rfl (Nat.le_of_ble_eq_true rfl) (1, 6) ⟨rfl, rfl⟩ (by decide) rfl dL_act_111 (fun r_111 w_111 => ?_)
            refine sm_goto hG 168 dL_act_114 (by decide) ?_
            exact sm_tiret hG hT (by decide) dL_act_168 rfl
        · refine sm_aload_n hG 91 rfl dL_act_90 rfl 0 rfl ?_
          refine sm_iload_n hG 92 rfl dL_act_91 rfl 2 rfl ?_
          refine sm_iload_n hG 93 rfl dL_act_92 rfl 3 rfl ?_
          refine sm_iload hG 95 rfl dL_act_93 4 rfl ?_
          refine sm_xcallV hG hT (fun _ => rfl) (finc := (fun (q : Int32 × Nat × mC) => (some (Value.int q.1), q.2))) (fun _ => rfl) (0, 0, 0) [.int x2, .int x3, .int x4] 98 rfl (ok0 hC) (ce_0 hC _) (ci := 6) rfl (fun r_ hr_ => c_X6_lend hC  hfl hr_) gL_act_X6_lend rfl (by decide) (by decide) (n := 3) rfl (Nat.le_of_ble_eq_true rfl) (1, 6) ⟨rfl, rfl⟩ (by decide) rfl dL_act_95 (fun r_95 w_95 => ?_)
          refine sm_goto hG 168 dL_act_98 (by decide) ?_
          exact sm_tiret hG hT (by decide) dL_act_168 rfl
      · refine sm_aload_n hG 50 rfl dL_act_49 rfl 0 rfl ?_
        refine sm_iload_n hG 51 rfl dL_act_50 rfl 2 rfl ?_
        refine sm_iload_n hG 52 rfl dL_act_51 rfl 3 rfl ?_
        refine sm_bipush (x := (15 : Int32)) hG 54 rfl dL_act_52 rfl ?_
        refine sm_iand hG 55 rfl dL_act_54 ?_
        refine sm_bipush (x := (90 : Int32)) hG 57 rfl dL_act_55 rfl ?_
        refine sm_iload_n hG 58 rfl dL_act_57 rfl 3 rfl ?_
        refine sm_iconst (x := (4 : Int32)) hG 59 rfl dL_act_58 rfl ?_
        refine sm_ishr hG 60 rfl dL_act_59 ?_
        refine sm_iadd hG 61 rfl dL_act_60 ?_
        refine sm_nmi (fun y60_2 => ?_)
        refine sm_iload hG 63 rfl dL_act_61 4 rfl ?_
        refine sm_bipush (x := (63 : Int32)) hG 65 rfl dL_act_63 rfl ?_
        refine sm_iand hG 66 rfl dL_act_65 ?_
        refine sm_iload hG 68 rfl dL_act_66 4 rfl ?_
        refine sm_bipush (x := (6 : Int32)) hG 70 rfl dL_act_68 rfl ?_
        refine sm_ishr hG 71 rfl dL_act_70 ?_
        refine sm_bipush (x := (63 : Int32)) hG 73 rfl dL_act_71 rfl ?_
        refine sm_iand hG 74 rfl dL_act_73 ?_
        refine sm_nmi (fun y73_3 => ?_)
        refine sm_iload hG 76 rfl dL_act_74 4 rfl ?_
        refine sm_bipush (x := (12 : Int32)) hG 78 rfl dL_act_76 rfl ?_
        refine sm_ishr hG 79 rfl dL_act_78 ?_
        refine sm_xcallV hG hT (fun _ => rfl) (finc := (fun (q : Int32 × Nat × mC) => (some (Value.int q.1), q.2))) (fun _ => rfl) (0, 0, 0) [.int x2, .int (x3 &&& (15 : Int32)), .int y60_2, .int (x4 &&& (63 : Int32)), .int y73_3, .int (x4 >>> ((12 : Int32) &&& 31))] 82 rfl (ok0 hC) (ce_0 hC _) (ci := 6) rfl (fun r_ hr_ => c_X6_borrow hC  hfl hr_) gL_act_X6_borrow rfl (by decide) (by decide) (n := 6) rfl (Nat.le_of_ble_eq_true rfl) (1, 6) ⟨rfl, rfl⟩ (by decide) rfl dL_act_79 (fun r_79 w_79 => ?_)
        refine sm_goto hG 168 dL_act_82 (by decide) ?_
        exact sm_tiret hG hT (by decide) dL_act_168 rfl
    · refine sm_aload_n hG 37 rfl dL_act_36 rfl 0 rfl ?_
      refine sm_iload_n hG 38 rfl dL_act_37 rfl 2 rfl ?_
      refine sm_xcallV hG hT (fun _ => rfl) (finc := (fun (q : Int32 × Nat × mC) => (some (Value.int q.1), q.2))) (fun _ => rfl) (0, 0, 0) [.int x2] 41 rfl (ok0 hC) (ce_0 hC _) (ci := 6) rfl (fun r_ hr_ => c_X6_leave hC  hfl hr_) gL_act_X6_leave rfl (by decide) (by decide) (n := 1) rfl (Nat.le_of_ble_eq_true rfl) (1, 6) ⟨rfl, rfl⟩ (by decide) rfl dL_act_38 (fun r_38 w_38 => ?_)
      refine sm_goto hG 168 dL_act_41 (by decide) ?_
      exact sm_tiret hG hT (by decide) dL_act_168 rfl
  · refine sm_aload_n hG 5 rfl dL_act_4 rfl 0 rfl ?_
    refine sm_iload_n hG 6 rfl dL_act_5 rfl 2 rfl ?_
    refine sm_iload_n hG 7 rfl dL_act_6 rfl 3 rfl ?_
    refine sm_iload hG 9 rfl dL_act_7 4 rfl ?_
    refine sm_bipush (x := (127 : Int32)) hG 11 rfl dL_act_9 rfl ?_
    refine sm_iand hG 12 rfl dL_act_11 ?_
    refine sm_iload hG 14 rfl dL_act_12 4 rfl ?_
    refine sm_bipush (x := (7 : Int32)) hG 16 rfl dL_act_14 rfl ?_
    refine sm_ishr hG 17 rfl dL_act_16 ?_
    refine sm_bipush (x := (127 : Int32)) hG 19 rfl dL_act_17 rfl ?_
    refine sm_iand hG 20 rfl dL_act_19 ?_
    refine sm_nmi (fun y19_4 => ?_)
    refine sm_iload hG 22 rfl dL_act_20 4 rfl ?_
    refine sm_bipush (x := (14 : Int32)) hG 24 rfl dL_act_22 rfl ?_
    refine sm_ishr hG 25 rfl dL_act_24 ?_
    refine sm_xcallV hG hT (fun _ => rfl) (finc := (fun (q : Int32 × Nat × mC) => (some (Value.int q.1), q.2))) (fun _ => rfl) (0, 0, 0) [.int x2, .int x3, .int (x4 &&& (127 : Int32)), .int y19_4, .int (x4 >>> ((14 : Int32) &&& 31))] 28 rfl (ok0 hC) (ce_0 hC _) (ci := 6) rfl (fun r_ hr_ => c_X6_register hC  hfl hr_) gL_act_X6_register rfl (by decide) (by decide) (n := 5) rfl (Nat.le_of_ble_eq_true rfl) (1, 6) ⟨rfl, rfl⟩ (by decide) rfl dL_act_25 (fun r_25 w_25 => ?_)
    refine sm_goto hG 168 dL_act_28 (by decide) ?_
    exact sm_tiret hG hT (by decide) dL_act_168 rfl
abbrev rmL_singer : Room := { frames := 12, cells := 2, slots := 12, locals := 263 }
set_option maxRecDepth 100000 in
set_option maxHeartbeats 4000000 in
theorem c_L_singer {Λ : jL kC} (hC : LC Λ) {x1 : Int32} {x2 : Int32} {x3 : Int32}  {l : Launch} (hfl : l.stackTraces = false) {v : mC} {r : (Int32 × Nat × mC)} (hr_ : f_L_singer x1 x2 x3 v = some r) : Cx l yL_singer wsL_singer rmL_singer Λ [.ref (Λ.2.2.2.1 (0, 0, 0)), .int x1, .int x2, .int x3] v (some (.int r.1)) r.2.1 r.2.2 := by
  refine cx_of (cc := cL_singer) (maxL := 4) (ret := (some .int)) (fun (q : Int32 × Nat × mC) => (some (Value.int q.1), q.2)) hC.1 hr_ (by decide) rfl (Nat.le_of_ble_eq_true rfl) (fun Γ hG hT hN hl => ?_)
  subst hl
  show Sm Γ Λ (0, 0) 0 [(0, .ref (Λ.2.2.2.1 (0, 0, 0))), (1, .int x1), (2, .int x2), (3, .int x3)] [] v _
  unfold f_L_singer
  refine sm_iload_n hG 1 rfl dL_singer_0 rfl 1 rfl ?_
  refine sm_bipush (x := (8 : Int32)) hG 3 rfl dL_singer_1 rfl ?_
  refine sm_icmp_ne hG 22 6 rfl dL_singer_3 (by decide) ?_ ?_
  · refine sm_iload_n hG 23 rfl dL_singer_22 rfl 1 rfl ?_
    refine sm_bipush (x := (9 : Int32)) hG 25 rfl dL_singer_23 rfl ?_
    refine sm_icmp_ne hG 36 28 rfl dL_singer_25 (by decide) ?_ ?_
    · refine sm_iload_n hG 37 rfl dL_singer_36 rfl 1 rfl ?_
      refine sm_bipush (x := (10 : Int32)) hG 39 rfl dL_singer_37 rfl ?_
      refine sm_icmp_ne hG 50 42 rfl dL_singer_39 (by decide) ?_ ?_
      · refine sm_iload_n hG 51 rfl dL_singer_50 rfl 1 rfl ?_
        refine sm_bipush (x := (11 : Int32)) hG 53 rfl dL_singer_51 rfl ?_
        refine sm_icmp_ne hG 64 56 rfl dL_singer_53 (by decide) ?_ ?_
        · refine sm_iload_n hG 65 rfl dL_singer_64 rfl 1 rfl ?_
          refine sm_bipush (x := (12 : Int32)) hG 67 rfl dL_singer_65 rfl ?_
          refine sm_icmp_ne hG 78 70 rfl dL_singer_67 (by decide) ?_ ?_
          · refine sm_iload_n hG 79 rfl dL_singer_78 rfl 1 rfl ?_
            refine sm_bipush (x := (13 : Int32)) hG 81 rfl dL_singer_79 rfl ?_
            refine sm_icmp_ne hG 92 84 rfl dL_singer_81 (by decide) ?_ ?_
            · refine sm_iload_n hG 93 rfl dL_singer_92 rfl 1 rfl ?_
              refine sm_bipush (x := (14 : Int32)) hG 95 rfl dL_singer_93 rfl ?_
              refine sm_icmp_ne hG 106 98 rfl dL_singer_95 (by decide) ?_ ?_
              · refine sm_iload_n hG 107 rfl dL_singer_106 rfl 1 rfl ?_
                refine sm_bipush (x := (15 : Int32)) hG 109 rfl dL_singer_107 rfl ?_
                refine sm_icmp_ne hG 129 112 rfl dL_singer_109 (by decide) ?_ ?_
                · refine sm_iload_n hG 130 rfl dL_singer_129 rfl 1 rfl ?_
                  refine sm_bipush (x := (16 : Int32)) hG 132 rfl dL_singer_130 rfl ?_
                  refine sm_icmp_ne hG 143 135 rfl dL_singer_132 (by decide) ?_ ?_
                  · refine sm_iload_n hG 144 rfl dL_singer_143 rfl 1 rfl ?_
                    refine sm_bipush (x := (17 : Int32)) hG 146 rfl dL_singer_144 rfl ?_
                    refine sm_icmp_ne hG 157 149 rfl dL_singer_146 (by decide) ?_ ?_
                    · refine sm_aload_n hG 158 rfl dL_singer_157 rfl 0 rfl ?_
                      refine sm_iload_n hG 159 rfl dL_singer_158 rfl 2 rfl ?_
                      refine sm_xcallV hG hT (fun _ => rfl) (finc := (fun (q : Int32 × Nat × mC) => (some (Value.int q.1), q.2))) (fun _ => rfl) (0, 0, 0) [.int x2] 162 rfl (ok0 hC) (ce_0 hC _) (ci := 6) rfl (fun r_ hr_ => c_X6_favoursOf hC  hfl hr_) gL_singer_X6_favoursOf rfl (by decide) (by decide) (n := 1) rfl (Nat.le_of_ble_eq_true rfl) (1, 6) ⟨rfl, rfl⟩ (by decide) rfl dL_singer_159 (fun r_159 w_159 => ?_)
                      exact sm_tiret hG hT (by decide) dL_singer_162 rfl
                    · refine sm_aload_n hG 150 rfl dL_singer_149 rfl 0 rfl ?_
                      refine sm_iload_n hG 151 rfl dL_singer_150 rfl 2 rfl ?_
                      refine sm_xcallV hG hT (fun _ => rfl) (finc := (fun (q : Int32 × Nat × mC) => (some (Value.int q.1), q.2))) (fun _ => rfl) (0, 0, 0) [.int x2] 154 rfl (ok0 hC) (ce_0 hC _) (ci := 6) rfl (fun r_ hr_ => c_X6_descantsOf hC  hfl hr_) gL_singer_X6_descantsOf rfl (by decide) (by decide) (n := 1) rfl (Nat.le_of_ble_eq_true rfl) (1, 6) ⟨rfl, rfl⟩ (by decide) rfl dL_singer_151 (fun r_151 w_151 => ?_)
                      refine sm_goto hG 162 dL_singer_154 (by decide) ?_
                      exact sm_tiret hG hT (by decide) dL_singer_162 rfl
                  · refine sm_aload_n hG 136 rfl dL_singer_135 rfl 0 rfl ?_
                    refine sm_iload_n hG 137 rfl dL_singer_136 rfl 2 rfl ?_
                    refine sm_xcallV hG hT (fun _ => rfl) (finc := (fun (q : Int32 × Nat × mC) => (some (Value.int q.1), q.2))) (fun _ => rfl) (0, 0, 0) [.int x2] 140 rfl (ok0 hC) (ce_0 hC _) (ci := 6) rfl (fun r_ hr_ => c_X6_feastsOf hC  hfl hr_) gL_singer_X6_feastsOf rfl (by decide) (by decide) (n := 1) rfl (Nat.le_of_ble_eq_true rfl) (1, 6) ⟨rfl, rfl⟩ (by decide) rfl dL_singer_137 (fun r_137 w_137 => ?_)
                    refine sm_goto hG 162 dL_singer_140 (by decide) ?_
                    exact sm_tiret hG hT (by decide) dL_singer_162 rfl
                · refine sm_aload_n hG 113 rfl dL_singer_112 rfl 0 rfl ?_
                  refine sm_iload_n hG 114 rfl dL_singer_113 rfl 2 rfl ?_
                  refine sm_iload_n hG 115 rfl dL_singer_114 rfl 3 rfl ?_
                  refine sm_xcallV hG hT (fun _ => rfl) (finc := (fun (q : Int32 × Nat × mC) => (some (Value.int q.1), q.2))) (fun _ => rfl) (0, 0, 0) [.int x2, .int x3] 118 rfl (ok0 hC) (ce_0 hC _) (ci := 6) rfl (fun r_ hr_ => c_X6_isExcused hC  hfl hr_) gL_singer_X6_isExcused rfl (by decide) (by decide) (n := 2) rfl (Nat.le_of_ble_eq_true rfl) (2, 12) ⟨rfl, rfl⟩ (by decide) rfl dL_singer_115 (fun r_115 w_115 => ?_)
                  refine sm_if_eq hG 125 121 rfl dL_singer_118 (by decide) ?_ ?_
                  · refine sm_iconst (x := (0 : Int32)) hG 126 rfl dL_singer_125 rfl ?_
                    refine sm_goto hG 162 dL_singer_126 (by decide) ?_
                    exact sm_tiret hG hT (by decide) dL_singer_162 rfl
                  · refine sm_iconst (x := (1 : Int32)) hG 122 rfl dL_singer_121 rfl ?_
                    refine sm_goto hG 162 dL_singer_122 (by decide) ?_
                    exact sm_tiret hG hT (by decide) dL_singer_162 rfl
              · refine sm_aload_n hG 99 rfl dL_singer_98 rfl 0 rfl ?_
                refine sm_iload_n hG 100 rfl dL_singer_99 rfl 2 rfl ?_
                refine sm_xcallV hG hT (fun _ => rfl) (finc := (fun (q : Int32 × Nat × mC) => (some (Value.int q.1), q.2))) (fun _ => rfl) (0, 0, 0) [.int x2] 103 rfl (ok0 hC) (ce_0 hC _) (ci := 6) rfl (fun r_ hr_ => c_X6_awayUntil hC  hfl hr_) gL_singer_X6_awayUntil rfl (by decide) (by decide) (n := 1) rfl (Nat.le_of_ble_eq_true rfl) (1, 6) ⟨rfl, rfl⟩ (by decide) rfl dL_singer_100 (fun r_100 w_100 => ?_)
                refine sm_goto hG 162 dL_singer_103 (by decide) ?_
                exact sm_tiret hG hT (by decide) dL_singer_162 rfl
            · refine sm_aload_n hG 85 rfl dL_singer_84 rfl 0 rfl ?_
              refine sm_iload_n hG 86 rfl dL_singer_85 rfl 2 rfl ?_
              refine sm_xcallV hG hT (fun _ => rfl) (finc := (fun (q : Int32 × Nat × mC) => (some (Value.int q.1), q.2))) (fun _ => rfl) (0, 0, 0) [.int x2] 89 rfl (ok0 hC) (ce_0 hC _) (ci := 6) rfl (fun r_ hr_ => c_X6_choirOf hC  hfl hr_) gL_singer_X6_choirOf rfl (by decide) (by decide) (n := 1) rfl (Nat.le_of_ble_eq_true rfl) (1, 6) ⟨rfl, rfl⟩ (by decide) rfl dL_singer_86 (fun r_86 w_86 => ?_)
              refine sm_goto hG 162 dL_singer_89 (by decide) ?_
              exact sm_tiret hG hT (by decide) dL_singer_162 rfl
          · refine sm_aload_n hG 71 rfl dL_singer_70 rfl 0 rfl ?_
            refine sm_iload_n hG 72 rfl dL_singer_71 rfl 2 rfl ?_
            refine sm_xcallV hG hT (fun _ => rfl) (finc := (fun (q : Int32 × Nat × mC) => (some (Value.int q.1), q.2))) (fun _ => rfl) (0, 0, 0) [.int x2] 75 rfl (ok0 hC) (ce_0 hC _) (ci := 6) rfl (fun r_ hr_ => c_X6_breakDayOf hC  hfl hr_) gL_singer_X6_breakDayOf rfl (by decide) (by decide) (n := 1) rfl (Nat.le_of_ble_eq_true rfl) (1, 6) ⟨rfl, rfl⟩ (by decide) rfl dL_singer_72 (fun r_72 w_72 => ?_)
            refine sm_goto hG 162 dL_singer_75 (by decide) ?_
            exact sm_tiret hG hT (by decide) dL_singer_162 rfl
        · refine sm_aload_n hG 57 rfl dL_singer_56 rfl 0 rfl ?_
          refine sm_iload_n hG 58 rfl dL_singer_57 rfl 2 rfl ?_
          refine sm_xcallV hG hT (fun _ => rfl) (finc := (fun (q : Int32 × Nat × mC) => (some (Value.int q.1), q.2))) (fun _ => rfl) (0, 0, 0) [.int x2] 61 rfl (ok0 hC) (ce_0 hC _) (ci := 6) rfl (fun r_ hr_ => c_X6_highestNoteOf hC  hfl hr_) gL_singer_X6_highestNoteOf rfl (by decide) (by decide) (n := 1) rfl (Nat.le_of_ble_eq_true rfl) (1, 6) ⟨rfl, rfl⟩ (by decide) rfl dL_singer_58 (fun r_58 w_58 => ?_)
          refine sm_goto hG 162 dL_singer_61 (by decide) ?_
          exact sm_tiret hG hT (by decide) dL_singer_162 rfl
      · refine sm_aload_n hG 43 rfl dL_singer_42 rfl 0 rfl ?_
        refine sm_iload_n hG 44 rfl dL_singer_43 rfl 2 rfl ?_
        refine sm_xcallV hG hT (fun _ => rfl) (finc := (fun (q : Int32 × Nat × mC) => (some (Value.int q.1), q.2))) (fun _ => rfl) (0, 0, 0) [.int x2] 47 rfl (ok0 hC) (ce_0 hC _) (ci := 6) rfl (fun r_ hr_ => c_X6_lowestNoteOf hC  hfl hr_) gL_singer_X6_lowestNoteOf rfl (by decide) (by decide) (n := 1) rfl (Nat.le_of_ble_eq_true rfl) (1, 6) ⟨rfl, rfl⟩ (by decide) rfl dL_singer_44 (fun r_44 w_44 => ?_)
        refine sm_goto hG 162 dL_singer_47 (by decide) ?_
        exact sm_tiret hG hT (by decide) dL_singer_162 rfl
    · refine sm_aload_n hG 29 rfl dL_singer_28 rfl 0 rfl ?_
      refine sm_iload_n hG 30 rfl dL_singer_29 rfl 2 rfl ?_
      refine sm_xcallV hG hT (fun _ => rfl) (finc := (fun (q : Int32 × Nat × mC) => (some (Value.int q.1), q.2))) (fun _ => rfl) (0, 0, 0) [.int x2] 33 rfl (ok0 hC) (ce_0 hC _) (ci := 6) rfl (fun r_ hr_ => c_X6_ageOf hC  hfl hr_) gL_singer_X6_ageOf rfl (by decide) (by decide) (n := 1) rfl (Nat.le_of_ble_eq_true rfl) (1, 6) ⟨rfl, rfl⟩ (by decide) rfl dL_singer_30 (fun r_30 w_30 => ?_)
      refine sm_goto hG 162 dL_singer_33 (by decide) ?_
      exact sm_tiret hG hT (by decide) dL_singer_162 rfl
  · refine sm_aload_n hG 7 rfl dL_singer_6 rfl 0 rfl ?_
    refine sm_iload_n hG 8 rfl dL_singer_7 rfl 2 rfl ?_
    refine sm_xcallV hG hT (fun _ => rfl) (finc := (fun (q : Int32 × Nat × mC) => (some (Value.int q.1), q.2))) (fun _ => rfl) (0, 0, 0) [.int x2] 11 rfl (ok0 hC) (ce_0 hC _) (ci := 6) rfl (fun r_ hr_ => c_X6_isInChoir hC  hfl hr_) gL_singer_X6_isInChoir rfl (by decide) (by decide) (n := 1) rfl (Nat.le_of_ble_eq_true rfl) (1, 6) ⟨rfl, rfl⟩ (by decide) rfl dL_singer_8 (fun r_8 w_8 => ?_)
    refine sm_if_eq hG 18 14 rfl dL_singer_11 (by decide) ?_ ?_
    · refine sm_iconst (x := (0 : Int32)) hG 19 rfl dL_singer_18 rfl ?_
      refine sm_goto hG 162 dL_singer_19 (by decide) ?_
      exact sm_tiret hG hT (by decide) dL_singer_162 rfl
    · refine sm_iconst (x := (1 : Int32)) hG 15 rfl dL_singer_14 rfl ?_
      refine sm_goto hG 162 dL_singer_15 (by decide) ?_
      exact sm_tiret hG hT (by decide) dL_singer_162 rfl
abbrev rmL_feast : Room := { frames := 12, cells := 4, slots := 24, locals := 265 }
set_option maxRecDepth 100000 in
set_option maxHeartbeats 4000000 in
theorem c_L_feast {Λ : jL kC} (hC : LC Λ) {x1 : Int32} {x2 : Int32} {x3 : Int32} {x4 : Int32}  {l : Launch} (hfl : l.stackTraces = false) {v : mC} {r : (Int32 × Nat × mC)} (hr_ : f_L_feast x1 x2 x3 x4 v = some r) : Cx l yL_feast wsL_feast rmL_feast Λ [.ref (Λ.2.2.2.1 (0, 0, 0)), .int x1, .int x2, .int x3, .int x4] v (some (.int r.1)) r.2.1 r.2.2 := by
  refine cx_of (cc := cL_feast) (maxL := 5) (ret := (some .int)) (fun (q : Int32 × Nat × mC) => (some (Value.int q.1), q.2)) hC.1 hr_ (by decide) rfl (Nat.le_of_ble_eq_true rfl) (fun Γ hG hT hN hl => ?_)
  subst hl
  show Sm Γ Λ (0, 0) 0 [(0, .ref (Λ.2.2.2.1 (0, 0, 0))), (1, .int x1), (2, .int x2), (3, .int x3), (4, .int x4)] [] v _
  unfold f_L_feast
  refine sm_iload_n hG 1 rfl dL_feast_0 rfl 1 rfl ?_
  refine sm_bipush (x := (19 : Int32)) hG 3 rfl dL_feast_1 rfl ?_
  refine sm_icmp_ne hG 14 6 rfl dL_feast_3 (by decide) ?_ ?_
  · refine sm_iload_n hG 15 rfl dL_feast_14 rfl 1 rfl ?_
    refine sm_bipush (x := (20 : Int32)) hG 17 rfl dL_feast_15 rfl ?_
    refine sm_icmp_ne hG 36 20 rfl dL_feast_17 (by decide) ?_ ?_
    · refine sm_iload_n hG 37 rfl dL_feast_36 rfl 1 rfl ?_
      refine sm_bipush (x := (21 : Int32)) hG 39 rfl dL_feast_37 rfl ?_
      refine sm_icmp_ne hG 50 42 rfl dL_feast_39 (by decide) ?_ ?_
      · refine sm_iload_n hG 51 rfl dL_feast_50 rfl 1 rfl ?_
        refine sm_bipush (x := (22 : Int32)) hG 53 rfl dL_feast_51 rfl ?_
        refine sm_icmp_ne hG 64 56 rfl dL_feast_53 (by decide) ?_ ?_
        · refine sm_iload_n hG 65 rfl dL_feast_64 rfl 1 rfl ?_
          refine sm_bipush (x := (23 : Int32)) hG 67 rfl dL_feast_65 rfl ?_
          refine sm_icmp_ne hG 78 70 rfl dL_feast_67 (by decide) ?_ ?_
          · refine sm_iload_n hG 79 rfl dL_feast_78 rfl 1 rfl ?_
            refine sm_bipush (x := (24 : Int32)) hG 81 rfl dL_feast_79 rfl ?_
            refine sm_icmp_ne hG 92 84 rfl dL_feast_81 (by decide) ?_ ?_
            · refine sm_iload_n hG 93 rfl dL_feast_92 rfl 1 rfl ?_
              refine sm_bipush (x := (25 : Int32)) hG 95 rfl dL_feast_93 rfl ?_
              refine sm_icmp_ne hG 107 98 rfl dL_feast_95 (by decide) ?_ ?_
              · refine sm_iload_n hG 108 rfl dL_feast_107 rfl 1 rfl ?_
                refine sm_bipush (x := (26 : Int32)) hG 110 rfl dL_feast_108 rfl ?_
                refine sm_icmp_ne hG 122 113 rfl dL_feast_110 (by decide) ?_ ?_
                · refine sm_iload_n hG 123 rfl dL_feast_122 rfl 1 rfl ?_
                  refine sm_bipush (x := (27 : Int32)) hG 125 rfl dL_feast_123 rfl ?_
                  refine sm_icmp_ne hG 137 128 rfl dL_feast_125 (by decide) ?_ ?_
                  · refine sm_iload_n hG 138 rfl dL_feast_137 rfl 1 rfl ?_
                    refine sm_bipush (x := (28 : Int32)) hG 140 rfl dL_feast_138 rfl ?_
                    refine sm_icmp_ne hG 159 143 rfl dL_feast_140 (by decide) ?_ ?_
                    · refine sm_aload_n hG 160 rfl dL_feast_159 rfl 0 rfl ?_
                      refine sm_iload_n hG 161 rfl dL_feast_160 rfl 2 rfl ?_
                      refine sm_iload_n hG 162 rfl dL_feast_161 rfl 3 rfl ?_
                      refine sm_iload hG 164 rfl dL_feast_162 4 rfl ?_
                      refine sm_xcallV hG hT (fun _ => rfl) (finc := (fun (q : Int32 × Nat × mC) => (some (Value.int q.1), q.2))) (fun _ => rfl) (0, 0, 0) [.int x2, .int x3, .int x4] 167 rfl (ok0 hC) (ce_0 hC _) (ci := 6) rfl (fun r_ hr_ => c_X6_whyNot hC  hfl hr_) gL_feast_X6_whyNot rfl (by decide) (by decide) (n := 3) rfl (Nat.le_of_ble_eq_true rfl) (4, 24) ⟨rfl, rfl⟩ (by decide) rfl dL_feast_164 (fun r_164 w_164 => ?_)
                      exact sm_tiret hG hT (by decide) dL_feast_167 rfl
                    · refine sm_aload_n hG 144 rfl dL_feast_143 rfl 0 rfl ?_
                      refine sm_iload_n hG 145 rfl dL_feast_144 rfl 2 rfl ?_
                      refine sm_iload_n hG 146 rfl dL_feast_145 rfl 3 rfl ?_
                      refine sm_xcallV hG hT (fun _ => rfl) (finc := (fun (q : Int32 × Nat × mC) => (some (Value.int q.1), q.2))) (fun _ => rfl) (0, 0, 0) [.int x2, .int x3] 149 rfl (ok0 hC) (ce_0 hC _) (ci := 6) rfl (fun r_ hr_ => c_X6_pewOf hC  hfl hr_) gL_feast_X6_pewOf rfl (by decide) (by decide) (n := 2) rfl (Nat.le_of_ble_eq_true rfl) (2, 12) ⟨rfl, rfl⟩ (by decide) rfl dL_feast_146 (fun r_146 w_146 => ?_)
                      refine sm_aload_n hG 150 rfl dL_feast_149 rfl 0 rfl ?_
                      refine sm_iload_n hG 151 rfl dL_feast_150 rfl 2 rfl ?_
                      refine sm_iload_n hG 152 rfl dL_feast_151 rfl 3 rfl ?_
                      refine sm_xcallV hG hT (fun _ => rfl) (finc := (fun (q : Int32 × Nat × mC) => (some (Value.int q.1), q.2))) (fun _ => rfl) (0, 0, 0) [.int x2, .int x3] 155 rfl (ok0 hC) (ce_0 hC _) (ci := 6) rfl (fun r_ hr_ => c_X6_seatOf hC  hfl hr_) gL_feast_X6_seatOf rfl (by decide) (by decide) (n := 2) rfl (Nat.le_of_ble_eq_true rfl) (4, 24) ⟨rfl, rfl⟩ (by decide) rfl dL_feast_152 (fun r_152 w_152 => ?_)
                      refine sm_iadd hG 156 rfl dL_feast_155 ?_
                      refine sm_goto hG 167 dL_feast_156 (by decide) ?_
                      exact sm_tiret hG hT (by decide) dL_feast_167 rfl
                  · refine sm_aload_n hG 129 rfl dL_feast_128 rfl 0 rfl ?_
                    refine sm_iload_n hG 130 rfl dL_feast_129 rfl 2 rfl ?_
                    refine sm_iload_n hG 131 rfl dL_feast_130 rfl 3 rfl ?_
                    refine sm_xcallV hG hT (fun _ => rfl) (finc := (fun (q : Int32 × Nat × mC) => (some (Value.int q.1), q.2))) (fun _ => rfl) (0, 0, 0) [.int x2, .int x3] 134 rfl (ok0 hC) (ce_0 hC _) (ci := 6) rfl (fun r_ hr_ => c_X6_singersIn hC  hfl hr_) gL_feast_X6_singersIn rfl (by decide) (by decide) (n := 2) rfl (Nat.le_of_ble_eq_true rfl) (2, 12) ⟨rfl, rfl⟩ (by decide) rfl dL_feast_131 (fun r_131 w_131 => ?_)
                    refine sm_goto hG 167 dL_feast_134 (by decide) ?_
                    exact sm_tiret hG hT (by decide) dL_feast_167 rfl
                · refine sm_aload_n hG 114 rfl dL_feast_113 rfl 0 rfl ?_
                  refine sm_iload_n hG 115 rfl dL_feast_114 rfl 2 rfl ?_
                  refine sm_iload_n hG 116 rfl dL_feast_115 rfl 3 rfl ?_
                  refine sm_xcallV hG hT (fun _ => rfl) (finc := (fun (q : Int32 × Nat × mC) => (some (Value.int q.1), q.2))) (fun _ => rfl) (0, 0, 0) [.int x2, .int x3] 119 rfl (ok0 hC) (ce_0 hC _) (ci := 6) rfl (fun r_ hr_ => c_X6_placesIn hC  hfl hr_) gL_feast_X6_placesIn rfl (by decide) (by decide) (n := 2) rfl (Nat.le_of_ble_eq_true rfl) (2, 12) ⟨rfl, rfl⟩ (by decide) rfl dL_feast_116 (fun r_116 w_116 => ?_)
                  refine sm_goto hG 167 dL_feast_119 (by decide) ?_
                  exact sm_tiret hG hT (by decide) dL_feast_167 rfl
              · refine sm_aload_n hG 99 rfl dL_feast_98 rfl 0 rfl ?_
                refine sm_iload_n hG 100 rfl dL_feast_99 rfl 2 rfl ?_
                refine sm_iload_n hG 101 rfl dL_feast_100 rfl 3 rfl ?_
                refine sm_xcallV hG hT (fun _ => rfl) (finc := (fun (q : Int32 × Nat × mC) => (some (Value.int q.1), q.2))) (fun _ => rfl) (0, 0, 0) [.int x2, .int x3] 104 rfl (ok0 hC) (ce_0 hC _) (ci := 6) rfl (fun r_ hr_ => c_X6_lineOf hC  hfl hr_) gL_feast_X6_lineOf rfl (by decide) (by decide) (n := 2) rfl (Nat.le_of_ble_eq_true rfl) (2, 12) ⟨rfl, rfl⟩ (by decide) rfl dL_feast_101 (fun r_101 w_101 => ?_)
                refine sm_goto hG 167 dL_feast_104 (by decide) ?_
                exact sm_tiret hG hT (by decide) dL_feast_167 rfl
            · refine sm_aload_n hG 85 rfl dL_feast_84 rfl 0 rfl ?_
              refine sm_iload_n hG 86 rfl dL_feast_85 rfl 2 rfl ?_
              refine sm_xcallV hG hT (fun _ => rfl) (finc := (fun (q : Int32 × Nat × mC) => (some (Value.int q.1), q.2))) (fun _ => rfl) (0, 0, 0) [.int x2] 89 rfl (ok0 hC) (ce_0 hC _) (ci := 6) rfl (fun r_ hr_ => c_X6_descantIn hC  hfl hr_) gL_feast_X6_descantIn rfl (by decide) (by decide) (n := 1) rfl (Nat.le_of_ble_eq_true rfl) (1, 6) ⟨rfl, rfl⟩ (by decide) rfl dL_feast_86 (fun r_86 w_86 => ?_)
              refine sm_goto hG 167 dL_feast_89 (by decide) ?_
              exact sm_tiret hG hT (by decide) dL_feast_167 rfl
          · refine sm_aload_n hG 71 rfl dL_feast_70 rfl 0 rfl ?_
            refine sm_iload_n hG 72 rfl dL_feast_71 rfl 2 rfl ?_
            refine sm_xcallV hG hT (fun _ => rfl) (finc := (fun (q : Int32 × Nat × mC) => (some (Value.int q.1), q.2))) (fun _ => rfl) (0, 0, 0) [.int x2] 75 rfl (ok0 hC) (ce_0 hC _) (ci := 6) rfl (fun r_ hr_ => c_X6_neededLine hC  hfl hr_) gL_feast_X6_neededLine rfl (by decide) (by decide) (n := 1) rfl (Nat.le_of_ble_eq_true rfl) (2, 12) ⟨rfl, rfl⟩ (by decide) rfl dL_feast_72 (fun r_72 w_72 => ?_)
            refine sm_goto hG 167 dL_feast_75 (by decide) ?_
            exact sm_tiret hG hT (by decide) dL_feast_167 rfl
        · refine sm_aload_n hG 57 rfl dL_feast_56 rfl 0 rfl ?_
          refine sm_iload_n hG 58 rfl dL_feast_57 rfl 2 rfl ?_
          refine sm_xcallV hG hT (fun _ => rfl) (finc := (fun (q : Int32 × Nat × mC) => (some (Value.int q.1), q.2))) (fun _ => rfl) (0, 0, 0) [.int x2] 61 rfl (ok0 hC) (ce_0 hC _) (ci := 6) rfl (fun r_ hr_ => c_X6_shortfallBySets hC  hfl hr_) gL_feast_X6_shortfallBySets rfl (by decide) (by decide) (n := 1) rfl (Nat.le_of_ble_eq_true rfl) (2, 12) ⟨rfl, rfl⟩ (by decide) rfl dL_feast_58 (fun r_58 w_58 => ?_)
          refine sm_goto hG 167 dL_feast_61 (by decide) ?_
          exact sm_tiret hG hT (by decide) dL_feast_167 rfl
      · refine sm_aload_n hG 43 rfl dL_feast_42 rfl 0 rfl ?_
        refine sm_iload_n hG 44 rfl dL_feast_43 rfl 2 rfl ?_
        refine sm_xcallV hG hT (fun _ => rfl) (finc := (fun (q : Int32 × Nat × mC) => (some (Value.int q.1), q.2))) (fun _ => rfl) (0, 0, 0) [.int x2] 47 rfl (ok0 hC) (ce_0 hC _) (ci := 6) rfl (fun r_ hr_ => c_X6_shortfall hC  hfl hr_) gL_feast_X6_shortfall rfl (by decide) (by decide) (n := 1) rfl (Nat.le_of_ble_eq_true rfl) (1, 6) ⟨rfl, rfl⟩ (by decide) rfl dL_feast_44 (fun r_44 w_44 => ?_)
        refine sm_goto hG 167 dL_feast_47 (by decide) ?_
        exact sm_tiret hG hT (by decide) dL_feast_167 rfl
    · refine sm_aload_n hG 21 rfl dL_feast_20 rfl 0 rfl ?_
      refine sm_iload_n hG 22 rfl dL_feast_21 rfl 2 rfl ?_
      refine sm_xcallV hG hT (fun _ => rfl) (finc := (fun (q : Int32 × Nat × mC) => (some (Value.int q.1), q.2))) (fun _ => rfl) (0, 0, 0) [.int x2] 25 rfl (ok0 hC) (ce_0 hC _) (ci := 6) rfl (fun r_ hr_ => c_X6_isHeld hC  hfl hr_) gL_feast_X6_isHeld rfl (by decide) (by decide) (n := 1) rfl (Nat.le_of_ble_eq_true rfl) (1, 6) ⟨rfl, rfl⟩ (by decide) rfl dL_feast_22 (fun r_22 w_22 => ?_)
      refine sm_if_eq hG 32 28 rfl dL_feast_25 (by decide) ?_ ?_
      · refine sm_iconst (x := (0 : Int32)) hG 33 rfl dL_feast_32 rfl ?_
        refine sm_goto hG 167 dL_feast_33 (by decide) ?_
        exact sm_tiret hG hT (by decide) dL_feast_167 rfl
      · refine sm_iconst (x := (1 : Int32)) hG 29 rfl dL_feast_28 rfl ?_
        refine sm_goto hG 167 dL_feast_29 (by decide) ?_
        exact sm_tiret hG hT (by decide) dL_feast_167 rfl
  · refine sm_aload_n hG 7 rfl dL_feast_6 rfl 0 rfl ?_
    refine sm_iload_n hG 8 rfl dL_feast_7 rfl 2 rfl ?_
    refine sm_xcallV hG hT (fun _ => rfl) (finc := (fun (q : Int32 × Nat × mC) => (some (Value.int q.1), q.2))) (fun _ => rfl) (0, 0, 0) [.int x2] 11 rfl (ok0 hC) (ce_0 hC _) (ci := 6) rfl (fun r_ hr_ => c_X6_dayOf hC  hfl hr_) gL_feast_X6_dayOf rfl (by decide) (by decide) (n := 1) rfl (Nat.le_of_ble_eq_true rfl) (1, 6) ⟨rfl, rfl⟩ (by decide) rfl dL_feast_8 (fun r_8 w_8 => ?_)
    refine sm_goto hG 167 dL_feast_11 (by decide) ?_
    exact sm_tiret hG hT (by decide) dL_feast_167 rfl
abbrev rmL_rest : Room := { frames := 11, cells := 1, slots := 6, locals := 241 }
set_option maxRecDepth 100000 in
set_option maxHeartbeats 4000000 in
theorem c_L_rest {Λ : jL kC} (hC : LC Λ) {x1 : Int32} {x2 : Int32}  {l : Launch} (hfl : l.stackTraces = false) {v : mC} {r : (Int32 × Nat × mC)} (hr_ : f_L_rest x1 x2 v = some r) : Cx l yL_rest wsL_rest rmL_rest Λ [.ref (Λ.2.2.2.1 (0, 0, 0)), .int x1, .int x2] v (some (.int r.1)) r.2.1 r.2.2 := by
  refine cx_of (cc := cL_rest) (maxL := 3) (ret := (some .int)) (fun (q : Int32 × Nat × mC) => (some (Value.int q.1), q.2)) hC.1 hr_ (by decide) rfl (Nat.le_of_ble_eq_true rfl) (fun Γ hG hT hN hl => ?_)
  subst hl
  show Sm Γ Λ (0, 0) 0 [(0, .ref (Λ.2.2.2.1 (0, 0, 0))), (1, .int x1), (2, .int x2)] [] v _
  unfold f_L_rest
  refine sm_iload_n hG 1 rfl dL_rest_0 rfl 1 rfl ?_
  refine sm_bipush (x := (30 : Int32)) hG 3 rfl dL_rest_1 rfl ?_
  refine sm_icmp_ne hG 15 6 rfl dL_rest_3 (by decide) ?_ ?_
  · refine sm_iload_n hG 16 rfl dL_rest_15 rfl 1 rfl ?_
    refine sm_bipush (x := (31 : Int32)) hG 18 rfl dL_rest_16 rfl ?_
    refine sm_icmp_ne hG 28 21 rfl dL_rest_18 (by decide) ?_ ?_
    · refine sm_iload_n hG 29 rfl dL_rest_28 rfl 1 rfl ?_
      refine sm_bipush (x := (32 : Int32)) hG 31 rfl dL_rest_29 rfl ?_
      refine sm_icmp_ne hG 41 34 rfl dL_rest_31 (by decide) ?_ ?_
      · refine sm_iload_n hG 42 rfl dL_rest_41 rfl 1 rfl ?_
        refine sm_bipush (x := (33 : Int32)) hG 44 rfl dL_rest_42 rfl ?_
        refine sm_icmp_ne hG 54 47 rfl dL_rest_44 (by decide) ?_ ?_
        · refine sm_aload_n hG 55 rfl dL_rest_54 rfl 0 rfl ?_
          refine sm_xcallV hG hT (fun _ => rfl) (finc := (fun (q : Int32 × Nat × mC) => (some (Value.int q.1), q.2))) (fun _ => rfl) (0, 0, 0) [] 58 rfl (ok0 hC) (ce_0 hC _) (ci := 6) rfl (fun r_ hr_ => c_X6_restoreSnapshot hC  hfl hr_) gL_rest_X6_restoreSnapshot rfl (by decide) (by decide) (n := 0) rfl (Nat.le_of_ble_eq_true rfl) (1, 6) ⟨rfl, rfl⟩ (by decide) rfl dL_rest_55 (fun r_55 w_55 => ?_)
          exact sm_tiret hG hT (by decide) dL_rest_58 rfl
        · refine sm_aload_n hG 48 rfl dL_rest_47 rfl 0 rfl ?_
          refine sm_xcallV hG hT (fun _ => rfl) (finc := (fun (q : Int32 × Nat × mC) => (some (Value.int q.1), q.2))) (fun _ => rfl) (0, 0, 0) [] 51 rfl (ok0 hC) (ce_0 hC _) (ci := 6) rfl (fun r_ hr_ => c_X6_undo hC  hfl hr_) gL_rest_X6_undo rfl (by decide) (by decide) (n := 0) rfl (Nat.le_of_ble_eq_true rfl) (1, 6) ⟨rfl, rfl⟩ (by decide) rfl dL_rest_48 (fun r_48 w_48 => ?_)
          refine sm_goto hG 58 dL_rest_51 (by decide) ?_
          exact sm_tiret hG hT (by decide) dL_rest_58 rfl
      · refine sm_aload_n hG 35 rfl dL_rest_34 rfl 0 rfl ?_
        refine sm_xcallV hG hT (fun _ => rfl) (finc := (fun (q : Int32 × Nat × mC) => (some (Value.int q.1), q.2))) (fun _ => rfl) (0, 0, 0) [] 38 rfl (ok0 hC) (ce_0 hC _) (ci := 6) rfl (fun r_ hr_ => c_X6_carryOut hC  hfl hr_) gL_rest_X6_carryOut rfl (by decide) (by decide) (n := 0) rfl (Nat.le_of_ble_eq_true rfl) (1, 6) ⟨rfl, rfl⟩ (by decide) rfl dL_rest_35 (fun r_35 w_35 => ?_)
        refine sm_goto hG 58 dL_rest_38 (by decide) ?_
        exact sm_tiret hG hT (by decide) dL_rest_58 rfl
    · refine sm_aload_n hG 22 rfl dL_rest_21 rfl 0 rfl ?_
      refine sm_xcallV hG hT (fun _ => rfl) (finc := (fun (q : Int32 × Nat × mC) => (some (Value.int q.1), q.2))) (fun _ => rfl) (0, 0, 0) [] 25 rfl (ok0 hC) (ce_0 hC _) (ci := 6) rfl (fun r_ hr_ => c_X6_impossibleOrder hC  hfl hr_) gL_rest_X6_impossibleOrder rfl (by decide) (by decide) (n := 0) rfl (Nat.le_of_ble_eq_true rfl) (1, 6) ⟨rfl, rfl⟩ (by decide) rfl dL_rest_22 (fun r_22 w_22 => ?_)
      refine sm_goto hG 58 dL_rest_25 (by decide) ?_
      exact sm_tiret hG hT (by decide) dL_rest_58 rfl
  · refine sm_aload_n hG 7 rfl dL_rest_6 rfl 0 rfl ?_
    refine sm_iload_n hG 8 rfl dL_rest_7 rfl 2 rfl ?_
    refine sm_i2c hG 9 rfl dL_rest_8 ?_
    refine sm_xcallV hG hT (fun _ => rfl) (finc := (fun (q : Int32 × Nat × mC) => (some (Value.int q.1), q.2))) (fun _ => rfl) (0, 0, 0) [.int (x2.toUInt32 % 65536).toInt32] 12 rfl (ok0 hC) (ce_0 hC _) (ci := 6) rfl (fun r_ hr_ => c_X6_type hC  hfl hr_) gL_rest_X6_type rfl (by decide) (by decide) (n := 1) rfl (Nat.le_of_ble_eq_true rfl) (1, 6) ⟨rfl, rfl⟩ (by decide) rfl dL_rest_9 (fun r_9 w_9 => ?_)
    refine sm_goto hG 58 dL_rest_12 (by decide) ?_
    exact sm_tiret hG hT (by decide) dL_rest_58 rfl
