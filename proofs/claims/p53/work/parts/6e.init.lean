/-! the law's first calls on its own object (printed by wip/p53/gchain.py) -/
noncomputable def lq_617 : List Nat := [1000001, 4294967296, 1, 0, 0, 0, 361, 11, 31, 2, nq_2, 1, 0, 0, 0, 0, 0, 0, 1, 1, 1, 151, 4294962977, 4294967296, 0, nq_3]
noncomputable def Sq_600 : MG := [lq_3, lq_617, lq_2, lq_2, lq_2, lq_2, lq_2, lq_2]
noncomputable def nq_1237 : Nat := nat_lit 0x1000000000000000169
noncomputable def nq_1238 : Nat := nat_lit 0xffffd5d100ffffef21
noncomputable def lq_618 : List Nat := [1099512727288627777, nq_6, 1, 0, 0, 0, nq_1237, 1099511627787, 23089744183327, 3, nq_2, 1, 0, 0, 0, 0, 0, 0, 1099511627777, 1099511627777, 1099511627777, 188016488349847, nq_1238, nq_6, 0, nq_3]
noncomputable def Sq_601 : MG := [lq_5, lq_618, lq_2, lq_2, lq_2, lq_2, lq_2, lq_2]
noncomputable def lq_619 : List Nat := [1099512727288627777, nq_6, 1, 0, 0, 0, nq_1237, 1099511627787, 23089744183327, 3, nq_2, 2, 31, nq_16, nq_16, nq_16, 3, 0, 1099511627777, 1099511627777, 1099511627777, 188016488349847, nq_1238, nq_6, 0, nq_3]
noncomputable def Sq_602 : MG := [lq_7, lq_619, lq_2, lq_2, lq_2, lq_2, lq_2, lq_2]
noncomputable def nq_1239 : Nat := nat_lit 0x1000000000100000000010000000013
noncomputable def lq_620 : List Nat := [1099512727288627777, nq_6, 1, 0, 0, 0, nq_1237, 1099511627787, 23089744183327, 3, nq_2, 2, 31, nq_354, nq_355, nq_1239, 3, 0, 1099511627777, 1099511627777, 1099511627777, 188016488349847, nq_1238, nq_6, 0, nq_3]
noncomputable def Sq_603 : MG := [lq_9, lq_620, lq_2, lq_2, lq_2, lq_2, lq_2, lq_2]
noncomputable def SqI : MG := Sq_603
set_option maxRecDepth 100000 in
set_option maxHeartbeats 4000000 in
theorem init_ok : ∃ v1 v2 v3 v4, nn (f_X6_register 12 150 10 30 13 v0) = some (0, v1) ∧ nn (f_X6_register 30 170 0 20 0 v1) = some (1, v2) ∧ nn (f_X6_announce 30 2 v2) = some (0, v3) ∧ nn (f_X6_setLine 0 0 2 12 18 v3) = some (2, v4) ∧ KK v4 SqI := by
  obtain ⟨⟨x1, v1⟩, e1, h1, K1⟩ := k_register (v := v0) (S := Sq_0) (S2 := Sq_600) (c := 0) (rfl : (12 : Int32) = nI 12) (rfl : (150 : Int32) = nI 150) (rfl : (10 : Int32) = nI 10) (rfl : (30 : Int32) = nI 30) (rfl : (13 : Int32) = nI 13) ⟨rm_0 (by decide +kernel), _, IV_0⟩ (by decide +kernel)
  have e1' : nn (f_X6_register 12 150 10 30 13 v0) = some (0, v1) := by
    rw [e1]
    dsimp only at h1
    rw [h1]
    rfl
  obtain ⟨⟨x2, v2⟩, e2, h2, K2⟩ := k_register (v := v1) (S := Sq_600) (S2 := Sq_601) (c := 1) (rfl : (30 : Int32) = nI 30) (rfl : (170 : Int32) = nI 170) (rfl : (0 : Int32) = nI 0) (rfl : (20 : Int32) = nI 20) (rfl : (0 : Int32) = nI 0) K1 (by decide +kernel)
  have e2' : nn (f_X6_register 30 170 0 20 0 v1) = some (1, v2) := by
    rw [e2]
    dsimp only at h2
    rw [h2]
    rfl
  obtain ⟨⟨x3, v3⟩, e3, h3, K3⟩ := k_announce (v := v2) (S := Sq_601) (S2 := Sq_602) (c := 0) (rfl : (30 : Int32) = nI 30) (rfl : (2 : Int32) = nI 2) K2 (by decide +kernel)
  have e3' : nn (f_X6_announce 30 2 v2) = some (0, v3) := by
    rw [e3]
    dsimp only at h3
    rw [h3]
    rfl
  obtain ⟨⟨x4, v4⟩, e4, h4, K4⟩ := k_setLine (v := v3) (S := Sq_602) (S2 := Sq_603) (c := 2) (rfl : (0 : Int32) = nI 0) (rfl : (0 : Int32) = nI 0) (rfl : (2 : Int32) = nI 2) (rfl : (12 : Int32) = nI 12) (rfl : (18 : Int32) = nI 18) K3 (by decide +kernel)
  have e4' : nn (f_X6_setLine 0 0 2 12 18 v3) = some (2, v4) := by
    rw [e4]
    dsimp only at h4
    rw [h4]
    rfl
  exact ⟨v1, v2, v3, v4, e1', e2', e3', e4', K4⟩
