/-! THE LAW'S CHARACTERS: a narrowed number is one of 65536 -/
theorem nr_1 (y : UInt16) : y.toUInt32.toInt32 = nI y.toNat := by
  apply Int32.toBitVec_inj.mp
  apply BitVec.eq_of_toNat_eq
  have h := y.toNat_lt
  simp [nI]
theorem nr_c (x : Int32) : ∃ c : Nat, c ≤ 65535 ∧ vp_nar .char x = nI c := by
  rw [vp_nar_char]
  refine ⟨x.toUInt32.toUInt16.toNat, ?_, nr_1 _⟩
  have h := x.toUInt32.toUInt16.toNat_lt
  omega
theorem nr_n {c : Nat} (hc : c ≤ 65535) : vp_nar .char (nI c) = nI c := by
  rw [vp_nar_char, nr_1]
  have e : (nI c).toUInt32.toUInt16.toNat = c := by
    simp [nI]
    omega
  rw [e]
theorem nr_nr (x : Int32) : vp_nar .char (vp_nar .char x) = vp_nar .char x := by
  obtain ⟨c, hc, e⟩ := nr_c x
  rw [e, nr_n hc]
