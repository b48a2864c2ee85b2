/-! CALLS OUT OF RANGE: they throw in the document's order, and nothing has changed -/
section Th
variable {v : mC} {w : mM} {D n m f : Nat} {dd : Nat → Nat}
theorem th_register (R : Rl v 0 (w 1) D n m f dd) {x1 x2 x3 x4 x5 : Int32} (hp : ¬ (((7 ≤ x1 ∧ x1 ≤ 70) ∧ pH x2 ∧ (x5 = 0 ∨ (12 ≤ x5 ∧ x5 ≤ 17))) ∧ pN x3 x4)) : f_X6_register x1 x2 x3 x4 x5 v = some (0, 2, v) := by
  unfold f_X6_register
  rw [s_refEnrol R.2.1.2.2.1 R.1.2.1, bnd_s, if_neg hp, rf2]
theorem th_borrow1 {x1 x2 x3 x4 x5 x6 : Int32} (hp : ¬ (0 ≤ x1 ∧ x1 ≤ 4)) : f_X6_borrow x1 x2 x3 x4 x5 x6 v = some (0, 1, v) := by
  simp only [f_X6_borrow, f_X0_refusalToHire, jn_e, s_within, bnd_s, b2_if, if_neg hp, rf1]
theorem th_borrow2 {x1 x2 x3 x4 x5 x6 : Int32} (h1 : 0 ≤ x1 ∧ x1 ≤ 4) (hp : ¬ ((0 ≤ x2 ∧ x2 ≤ 9) ∧ (1 ≤ x6 ∧ x6 ≤ 90) ∧ (pH x3 ∧ pN x4 x5))) : f_X6_borrow x1 x2 x3 x4 x5 x6 v = some (0, 2, v) := by
  have z : ¬ (1 : Int32) = 0 := by decide
  simp only [f_X6_borrow, f_X0_refusalToHire, jn_e, s_within, s_isHR, bnd_s, b2_if, if_pos h1]
  by_cases a : 0 ≤ x2 ∧ x2 ≤ 9
  · rw [if_pos a]
    by_cases b : 1 ≤ x6 ∧ x6 ≤ 90
    · rw [if_pos b, if_neg z]
      have c : ¬ (pH x3 ∧ pN x4 x5) := fun q => hp ⟨a, b, q⟩
      rw [if_neg c, bnd_s, rf2]
    · rw [if_neg b, if_pos trivial, bnd_s, rf2]
  · rw [if_neg a, if_pos trivial, bnd_s, rf2]
theorem th_leave (R : Rl v 0 (w 1) D n m f dd) {x1 : Int32} (hp : ¬ isI x1 n) : f_X6_leave x1 v = some (0, 1, v) := by
  simp only [f_X6_leave, f_X0_refusalToDismiss, s_has R.2.1.2.2.1 R.1.2.1, bnd_s, b2_if, if_neg hp, rf1]
theorem th_lend1 (R : Rl v 0 (w 1) D n m f dd) {x1 x2 x3 : Int32} (hp : ¬ (isI x1 n ∧ (0 ≤ x2 ∧ x2 ≤ 4))) : f_X6_lend x1 x2 x3 v = some (0, 1, v) := by
  simp only [f_X6_lend, f_X0_refusalToSendAway, jn_e, s_has R.2.1.2.2.1 R.1.2.1, s_within, bnd_s, b2_if]
  by_cases a : isI x1 n
  · rw [if_pos a, if_neg (fun q => hp ⟨a, q⟩), bnd_s, rf1]
  · rw [if_neg a, bnd_s, rf1]
theorem th_lend2 (R : Rl v 0 (w 1) D n m f dd) {x1 x2 x3 : Int32} (h1 : isI x1 n) (h2 : 0 ≤ x2 ∧ x2 ≤ 4) (hp : ¬ (1 ≤ x3 ∧ x3 ≤ 90)) : f_X6_lend x1 x2 x3 v = some (0, 2, v) := by
  simp only [f_X6_lend, f_X0_refusalToSendAway, jn_e, s_has R.2.1.2.2.1 R.1.2.1, s_within, bnd_s, b2_if, if_pos h1, if_pos h2, if_neg hp, rf2]
theorem th_excuse1 (R : Rl v 0 (w 1) D n m f dd) {x1 x2 x3 : Int32} (hp : ¬ isI x1 n) : f_X6_excuse x1 x2 x3 v = some (0, 1, v) := by
  simp only [f_X6_excuse, f_X0_refusalToTakeNote, jn_e, s_has R.2.1.2.2.1 R.1.2.1, bnd_s, b2_if, if_neg hp, rf1]
theorem th_excuse2 (R : Rl v 0 (w 1) D n m f dd) {x1 x2 x3 : Int32} (h1 : isI x1 n) (hp : ¬ ((nI D + 1 ≤ x2 ∧ x2 ≤ 9999) ∧ (x2 ≤ x3 ∧ x3 ≤ x2 + 60))) : f_X6_excuse x1 x2 x3 v = some (0, 2, v) := by
  simp only [f_X6_excuse, f_X0_refusalToTakeNote, jn_e, s_has R.2.1.2.2.1 R.1.2.1, s_within, bnd_s, b2_if, if_pos h1, R.2.1.1]
  by_cases a : nI D + 1 ≤ x2 ∧ x2 ≤ 9999
  · rw [if_pos a, if_neg (fun q => hp ⟨a, q⟩), bnd_s, rf2]
  · rw [if_neg a, bnd_s, rf2]
theorem th_announce (R : Rl v 0 (w 1) D n m f dd) {x1 x2 : Int32} (hp : ¬ ((nI D + 1 ≤ x1 ∧ x1 ≤ 9999) ∧ (1 ≤ x2 ∧ x2 ≤ 3))) : f_X6_announce x1 x2 v = some (0, 2, v) := by
  simp only [f_X6_announce, f_X0_refusalToAddFeast, jn_e, s_within, bnd_s, b2_if, R.2.1.1]
  by_cases a : nI D + 1 ≤ x1 ∧ x1 ≤ 9999
  · rw [if_pos a, if_neg (fun q => hp ⟨a, q⟩), bnd_s, rf2]
  · rw [if_neg a, bnd_s, rf2]
theorem th_setLine1 (R : Rl v 0 (w 1) D n m f dd) {x1 x2 x3 x4 x5 : Int32} (hp : ¬ (isI x1 f ∧ (0 ≤ x2 ∧ x2 ≤ 3))) : f_X6_setLine x1 x2 x3 x4 x5 v = some (0, 1, v) := by
  simp only [f_X6_setLine, f_X0_refusalToArrange, jn_e, s_hasF R.2.1.2.2.2.2.2.2.1 R.1.2.2.2, s_isLine, bnd_s, b2_if]
  by_cases a : isI x1 f
  · rw [if_pos a, if_neg (fun q => hp ⟨a, q⟩), bnd_s, rf1]
  · rw [if_neg a, bnd_s, rf1]
theorem th_setLine2 (R : Rl v 0 (w 1) D n m f dd) {x1 x2 x3 x4 x5 : Int32} (h1 : isI x1 f) (h2 : 0 ≤ x2 ∧ x2 ≤ 3) (hp : ¬ ((0 ≤ x3 ∧ x3 ≤ 6) ∧ pN x4 x5)) : f_X6_setLine x1 x2 x3 x4 x5 v = some (0, 2, v) := by
  simp only [f_X6_setLine, f_X0_refusalToArrange, jn_e, s_hasF R.2.1.2.2.2.2.2.2.1 R.1.2.2.2, s_isLine, s_within, s_isRange, bnd_s, b2_if, if_pos h1, if_pos h2]
  by_cases a : 0 ≤ x3 ∧ x3 ≤ 6
  · rw [if_pos a, if_neg (fun q => hp ⟨a, q⟩), bnd_s, rf2]
  · rw [if_neg a, bnd_s, rf2]
theorem th_passDays {x1 : Int32} (hp : ¬ (1 ≤ x1 ∧ x1 ≤ 99)) : f_X6_passDays x1 v = some (0, 2, v) := by
  simp only [f_X6_passDays, f_X0_refusalToAdvance, jn_e, s_within, bnd_s, b2_if, if_neg hp, rf2]
theorem th_ageOf (R : Rl v 0 (w 1) D n m f dd) {x1 : Int32} (hp : ¬ isI x1 n) : f_X6_ageOf x1 v = some (0, 1, v) := by
  unfold f_X6_ageOf
  exact reqS_f R hp _
theorem th_highestNoteOf (R : Rl v 0 (w 1) D n m f dd) {x1 : Int32} (hp : ¬ isI x1 n) : f_X6_highestNoteOf x1 v = some (0, 1, v) := by
  unfold f_X6_highestNoteOf
  exact reqS_f R hp _
theorem th_isHeld (R : Rl v 0 (w 1) D n m f dd) {x1 : Int32} (hp : ¬ isI x1 f) : f_X6_isHeld x1 v = some (0, 1, v) := by
  unfold f_X6_isHeld
  exact reqF_f R hp _
theorem th_shortfallBySets (R : Rl v 0 (w 1) D n m f dd) {x1 : Int32} (hp : ¬ isI x1 f) : f_X6_shortfallBySets x1 v = some (0, 1, v) := by
  unfold f_X6_shortfallBySets
  rw [jn_e]
  exact reqF_f R hp _
theorem th_neededLine (R : Rl v 0 (w 1) D n m f dd) {x1 : Int32} (hp : ¬ isI x1 f) : f_X6_neededLine x1 v = some (0, 1, v) := by
  unfold f_X6_neededLine
  rw [jn_e]
  exact reqF_f R hp _
theorem th_lineOf (R : Rl v 0 (w 1) D n m f dd) {x1 x2 : Int32} (hp : ¬ (isI x1 f ∧ isI x2 n)) : f_X6_lineOf x1 x2 v = some (0, 1, v) := by
  unfold f_X6_lineOf
  by_cases a : isI x1 f
  · rw [reqF_t R a]
    exact reqS_f R (fun q => hp ⟨a, q⟩) _
  · exact reqF_f R a _
theorem th_pewOf (R : Rl v 0 (w 1) D n m f dd) {x1 x2 : Int32} (hp : ¬ (isI x1 f ∧ isI x2 n)) : f_X6_pewOf x1 x2 v = some (0, 1, v) := by
  unfold f_X6_pewOf
  by_cases a : isI x1 f
  · rw [reqF_t R a]
    exact reqS_f R (fun q => hp ⟨a, q⟩) _
  · exact reqF_f R a _
theorem th_whyNot (R : Rl v 0 (w 1) D n m f dd) {x1 x2 x3 : Int32} (hp : ¬ (isI x1 f ∧ isI x2 n ∧ (0 ≤ x3 ∧ x3 ≤ 3))) : f_X6_whyNot x1 x2 x3 v = some (0, 1, v) := by
  unfold f_X6_whyNot
  rw [jn_e]
  by_cases a : isI x1 f
  · rw [reqF_t R a]
    by_cases b : isI x2 n
    · rw [reqS_t R b]
      exact reqL_f v (fun q => hp ⟨a, b, q⟩) _
    · exact reqS_f R b _
  · exact reqF_f R a _
theorem th_isExcused1 (R : Rl v 0 (w 1) D n m f dd) {x1 x2 : Int32} (hp : ¬ isI x1 n) : f_X6_isExcused x1 x2 v = some (0, 1, v) := by
  unfold f_X6_isExcused
  rw [jn_e]
  exact reqS_f R hp _
theorem th_isExcused2 (R : Rl v 0 (w 1) D n m f dd) {x1 x2 : Int32} (h1 : isI x1 n) (hp : ¬ (0 ≤ x2 ∧ x2 ≤ 9999)) : f_X6_isExcused x1 x2 v = some (0, 2, v) := by
  unfold f_X6_isExcused
  rw [jn_e, reqS_t R h1, s_within, bnd_s, b2_if, if_neg hp]
  dsimp only
  rw [rf2]
/-- the empty letter is no letter -/
def vle (v : mC) : mC := up (up v (32, 0, 0) 2 0) (32, 0, 0) 3 (-1)
theorem find_0 (h : v (32, 0, 0) 1 = 0) : f_X2_findError v = some (0, vle v) := by
  unfold f_X2_findError f_X2_goTo
  rw [lt_e, bnd_s]
  show L_X2_findError_7 (lp (fun _ _ => none) L_X2_findError_7 8191) 0 (up v (32, 0, 0) 2 0) = _
  generalize lp (fun _ _ => none) L_X2_findError_7 8191 = self
  unfold L_X2_findError_7
  rw [if_neg (by decide)]
  have e1 : up v (32, 0, 0) 2 0 (32, 0, 0) 2 = 0 := by rw [up_r, if_pos ⟨rfl, rfl⟩]
  have e2 : up v (32, 0, 0) 2 0 (32, 0, 0) 1 = 0 := by rw [up_r, if_neg (by decide), h]
  have e3 : f_X2_readOrder (up v (32, 0, 0) 2 0) = some (0, vle v) := by
    unfold f_X2_readOrder f_X2_isAtEnd
    rw [jn_e, e1, e2, if_neg (by decide), zb_1, ck_t, bnd_s, if_neg (by decide)]
    dsimp only
    rw [lt_e, show up (up v (32, 0, 0) 2 0) (32, 0, 0) 3 (-1) (32, 0, 0) 3 = -1 from by rw [up_r, if_pos ⟨rfl, rfl⟩], if_neg (by decide), zb_0, ck_t]
    rfl
  rw [e3, bnd_s]
  dsimp only
  rw [if_pos rfl]
  unfold vle
  rw [up_r, if_neg (by decide), e1]
theorem th_impossible (h : v (32, 0, 0) 1 = 0) : f_X6_impossibleOrder v = some (0, 3, vle v) := by
  unfold f_X6_impossibleOrder
  rw [jn_e, find_0 h, bnd_s]
  dsimp only
  rw [if_neg (by decide), rf3]
theorem th_carryOut (h : v (32, 0, 0) 1 = 0) : f_X6_carryOut v = some (0, 3, vle v) := by
  unfold f_X6_carryOut
  rw [jn_e, jn_e, find_0 h, bnd_s]
  dsimp only
  rw [if_neg (by decide), jn_e, if_pos rfl]
  dsimp only
  rw [rf3]
end Th
