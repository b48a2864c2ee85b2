/-! CALLS THAT ONLY ASK: the memory is as before -/
theorem sm_tbk {κ : Type} {Γ : jG (Int32 × Nat × (κ → Nat → Int32))} {Λ : jL κ} {cs : Nat × Nat} {pc : Nat} {ls : List (Nat × Value)} {st : List Value} {v v' : κ → Nat → Int32} {F : Option (Int32 × Nat × (κ → Nat → Int32))} {e2 : Int32 → (κ → Nat → Int32) → Option (Int32 × Nat × (κ → Nat → Int32))} (hK : ∀ r, F = some r → r.2.2 = v) (k : Sm Γ Λ cs pc ls st v' (tb F (fun r w => @ite _ (w = v) (Classical.propDecidable _) (e2 r w) none))) : Sm Γ Λ cs pc ls st v' (tb F e2) := by
  have e : tb F e2 = tb F (fun r w => @ite _ (w = v) (Classical.propDecidable _) (e2 r w) none) := by
    unfold tb
    cases hF : F with
    | none => rfl
    | some q =>
      rw [Option.bind_some, Option.bind_some]
      dsimp only
      rw [if_pos (hK q hF)]
  rw [e]
  exact k
theorem sm_wk {κ ρ : Type} {Γ : jG ρ} {Λ : jL κ} {cs : Nat × Nat} {pc : Nat} {ls : List (Nat × Value)} {st : List Value} {v w w' : κ → Nat → Int32} {e : Option ρ} (k : w = v → Sm Γ Λ cs pc ls st w' e) : Sm Γ Λ cs pc ls st w' (@ite _ (w = v) (Classical.propDecidable _) e none) := by
  by_cases q : w = v
  · rw [if_pos q]
    exact k q
  · rw [if_neg q]
    exact sm_none
theorem rq_X6_refuseIf {x : Int32} {v : mC} : ∀ r, f_X6_refuseIf x v = some r → r.2.2 = v := fun r h => by
  unfold f_X6_refuseIf at h
  by_cases h1 : x = 1
  · rw [if_pos h1] at h; cases h; rfl
  rw [if_neg h1] at h
  by_cases h2 : x = 2
  · rw [if_pos h2] at h; cases h; rfl
  rw [if_neg h2] at h
  by_cases h3 : x = 3
  · rw [if_pos h3] at h; cases h; rfl
  rw [if_neg h3] at h; cases h; rfl
theorem rq_j {F : Option Int32} {v : mC} {r : Int32 × Nat × mC} (h : jn (fun (s : Int32) => (tb (f_X6_refuseIf s v) fun r_ w_ => (some ((0 : Int32), 0, w_)))) (fun j => (F.bind fun r_8 => (if r_8 = 0 then (j (1 : Int32)) else (j (0 : Int32))))) = some r) : r.2.2 = v := by
  unfold jn at h
  dsimp only at h
  have hJ : ∀ s : Int32, (tb (f_X6_refuseIf s v) fun r_ w_ => (some ((0 : Int32), 0, w_))) = some r → r.2.2 = v := fun s hs => by
    obtain ⟨q, h1, h2⟩ := tb_s hs
    have hq := rq_X6_refuseIf q h1
    rcases h2 with ⟨-, h2⟩ | ⟨-, h2⟩
    · cases h2; exact hq
    · rw [h2]; exact hq
  cases hF : F with
  | none => rw [hF] at h; cases h
  | some y =>
    rw [hF, Option.bind_some] at h
    by_cases hy : y = 0
    · rw [if_pos hy] at h; exact hJ _ h
    · rw [if_neg hy] at h; exact hJ _ h
theorem rq_X6_requireSinger {x : Int32} {v : mC} : ∀ r, f_X6_requireSinger x v = some r → r.2.2 = v := fun r h => rq_j h
theorem rq_X6_requireFeast {x : Int32} {v : mC} : ∀ r, f_X6_requireFeast x v = some r → r.2.2 = v := fun r h => rq_j h
theorem rq_X6_requireLine {x : Int32} {v : mC} : ∀ r, f_X6_requireLine x v = some r → r.2.2 = v := fun r h => rq_j h
