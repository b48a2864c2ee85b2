theorem zz_dummy : (1:Nat) = 1 := rfl
