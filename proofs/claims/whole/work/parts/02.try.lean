theorem tr_y : (1 : Nat) = 1 := rfl
