theorem tq : (1 : Nat) + 1 = 2 := rfl
