theorem last_x : w32 5 = 5 := by decide
