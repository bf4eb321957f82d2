/-! start -/
theorem q80_x : (1 : Nat) = 1 := rfl
