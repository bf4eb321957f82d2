/-! 74.law -/
theorem q74_x : (1 : Nat) = 1 := rfl
