/-! the last part: small, so that every other one is kept -/
theorem last_one : (1 : Nat) = 1 := rfl
