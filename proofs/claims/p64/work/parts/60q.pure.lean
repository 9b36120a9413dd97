/-! answers of the calls that change the night -/
theorem e14 : ((1 : Nat) = 4) = False := by decide
theorem e12 : ((1 : Nat) = 2) = False := by decide
theorem e13 : ((1 : Nat) = 3) = False := by decide
theorem e24 : ((2 : Nat) = 4) = False := by decide
theorem e23 : ((2 : Nat) = 3) = False := by decide
theorem e34 : ((3 : Nat) = 4) = False := by decide
