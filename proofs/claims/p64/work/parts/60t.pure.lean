/-! entries written -/
def WrS (B : Nat → Nat → Int32) (M : (Nat → Int32) × Int64) (o : Nat → Int32) (n : Nat) : Prop := B 0 0 = nI n ∧ M.1 9 = nI n ∧ ∀ k, k < n → o k = B 1 k
theorem vaM {M : (Nat → Int32) × Int64} {a : Int32} {k : Nat} (h : k ≠ 9) : (va_up M.1 9 a, M.2).1 k = M.1 k := va_up_ne _ _ h
