/-! the text read: umbrellas, loops, the whole text -/
theorem eq87 {vB : Nat → Nat → Int32} (f : Nat) (x i : Int32) (P N : Nat → Int32) (G U R : Nat → Nat → Int32) : L_X4_readText_87 vB (f + 1) x i P N G U R = B_X4_readText_87 (L_X4_readText_87 vB f) vB x i P N G U R := rfl
theorem eq36 {vB : Nat → Nat → Int32} (f : Nat) (x i : Int32) (P N : Nat → Int32) (G U R : Nat → Nat → Int32) : L_X4_readText_36 vB (f + 1) x i P N G U R = B_X4_readText_36 (L_X4_readText_36 vB f) vB x i P N G U R := rfl
theorem L87_0 {vB : Nat → Nat → Int32} (f : Nat) (i : Int32) (P N : Nat → Int32) (G U R : Nat → Nat → Int32) : L_X4_readText_87 vB (f + 1) 0 i P N G U R = some (P 1, P, N, G, U, R) := by
  rw [eq87]
  unfold B_X4_readText_87 J_X4_readText_133
  rw [if_pos rfl, if_pos rfl, ite_self]
theorem L36_0 {vB : Nat → Nat → Int32} (f : Nat) (i : Int32) (P N : Nat → Int32) (G U R : Nat → Nat → Int32) : L_X4_readText_36 vB (f + 1) 0 i P N G U R = some (P 1, P, N, G, U, R) := by
  rw [eq36]
  unfold B_X4_readText_36
  have hF : FU = 4999 + 1 := rfl
  rw [if_pos rfl, ite_self, hF, L87_0]
