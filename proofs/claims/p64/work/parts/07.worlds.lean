/-! the worlds of the objects, and small words of the pure functions -/
def FU : Nat := 5000
def lt {α β : Type} (a : α) (f : α → Option β) : Option β := f a
theorem lt_o {α β : Type} {a : α} {f : α → Option β} {r : β} (h : lt a f = some r) : ∃ x, x = a ∧ f x = some r := ⟨a, rfl, h⟩
theorem nar01 {x : Int32} (h : x = 0 ∨ x = 1) : narrow .boolean (.int x) = .int x := by rcases h with rfl | rfl <;> rfl
theorem wj {p : Program} {l : Launch} {e : Env} {R : Room} {s : State} {m : MethodId} {args : Array Value} {below : List Frame} {meth : Method} {c : Code} {H : Heap} {locs : List Loc} {cells slots : Nat} {Q : State → Prop} {g0 : JFrame} (g : JFrame) (hk : W p l e R s m args below meth c H locs cells slots Q g) (hb : W p l e R s m args below meth c H locs cells slots Q g → W p l e R s m args below meth c H locs cells slots Q g0) : W p l e R s m args below meth c H locs cells slots Q g0 := hb hk
def W_A (E : Ev) (a n : Nat) (v : Nat → Int32) : va_W := [(a, .inl (E.2.1, n, .inl v))]
def W_Z (E : Ev) (a n : Nat) (v : Nat → Int32) : va_W := [(a, .inl (E.2.2.1, n, .inl v))]
def W_B (E : Ev) (a : Nat → Nat) (v : Nat → Nat → Int32) : va_W := [(a 0, .inr (0, [.ref (a 1), .int (v 0 0)])), (a 1, .inl (E.2.1, 600, .inl (v 1)))]
def W_G (E : Ev) (a : Nat → Nat) (v : Nat → Nat → Int32) : va_W := [(a 0, .inr (1, [.int (v 0 0), .ref (a 1), .ref (a 2), .ref (a 3), .ref (a 4), .ref (a 5), .ref (a 6), .ref (a 7), .ref (a 8)])), (a 1, .inl (E.2.1, 50, .inl (v 1))), (a 2, .inl (E.2.1, 10, .inl (v 2))), (a 3, .inl (E.2.1, 10, .inl (v 3))), (a 4, .inl (E.2.1, 10, .inl (v 4))), (a 5, .inl (E.2.1, 10, .inl (v 5))), (a 6, .inl (E.2.1, 10, .inl (v 6))), (a 7, .inl (E.2.1, 10, .inl (v 7))), (a 8, .inl (E.2.1, 10, .inl (v 8)))]
def W_U (E : Ev) (a : Nat → Nat) (v : Nat → Nat → Int32) : va_W := [(a 0, .inr (7, [.int (v 0 0), .ref (a 1), .ref (a 2), .ref (a 3)])), (a 1, .inl (E.2.1, 12, .inl (v 1))), (a 2, .inl (E.2.1, 12, .inl (v 2))), (a 3, .inl (E.2.1, 12, .inl (v 3)))]
def W_R (E : Ev) (a : Nat → Nat) (v : Nat → Nat → Int32) : va_W := [(a 0, .inr (5, [.int (v 0 0), .ref (a 1), .ref (a 2), .ref (a 3)])), (a 1, .inl (E.2.1, 60, .inl (v 1))), (a 2, .inl (E.2.1, 60, .inl (v 2))), (a 3, .inl (E.2.1, 60, .inl (v 3)))]
def W_N (a0 : Nat) (g u r : Nat → Nat) (v : Nat → Int32) : va_W := [(a0, .inr (3, [.int (v 0), .int (v 1), .int (v 2), .int (v 3), .int (v 4), .int (v 5), .int (v 6), .ref (g 0), .ref (u 0), .ref (r 0)]))]
def W_P (a0 : Nat) (b : Nat → Nat) (v : Nat → Int32) : va_W := [(a0, .inr (4, [.ref (b 0), .int (v 0), .int (v 1), .int (v 2), .int (v 3)]))]
