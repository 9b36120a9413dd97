/-! the text read: words, numbers, guests, umbrellas -/
def wlS (i j : Nat) : Nat := (chS i (nI j)).toNatClampNeg
def isWd (l : Nat → Nat) (i m k s e : Nat) : Bool := decide (k = 1 ∧ e - s = m) && allF (fun j => decide (l (s + j) = wlS i j)) m
theorem isWd_iff (l : Nat → Nat) (i m k s e : Nat) : isWd l i m k s e = true ↔ (k = 1 ∧ e - s = m) ∧ ∀ j, j < m → l (s + j) = wlS i j := by
  unfold isWd
  rw [Bool.and_eq_true, allF_iff, decide_eq_true_iff]
  exact ⟨fun ⟨a, b⟩ => ⟨a, fun j hj => of_decide_eq_true (b j hj)⟩, fun ⟨a, b⟩ => ⟨a, fun j hj => decide_eq_true (b j hj)⟩⟩
theorem wl_1 : ∀ j, j < 5 → chS 1 (nI j) = nI (wlS 1 j) ∧ 97 ≤ wlS 1 j ∧ wlS 1 j ≤ 122 := by decide +kernel
theorem wc_1 : codeF (wlS 1) 5 = 7622660 := by decide +kernel
theorem wl_2 : ∀ j, j < 5 → chS 2 (nI j) = nI (wlS 2 j) ∧ 97 ≤ wlS 2 j ∧ wlS 2 j ≤ 122 := by decide +kernel
theorem wc_2 : codeF (wlS 2) 5 = 4137608 := by decide +kernel
theorem wl_3 : ∀ j, j < 3 → chS 3 (nI j) = nI (wlS 3 j) ∧ 97 ≤ wlS 3 j ∧ wlS 3 j ≤ 122 := by decide +kernel
theorem wc_3 : codeF (wlS 3) 3 = 3328 := by decide +kernel
theorem wl_4 : ∀ j, j < 8 → chS 4 (nI j) = nI (wlS 4 j) ∧ 97 ≤ wlS 4 j ∧ wlS 4 j ≤ 122 := by decide +kernel
theorem wc_4 : codeF (wlS 4) 8 = 224742254860 := by decide +kernel
def Mw (M : (Nat → Int32) × Int64) : (Nat → Int32) × Int64 := (va_up (va_up M.1 8 (nI 1)) 2 (M.1 5), M.2)
def Fr2 (M M' : (Nat → Int32) × Int64) : Prop := M'.1 0 = M.1 0 ∧ M'.1 1 = M.1 1 ∧ M'.1 3 = M.1 3 ∧ M'.1 9 = M.1 9
theorem Fr.w {A B : (Nat → Int32) × Int64} (h : Fr A B) : Fr2 A (Mw B) := ⟨h.1, h.2.1, h.2.2.2.1, h.2.2.2.2.2⟩
theorem Fr.to2 {A B : (Nat → Int32) × Int64} (h : Fr A B) : Fr2 A B := ⟨h.1, h.2.1, h.2.2.2.1, h.2.2.2.2.2⟩
theorem Fr2.t {A B C : (Nat → Int32) × Int64} (h : Fr2 A B) (g : Fr2 B C) : Fr2 A C := ⟨g.1.trans h.1, g.2.1.trans h.2.1, g.2.2.1.trans h.2.2.1, g.2.2.2.trans h.2.2.2⟩
theorem Mw_er {l : Nat → Nat} {n k s e v : Nat} {vP : Nat → Int32} {M : (Nat → Int32) × Int64} (t : Tk l n vP M k s e v) : (Mw M).1 8 = nI 1 ∧ (Mw M).1 2 = nI s := ⟨rfl, t.2.2.2.2.2.2.2.2.1⟩
theorem q_lti {n : Nat} : Int64.toInt32 (lN n) = nI n := lN_i n
