/-! the text read: tokens -/
theorem q_litL (n : Nat) : (OfNat.ofNat n : Int64) = lN (OfNat.ofNat n) := rfl
def Fr (M M' : (Nat → Int32) × Int64) : Prop := M'.1 0 = M.1 0 ∧ M'.1 1 = M.1 1 ∧ M'.1 2 = M.1 2 ∧ M'.1 3 = M.1 3 ∧ M'.1 8 = M.1 8 ∧ M'.1 9 = M.1 9
theorem Fr.r (M : (Nat → Int32) × Int64) : Fr M M := ⟨rfl, rfl, rfl, rfl, rfl, rfl⟩
theorem Fr.t {A B C : (Nat → Int32) × Int64} (h : Fr A B) (g : Fr B C) : Fr A C := ⟨g.1.trans h.1, g.2.1.trans h.2.1, g.2.2.1.trans h.2.2.1, g.2.2.2.1.trans h.2.2.2.1, g.2.2.2.2.1.trans h.2.2.2.2.1, g.2.2.2.2.2.trans h.2.2.2.2.2⟩
/-- both buffers hold the n bytes l -/
def Byt (vB : Nat → Nat → Int32) (vbuffer : Nat → Int32) (l : Nat → Nat) (n : Nat) : Prop := n ≤ 600 ∧ vB 0 0 = nI n ∧ ∀ i, i < n → vB 1 i = nI (l i) ∧ vbuffer i = nI (l i) ∧ l i < 256
theorem u_blank {x : Nat} (h : x < 2147483648) : F_X8_isBlank (nI x) = some (if x = 32 ∨ x = 10 then nI 1 else nI 0) := by
  unfold F_X8_isBlank
  simp (disch := omega) only [q_lit, q_eq]
  by_cases c1 : x = 32
  · rw [if_pos c1, if_pos (Or.inl c1)]
  · rw [if_neg c1]
    by_cases c2 : x = 10
    · rw [if_pos c2, if_pos (Or.inr c2)]
    · rw [if_neg c2, if_neg (by omega)]
def dgt (x : Nat) : Bool := decide (48 ≤ x ∧ x ≤ 57)
theorem dgt_iff (x : Nat) : dgt x = true ↔ 48 ≤ x ∧ x ≤ 57 := decide_eq_true_iff
theorem u_isDigit {x : Nat} (h : x < 2147483648) : F_X8_isDigit (nI x) = some (if dgt x then nI 1 else nI 0) := by
  unfold F_X8_isDigit
  simp (disch := omega) only [q_lit, q_lt]
  unfold dgt
  by_cases c : 48 ≤ x ∧ x ≤ 57
  · rw [if_pos (decide_eq_true c)]
    repeat' split
    all_goals first | rfl | (exfalso; omega)
  · rw [if_neg (fun h => c (of_decide_eq_true h))]
    repeat' split
    all_goals first | rfl | (exfalso; omega)
theorem e1032 : ((10 : Nat) = 32) = False := by decide
def wcap (k : Nat) : Nat := if k ≤ 9 then k else 9
theorem wcode_bd {l : Nat → Nat} {n : Nat} (h : ∀ i, i < n → 97 ≤ l i ∧ l i ≤ 122) (hn : n ≤ 9) : codeF l n < 7625597484987 :=
  Nat.lt_of_lt_of_le (code_lt h) (Nat.pow_le_pow_right (n := 27) (by omega) hn)
def vbd (d : Nat) : Nat := if d = 0 then 0 else if d = 1 then 9 else if d = 2 then 99 else 999
/-- a token: its kind, start, end, number -/
def Tk (l : Nat → Nat) (n : Nat) (vP : Nat → Int32) (M : (Nat → Int32) × Int64) (k s e v : Nat) : Prop := s ≤ e ∧ e ≤ n ∧ k ≤ 4 ∧ vP 0 = nI k ∧ vP 1 = nI s ∧ vP 2 = nI e ∧ M.1 1 = nI n ∧ M.1 4 = nI e ∧ M.1 5 = nI s ∧ M.1 6 = nI k ∧ (k = 2 → v ≤ 999 ∧ vP 3 = nI v ∧ M.1 7 = nI v) ∧ (k = 1 → s < e ∧ (∀ i, s ≤ i → i < e → 97 ≤ l i ∧ l i ≤ 122) ∧ M.2 = lN (codeF (fun i => l (s + i)) (wcap (e - s))))
