/-! the six names in a night under reading -/
def nmF (j i : Nat) : Nat := (bytsN (6 + j)).getD i 0
def NmD (D : Dn) (k : Nat) : Prop := D.G = k ∧ ∀ j, j < k → D.ln j = (bytsN (6 + j)).length ∧ ∀ i, i < (bytsN (6 + j)).length → D.lt (5 * j + i) = nmF j i
theorem allF_ext {p q : Nat → Bool} : ∀ n, (∀ i, i < n → p i = q i) → allF p n = allF q n := by
  intro n
  induction n with
  | zero => intro _; rfl
  | succ n ih =>
    intro h
    simp only [allF]
    rw [ih fun i hi => h i (by omega), h n (Nat.lt_succ_self n)]
theorem nm_ne : ∀ k, k < 6 → ∀ j, j < 6 → j ≠ k → (decide ((bytsN (6 + j)).length = (bytsN (6 + k)).length) && allF (fun i => decide (nmF j i = nmF k i)) (bytsN (6 + k)).length) = false := by decide +kernel
theorem nm_eq : ∀ k, k < 6 → (decide ((bytsN (6 + k)).length = (bytsN (6 + k)).length) && allF (fun i => decide (nmF k i = nmF k i)) (bytsN (6 + k)).length) = true := by decide +kernel
theorem nm_ltr : ∀ k, k < 6 → ∀ i, i < (bytsN (6 + k)).length → ltr (nmF k i) = true := by decide +kernel
theorem nm_pos : ∀ k, k < 6 → 0 < (bytsN (6 + k)).length := by decide +kernel
theorem eqN_nm {D : Dn} {g k j : Nat} (h : NmD D g) (hj : j < g) : eqN D (nmF k) (bytsN (6 + k)).length j = (decide ((bytsN (6 + j)).length = (bytsN (6 + k)).length) && allF (fun i => decide (nmF j i = nmF k i)) (bytsN (6 + k)).length) := by
  obtain ⟨a, b⟩ := h.2 j hj
  unfold eqN
  rw [a]
  by_cases c : (bytsN (6 + j)).length = (bytsN (6 + k)).length
  · rw [allF_ext _ fun i hi => by rw [b i (by omega)]]
  · rw [decide_eq_false c, Bool.false_and, Bool.false_and]
theorem find_no {D : Dn} {k : Nat} (h : NmD D k) (hk : k < 6) : findD D (nmF k) (bytsN (6 + k)).length = 0 := by
  unfold findD
  rcases fstF_ok (eqN D (nmF k) (bytsN (6 + k)).length) D.G _ 0 rfl with e | ⟨e1, e2, e3⟩
  · exact e
  · exfalso
    have hG := h.1
    rw [eqN_nm h (by omega), nm_ne k hk _ (by omega) (by omega)] at e3
    exact absurd e3 (by decide)
theorem find_at {D : Dn} {g k : Nat} (h : NmD D g) (hg : g ≤ 6) (hk : k < g) : findD D (nmF k) (bytsN (6 + k)).length = k + 1 := by
  unfold findD
  have hG := h.1
  rcases fstF_ok (eqN D (nmF k) (bytsN (6 + k)).length) D.G _ 0 rfl with e | ⟨e1, e2, e3⟩
  · exfalso
    have := fstF_min (eqN D (nmF k) (bytsN (6 + k)).length) D.G _ 0 rfl k (Nat.zero_le _) (by omega) (Or.inl e)
    rw [eqN_nm h hk, nm_eq k (by omega)] at this
    exact absurd this (by decide)
  · by_cases c : fstF (eqN D (nmF k) (bytsN (6 + k)).length) D.G 0 - 1 = k
    · omega
    · exfalso
      rw [eqN_nm h (by omega), nm_ne k (by omega) _ (by omega) c] at e3
      exact absurd e3 (by decide)
theorem NmD.new {D : Dn} {k a b : Nat} (h : NmD D k) (hk : k ≤ 6) : NmD (newG D (nmF k) (bytsN (6 + k)).length a b) (k + 1) := by
  obtain ⟨hG, hn⟩ := h
  have e1 : ∀ j, (newG D (nmF k) (bytsN (6 + k)).length a b).ln j = if j = D.G then (bytsN (6 + k)).length else D.ln j := fun j => rfl
  have e2 : ∀ m, (newG D (nmF k) (bytsN (6 + k)).length a b).lt m = if 5 * D.G ≤ m then nmF k (m - 5 * D.G) else D.lt m := fun m => rfl
  have e3 : (newG D (nmF k) (bytsN (6 + k)).length a b).G = D.G + 1 := rfl
  refine ⟨by rw [e3, hG], fun j hj => ?_⟩
  rw [e1, hG]
  by_cases c : j = k
  · subst c
    rw [if_pos rfl]
    refine ⟨rfl, fun i hi => ?_⟩
    rw [e2, hG, if_pos (by omega), Nat.add_sub_cancel_left]
  · rw [if_neg c]
    obtain ⟨a1, a2⟩ := hn j (by omega)
    refine ⟨a1, fun i hi => ?_⟩
    rw [e2, hG]
    by_cases c2 : 5 * k ≤ 5 * j + i
    · exfalso
      have := nm_len j (by omega)
      omega
    · rw [if_neg c2]
      exact a2 i hi
