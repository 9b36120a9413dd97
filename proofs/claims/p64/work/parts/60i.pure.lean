/-! names -/
def allF (p : Nat → Bool) : Nat → Bool
  | 0 => true
  | n + 1 => allF p n && p n
theorem allF_iff (p : Nat → Bool) (n : Nat) : allF p n = true ↔ ∀ i, i < n → p i = true := by
  induction n with
  | zero => exact ⟨fun _ i h => absurd h (Nat.not_lt_zero i), fun _ => rfl⟩
  | succ n ih =>
    simp only [allF, Bool.and_eq_true, ih]
    constructor
    · intro ⟨h1, h2⟩ i hi
      by_cases e : i = n
      · rw [e]; exact h2
      · exact h1 i (by omega)
    · intro h
      exact ⟨fun i hi => h i (by omega), h n (by omega)⟩
/-- a loop that asks whether all are -/
theorem lp_all {L : Nat → Int32 → Option Int32} {p : Nat → Bool} {U : Nat} (h1 : ∀ n k, k < U → L (n + 1) (nI k) = if p k then L n (nI (k + 1)) else some (nI 0)) (h2 : ∀ n, L (n + 1) (nI U) = some (nI 1)) :
    ∀ n k, k ≤ U → U - k < n → allF p k = true → L n (nI k) = some (if allF p U then nI 1 else nI 0) := by
  intro n
  induction n with
  | zero => intro k _ h; omega
  | succ n ih =>
    intro k hk hn ha
    by_cases hku : k < U
    · rw [h1 n k hku]
      by_cases c : p k = true
      · rw [if_pos c]
        exact ih (k + 1) hku (by omega) (by simp only [allF, ha, c, Bool.and_self])
      · rw [if_neg c, if_neg (fun h => c ((allF_iff p U).mp h k hku))]
    · have : k = U := by omega
      subst this
      rw [h2, if_pos ha]
def ltr (x : Nat) : Bool := decide (97 ≤ x ∧ x ≤ 122)
theorem ltr_iff (x : Nat) : ltr x = true ↔ 97 ≤ x ∧ x ≤ 122 := decide_eq_true_iff
theorem code_lt {l : Nat → Nat} {n : Nat} (h : ∀ i, i < n → 97 ≤ l i ∧ l i ≤ 122) : codeF l n < 27 ^ n := by
  induction n with
  | zero => exact Nat.one_pos
  | succ n ih =>
    have h1 := ih fun i hi => h i (by omega)
    have h2 := h n (by omega)
    simp only [codeF, Nat.pow_succ]
    omega
theorem code_bd {l : Nat → Nat} {n : Nat} (h : ∀ i, i < n → 97 ≤ l i ∧ l i ≤ 122) (hn : n ≤ 5) : codeF l n < 14348907 :=
  Nat.lt_of_lt_of_le (code_lt h) (Nat.pow_le_pow_right (n := 27) (by omega) hn)
theorem code_pos {l : Nat → Nat} {n : Nat} (h : ∀ i, i < n → 97 ≤ l i ∧ l i ≤ 122) (hn : 0 < n) : 0 < codeF l n := by
  cases n with
  | zero => omega
  | succ n =>
    have h2 := h n (by omega)
    simp only [codeF]
    omega
theorem code_inj {l l' : Nat → Nat} : ∀ {n n' : Nat}, (∀ i, i < n → 97 ≤ l i ∧ l i ≤ 122) → (∀ i, i < n' → 97 ≤ l' i ∧ l' i ≤ 122) → codeF l n = codeF l' n' → n = n' ∧ ∀ i, i < n → l i = l' i := by
  intro n
  induction n with
  | zero =>
    intro n' _ h' e
    cases n' with
    | zero => exact ⟨rfl, fun i h => absurd h (Nat.not_lt_zero i)⟩
    | succ n' =>
      have := code_pos h' (Nat.succ_pos n')
      rw [← e] at this
      exact absurd this (Nat.lt_irrefl 0)
  | succ n ih =>
    intro n' h h' e
    cases n' with
    | zero =>
      have := code_pos h (Nat.succ_pos n)
      rw [e] at this
      exact absurd this (Nat.lt_irrefl 0)
    | succ n' =>
      have h1 := h n (by omega)
      have h2 := h' n' (by omega)
      simp only [codeF] at e
      have e1 : codeF l n = codeF l' n' := by omega
      obtain ⟨e2, e3⟩ := ih (fun i hi => h i (by omega)) (fun i hi => h' i (by omega)) e1
      subst e2
      refine ⟨rfl, fun i hi => ?_⟩
      by_cases c : i = n
      · subst c; omega
      · exact e3 i (by omega)
theorem code_ext {l l' : Nat → Nat} {n : Nat} (h : ∀ i, i < n → l i = l' i) : codeF l n = codeF l' n := by
  induction n with
  | zero => rfl
  | succ n ih => simp only [codeF, ih fun i hi => h i (by omega), h n (by omega)]
theorem q_addm1 {a : Nat} (h : 1 ≤ a) : nI a + m1 = nI (a - 1) := by
  rw [← q_sub h]
  exact (Int32.sub_eq_add_neg _ _).symm
/-- the text from s on, n bytes -/
def eqN (D : Dn) (l : Nat → Nat) (n k : Nat) : Bool := decide (D.ln k = n) && allF (fun i => decide (D.lt (5 * k + i) = l i)) n
theorem eqN_iff (D : Dn) (l : Nat → Nat) (n k : Nat) : eqN D l n k = true ↔ D.ln k = n ∧ ∀ i, i < n → D.lt (5 * k + i) = l i := by
  unfold eqN
  rw [Bool.and_eq_true, allF_iff, decide_eq_true_iff]
  exact ⟨fun ⟨a, b⟩ => ⟨a, fun i hi => of_decide_eq_true (b i hi)⟩, fun ⟨a, b⟩ => ⟨a, fun i hi => decide_eq_true (b i hi)⟩⟩
def findD (D : Dn) (l : Nat → Nat) (n : Nat) : Nat := fstF (eqN D l n) D.G 0
theorem u_has {vN : Nat → Int32} {vG vU vR vB : Nat → Nat → Int32} {D : Dn} {T : Nat} (m : M8 vN vG vU vR D) (o : OkD T D) {l : Nat → Nat} {s k : Nat} (hk : k < D.G) (hs : s + D.ln k ≤ 600) (hb : ∀ i, i < D.ln k → vB 1 (s + i) = nI (l i) ∧ l i < 256) : F_X1_hasLetters vG vB (nI k) (nI s) = some (if allF (fun i => decide (D.lt (5 * k + i) = l i)) (D.ln k) then nI 1 else nI 0) := by
  have hG := o.G
  have h1 := o.ln k hk
  refine lp_all (L := fun n i => L_X1_hasLetters_3 vG vB (nI k) (nI s) n i) (U := D.ln k) (fun n i hi => ?_) (fun n => ?_) FU 0 (Nat.zero_le _) (by unfold FU; omega) rfl
  · have h2 := o.lt k i hk hi
    have h3 := hb i hi
    have h4 := m.lt k i hk hi
    have h5 : ¬ D.ln k ≤ i := by omega
    simp (disch := omega) only [L_X1_hasLetters_3, B_X1_hasLetters_3, F_X1_letterOf, q_lit, nI_add, pk_mul, q_sb, q_ck, q_cl, m.ln, q_le, q_eq, h3.1, h4, h5, if_false]
    by_cases c : D.lt (5 * k + i) = l i
    · rw [if_pos c, if_pos (decide_eq_true c)]
    · rw [if_neg c, if_neg (fun h => c (of_decide_eq_true h))]
  · simp (disch := omega) only [L_X1_hasLetters_3, B_X1_hasLetters_3, q_lit, q_ck, q_cl, m.ln, q_le, Nat.le_refl, if_true]
theorem u_find {vN : Nat → Int32} {vG vU vR vB : Nat → Nat → Int32} {D : Dn} {T : Nat} (m : M8 vN vG vU vR D) (o : OkD T D) {l : Nat → Nat} {s n : Nat} (hs : s + n ≤ 600) (hb : ∀ i, i < n → vB 1 (s + i) = nI (l i) ∧ l i < 256) : F_X1_find vG vB (nI s) (nI n) = some (nz (findD D l n)) := by
  have hG := o.G
  unfold findD
  rw [← fst1_nz _ _ _ _ rfl]
  refine lp_first (L := L_X1_find_3 vG vB (nI s) (nI n)) (U := D.G) (fun f k hk => ?_) (fun f => ?_) FU 0 (Nat.zero_le _) (by unfold FU; omega)
  · have h1 := o.ln k hk
    have h5 : ¬ D.G ≤ k := by omega
    by_cases c : D.ln k = n
    · have h2 := u_has m o (l := l) (s := s) hk (by omega) (fun i hi => hb i (by omega))
      simp (disch := omega) only [L_X1_find_3, B_X1_find_3, q_lit, nI_add, q_sb, q_ck, q_cl, m.G, m.ln, q_le, q_eq, h5, c, if_true, if_false]
      rw [c] at h2
      rw [h2, q_sb]
      by_cases ca : allF (fun i => decide (D.lt (5 * k + i) = l i)) n = true
      · rw [if_pos ca, if_neg (by decide), if_pos (by unfold eqN; rw [ca, decide_eq_true c]; rfl)]
      · rw [if_neg ca, if_pos rfl, if_neg (fun h => ca (by unfold eqN at h; rw [Bool.and_eq_true] at h; exact h.2))]
    · simp (disch := omega) only [L_X1_find_3, B_X1_find_3, q_lit, nI_add, q_ck, q_cl, m.G, m.ln, q_le, q_eq, h5, c, if_false]
      rw [if_neg (fun h => c ((eqN_iff D l n k).mp h).1)]
  · simp (disch := omega) only [L_X1_find_3, B_X1_find_3, q_lit, q_neg, m.G, q_le, Nat.le_refl, if_true]
theorem nm_bd {D : Dn} {T : Nat} (o : OkD T D) {k : Nat} (hk : k < D.G) : D.nm k < 14348907 ∧ 0 < D.nm k := by
  have h1 := o.ln k hk
  exact ⟨code_bd (fun i hi => o.lt k i hk hi) h1.2, code_pos (fun i hi => o.lt k i hk hi) h1.1⟩
def isNm (l : Nat → Nat) (n : Nat) : Bool := decide (1 ≤ n ∧ n ≤ 5) && allF (fun i => ltr (l i)) n
theorem isNm_iff (l : Nat → Nat) (n : Nat) : isNm l n = true ↔ (1 ≤ n ∧ n ≤ 5) ∧ ∀ i, i < n → 97 ≤ l i ∧ l i ≤ 122 := by
  unfold isNm
  rw [Bool.and_eq_true, allF_iff, decide_eq_true_iff]
  exact ⟨fun ⟨a, b⟩ => ⟨a, fun i hi => (ltr_iff _).mp (b i hi)⟩, fun ⟨a, b⟩ => ⟨a, fun i hi => (ltr_iff _).mpr (b i hi)⟩⟩
theorem u_isLetter {x : Nat} (h : x < 2147483648) : F_X8_isLetter (nI x) = some (if ltr x then nI 1 else nI 0) := by
  unfold F_X8_isLetter
  simp (disch := omega) only [q_lit, q_le, q_lt]
  unfold ltr
  by_cases c : 97 ≤ x ∧ x ≤ 122
  · rw [if_pos (decide_eq_true c)]
    repeat' split
    all_goals first | rfl | (exfalso; omega)
  · rw [if_neg (fun h => c (of_decide_eq_true h))]
    repeat' split
    all_goals first | rfl | (exfalso; omega)
