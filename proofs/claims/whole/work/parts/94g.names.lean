/-! names -/
def allF (p : Nat → Bool) : Nat → Bool
  | 0 => true
  | n + 1 => allF p n && p n
theorem allF_iff (p : Nat → Bool) (n : Nat) : allF p n = true ↔ ∀ i, i < n → p i = true := by
  induction n with
  | zero => exact ⟨fun _ i h => absurd h (Nat.not_lt_zero i), fun _ => rfl⟩
  | succ n ih =>
    simp only [allF, Bool.and_eq_true, ih]
    constructor
    · intro ⟨h1, h2⟩ i hi
      by_cases e : i = n
      · rw [e]; exact h2
      · exact h1 i (by omega)
    · intro h
      exact ⟨fun i hi => h i (by omega), h n (by omega)⟩
/-- a loop that asks whether all are -/
theorem lp_all {L : Nat → Int32 → Option Int32} {p : Nat → Bool} {U : Nat} (h1 : ∀ n k, k < U → L (n + 1) (nI k) = if p k then L n (nI (k + 1)) else some (nI 0)) (h2 : ∀ n, L (n + 1) (nI U) = some (nI 1)) :
    ∀ n k, k ≤ U → U - k < n → allF p k = true → L n (nI k) = some (if allF p U then nI 1 else nI 0) := by
  intro n
  induction n with
  | zero => intro k _ h; omega
  | succ n ih =>
    intro k hk hn ha
    by_cases hku : k < U
    · rw [h1 n k hku]
      by_cases c : p k = true
      · rw [if_pos c]
        exact ih (k + 1) hku (by omega) (by simp only [allF, ha, c, Bool.and_self])
      · rw [if_neg c, if_neg (fun h => c ((allF_iff p U).mp h k hku))]
    · have : k = U := by omega
      subst this
      rw [h2, if_pos ha]
def ltr (x : Nat) : Bool := decide (97 ≤ x ∧ x ≤ 122)
theorem ltr_iff (x : Nat) : ltr x = true ↔ 97 ≤ x ∧ x ≤ 122 := decide_eq_true_iff
theorem code_lt {l : Nat → Nat} {n : Nat} (h : ∀ i, i < n → 97 ≤ l i ∧ l i ≤ 122) : codeF l n < 27 ^ n := by
  induction n with
  | zero => exact Nat.one_pos
  | succ n ih =>
    have h1 := ih fun i hi => h i (by omega)
    have h2 := h n (by omega)
    simp only [codeF, Nat.pow_succ]
    omega
theorem code_bd {l : Nat → Nat} {n : Nat} (h : ∀ i, i < n → 97 ≤ l i ∧ l i ≤ 122) (hn : n ≤ 5) : codeF l n < 14348907 :=
  Nat.lt_of_lt_of_le (code_lt h) (Nat.pow_le_pow_right (n := 27) (by omega) hn)
theorem code_pos {l : Nat → Nat} {n : Nat} (h : ∀ i, i < n → 97 ≤ l i ∧ l i ≤ 122) (hn : 0 < n) : 0 < codeF l n := by
  cases n with
  | zero => omega
  | succ n =>
    have h2 := h n (by omega)
    simp only [codeF]
    omega
theorem code_inj {l l' : Nat → Nat} : ∀ {n n' : Nat}, (∀ i, i < n → 97 ≤ l i ∧ l i ≤ 122) → (∀ i, i < n' → 97 ≤ l' i ∧ l' i ≤ 122) → codeF l n = codeF l' n' → n = n' ∧ ∀ i, i < n → l i = l' i := by
  intro n
  induction n with
  | zero =>
    intro n' _ h' e
    cases n' with
    | zero => exact ⟨rfl, fun i h => absurd h (Nat.not_lt_zero i)⟩
    | succ n' =>
      have := code_pos h' (Nat.succ_pos n')
      rw [← e] at this
      exact absurd this (Nat.lt_irrefl 0)
  | succ n ih =>
    intro n' h h' e
    cases n' with
    | zero =>
      have := code_pos h (Nat.succ_pos n)
      rw [e] at this
      exact absurd this (Nat.lt_irrefl 0)
    | succ n' =>
      have h1 := h n (by omega)
      have h2 := h' n' (by omega)
      simp only [codeF] at e
      have e1 : codeF l n = codeF l' n' := by omega
      obtain ⟨e2, e3⟩ := ih (fun i hi => h i (by omega)) (fun i hi => h' i (by omega)) e1
      subst e2
      refine ⟨rfl, fun i hi => ?_⟩
      by_cases c : i = n
      · subst c; omega
      · exact e3 i (by omega)
theorem code_ext {l l' : Nat → Nat} {n : Nat} (h : ∀ i, i < n → l i = l' i) : codeF l n = codeF l' n := by
  induction n with
  | zero => rfl
  | succ n ih => simp only [codeF, ih fun i hi => h i (by omega), h n (by omega)]
theorem t_size {l : Nat → Nat} {N : Nat} (h : ∀ i, i < N → 97 ≤ l i ∧ l i ≤ 122) (hN : N ≤ 5) : F_X9_sizeOf (nI (codeF l N)) = some (nI N) := by
  refine lp_acc (L := fun n k (a : Int32) => L_X9_sizeOf_4 (nI (codeF l N)) n k a) (a := fun k => nI (codeF l (N - k))) (U := N) (fun n k hk => ?_) (fun n => ?_) FU 0 (Nat.zero_le _) (by unfold FU; omega)
  · obtain ⟨j, hj⟩ : ∃ j, N - k = j + 1 := ⟨N - k - 1, by omega⟩
    have h1 := code_bd (l := l) (n := j + 1) (fun i hi => h i (by omega)) (by omega)
    have h2 := code_pos (l := l) (n := j + 1) (fun i hi => h i (by omega)) (by omega)
    have h3 := h j (by omega)
    have h4 : codeF l (j + 1) / 27 = codeF l j := by simp only [codeF]; omega
    have h5 : ¬ codeF l (j + 1) ≤ 0 := by omega
    show L_X9_sizeOf_4 (nI (codeF l N)) (n + 1) (nI k) (nI (codeF l (N - k))) = L_X9_sizeOf_4 (nI (codeF l N)) n (nI (k + 1)) (nI (codeF l (N - (k + 1))))
    rw [hj, show N - (k + 1) = j by omega]
    simp (disch := omega) only [L_X9_sizeOf_4, B_X9_sizeOf_4, q_lit, nI_add, q_le, q_div, h4, h5, if_false]
  · show L_X9_sizeOf_4 (nI (codeF l N)) (n + 1) (nI N) (nI (codeF l (N - N))) = some (nI N)
    rw [Nat.sub_self]
    simp (disch := omega) only [L_X9_sizeOf_4, B_X9_sizeOf_4, codeF, q_lit, q_le, Nat.le_refl, if_true]
theorem q_addm1 {a : Nat} (h : 1 ≤ a) : nI a + m1 = nI (a - 1) := by
  rw [← q_sub h]
  exact (Int32.sub_eq_add_neg _ _).symm
theorem t_letter {l : Nat → Nat} {N i : Nat} (h : ∀ i, i < N → 97 ≤ l i ∧ l i ≤ 122) (hN : N ≤ 5) (hi : i < N) : F_X9_letterOf (nI (codeF l N)) (nI i) = some (nI (l i)) := by
  have h0 := t_size h hN
  unfold F_X9_letterOf
  rw [h0, q_sb, show nI N - 1 = nI N - nI 1 from rfl, q_sub (by omega)]
  refine lp_acc (L := fun n _ (a : Int32 × Int32) => L_X9_letterOf_9 (nI (codeF l N)) (nI i) n a.1 a.2) (a := fun k => (nI (codeF l (N - k)), nI (N - 1 - k))) (U := N - 1 - i) (fun n k hk => ?_) (fun n => ?_) FU 0 (Nat.zero_le _) (by unfold FU; omega)
  · obtain ⟨j, hj⟩ : ∃ j, N - k = j + 1 := ⟨N - k - 1, by omega⟩
    have h1 := code_bd (l := l) (n := j + 1) (fun i hi => h i (by omega)) (by omega)
    have h3 := h j (by omega)
    have h4 : codeF l (j + 1) / 27 = codeF l j := by simp only [codeF]; omega
    show L_X9_letterOf_9 (nI (codeF l N)) (nI i) (n + 1) (nI (codeF l (N - k))) (nI (N - 1 - k)) = L_X9_letterOf_9 (nI (codeF l N)) (nI i) n (nI (codeF l (N - (k + 1)))) (nI (N - 1 - (k + 1)))
    rw [hj, show N - (k + 1) = j by omega, show N - 1 - k = j by omega, show N - 1 - (k + 1) = j - 1 by omega]
    have h6 : ¬ j ≤ i := by omega
    simp (disch := omega) only [L_X9_letterOf_9, B_X9_letterOf_9, q_lit, q_addn1, q_sub, q_le, q_div, h4, h6, if_false]
  · have h1 := code_bd (l := l) (n := i + 1) (fun j hj => h j (by omega)) (by omega)
    have h3 := h i hi
    show L_X9_letterOf_9 (nI (codeF l N)) (nI i) (n + 1) (nI (codeF l (N - (N - 1 - i)))) (nI (N - 1 - (N - 1 - i))) = _
    rw [show N - (N - 1 - i) = i + 1 by omega, show N - 1 - (N - 1 - i) = i by omega]
    have h7 : 96 + (codeF l (i + 1) - codeF l (i + 1) / 27 * 27) = l i := by simp only [codeF]; omega
    have h8 : codeF l (i + 1) / 27 * 27 ≤ codeF l (i + 1) := Nat.div_mul_le_self _ _
    simp (disch := omega) only [L_X9_letterOf_9, B_X9_letterOf_9, q_lit, q_le, Nat.le_refl, if_true, q_div, pk_mul, q_sub, nI_add, h7]
/-- the text from s on, n bytes -/
def eqN (D : Dn) (l : Nat → Nat) (n k : Nat) : Bool := decide (D.ln k = n) && allF (fun i => decide (D.lt (5 * k + i) = l i)) n
theorem eqN_iff (D : Dn) (l : Nat → Nat) (n k : Nat) : eqN D l n k = true ↔ D.ln k = n ∧ ∀ i, i < n → D.lt (5 * k + i) = l i := by
  unfold eqN
  rw [Bool.and_eq_true, allF_iff, decide_eq_true_iff]
  exact ⟨fun ⟨a, b⟩ => ⟨a, fun i hi => of_decide_eq_true (b i hi)⟩, fun ⟨a, b⟩ => ⟨a, fun i hi => decide_eq_true (b i hi)⟩⟩
def findD (D : Dn) (l : Nat → Nat) (n : Nat) : Nat := fstF (eqN D l n) D.G 0
theorem u_has {vN : Nat → Int32} {vG vU vR vB : Nat → Nat → Int32} {D : Dn} {T : Nat} (m : M8 vN vG vU vR D) (o : OkD T D) {l : Nat → Nat} {s k : Nat} (hk : k < D.G) (hs : s + D.ln k ≤ 600) (hb : ∀ i, i < D.ln k → vB 1 (s + i) = nI (l i) ∧ l i < 256) : F_X1_hasLetters vG vB (nI k) (nI s) = some (if allF (fun i => decide (D.lt (5 * k + i) = l i)) (D.ln k) then nI 1 else nI 0) := by
  have hG := o.G
  have h1 := o.ln k hk
  refine lp_all (L := fun n i => L_X1_hasLetters_3 vG vB (nI k) (nI s) n i) (U := D.ln k) (fun n i hi => ?_) (fun n => ?_) FU 0 (Nat.zero_le _) (by unfold FU; omega) rfl
  · have h2 := o.lt k i hk hi
    have h3 := hb i hi
    have h4 := m.lt k i hk hi
    have h5 : ¬ D.ln k ≤ i := by omega
    simp (disch := omega) only [L_X1_hasLetters_3, B_X1_hasLetters_3, F_X1_letterOf, q_lit, nI_add, pk_mul, q_sb, q_ck, q_cl, m.ln, q_le, q_eq, h3.1, h4, h5, if_false]
    by_cases c : D.lt (5 * k + i) = l i
    · rw [if_pos c, if_pos (decide_eq_true c)]
    · rw [if_neg c, if_neg (fun h => c (of_decide_eq_true h))]
  · simp (disch := omega) only [L_X1_hasLetters_3, B_X1_hasLetters_3, q_lit, q_ck, q_cl, m.ln, q_le, Nat.le_refl, if_true]
theorem u_find {vN : Nat → Int32} {vG vU vR vB : Nat → Nat → Int32} {D : Dn} {T : Nat} (m : M8 vN vG vU vR D) (o : OkD T D) {l : Nat → Nat} {s n : Nat} (hs : s + n ≤ 600) (hb : ∀ i, i < n → vB 1 (s + i) = nI (l i) ∧ l i < 256) : F_X1_find vG vB (nI s) (nI n) = some (nz (findD D l n)) := by
  have hG := o.G
  unfold findD
  rw [← fst1_nz _ _ _ _ rfl]
  refine lp_first (L := L_X1_find_3 vG vB (nI s) (nI n)) (U := D.G) (fun f k hk => ?_) (fun f => ?_) FU 0 (Nat.zero_le _) (by unfold FU; omega)
  · have h1 := o.ln k hk
    have h5 : ¬ D.G ≤ k := by omega
    by_cases c : D.ln k = n
    · have h2 := u_has m o (l := l) (s := s) hk (by omega) (fun i hi => hb i (by omega))
      simp (disch := omega) only [L_X1_find_3, B_X1_find_3, q_lit, nI_add, q_sb, q_ck, q_cl, m.G, m.ln, q_le, q_eq, h5, c, if_true, if_false]
      rw [c] at h2
      rw [h2, q_sb]
      by_cases ca : allF (fun i => decide (D.lt (5 * k + i) = l i)) n = true
      · rw [if_pos ca, if_neg (by decide), if_pos (by unfold eqN; rw [ca, decide_eq_true c]; rfl)]
      · rw [if_neg ca, if_pos rfl, if_neg (fun h => ca (by unfold eqN at h; rw [Bool.and_eq_true] at h; exact h.2))]
    · simp (disch := omega) only [L_X1_find_3, B_X1_find_3, q_lit, nI_add, q_ck, q_cl, m.G, m.ln, q_le, q_eq, h5, c, if_false]
      rw [if_neg (fun h => c ((eqN_iff D l n k).mp h).1)]
  · simp (disch := omega) only [L_X1_find_3, B_X1_find_3, q_lit, q_neg, m.G, q_le, Nat.le_refl, if_true]
theorem nm_bd {D : Dn} {T : Nat} (o : OkD T D) {k : Nat} (hk : k < D.G) : D.nm k < 14348907 ∧ 0 < D.nm k := by
  have h1 := o.ln k hk
  exact ⟨code_bd (fun i hi => o.lt k i hk hi) h1.2, code_pos (fun i hi => o.lt k i hk hi) h1.1⟩
theorem t_by {w : Nat → Int32} {D : Dn} {T : Nat} (m : M9 w D) (o : OkD T D) {l : Nat → Nat} {n : Nat} (hn : n ≤ 5) (hl : ∀ i, i < n → 97 ≤ l i ∧ l i ≤ 122) : F_X9_guestBy w (nI (codeF l n)) = some (nz (findD D l n)) := by
  have hG := o.G
  have h0 := code_bd hl hn
  unfold findD
  rw [← fst1_nz _ _ _ _ rfl]
  refine lp_first (L := L_X9_guestBy_2 w (nI (codeF l n))) (U := D.G) (fun f k hk => ?_) (fun f => ?_) FU 0 (Nat.zero_le _) (by unfold FU; omega)
  · have h1 := nm_bd o hk
    have h5 : ¬ D.G ≤ k := by omega
    simp (disch := omega) only [L_X9_guestBy_2, B_X9_guestBy_2, F_X9_guestAt, q_lit, nI_add, pk_mul, q_sb, q_ck, q_cl, m.G, m.nm, q_le, q_eq, h5, if_false]
    have h6 : D.nm k = codeF l n ↔ eqN D l n k = true := by
      rw [eqN_iff]
      constructor
      · intro e
        obtain ⟨e1, e2⟩ := code_inj (fun i hi => o.lt k i hk hi) hl e
        exact ⟨e1, fun i hi => e2 i (by omega)⟩
      · intro ⟨e1, e2⟩
        unfold Dn.nm
        rw [e1]
        exact code_ext e2
    by_cases c : D.nm k = codeF l n
    · rw [if_pos c, if_pos (h6.mp c)]
    · rw [if_neg c, if_neg (fun h => c (h6.mpr h))]
  · simp (disch := omega) only [L_X9_guestBy_2, B_X9_guestBy_2, q_lit, q_neg, q_ck, q_cl, m.G, q_le, Nat.le_refl, if_true]
/-- the two buffers hold the same n bytes -/
def BufOk (vB : Nat → Nat → Int32) (vM : (Nat → Int32) × Int64) (vbuffer : Nat → Int32) (l : Nat → Nat) (n : Nat) : Prop := n ≤ 600 ∧ vB 0 0 = nI n ∧ vM.1 1 = nI n ∧ ∀ i, i < n → vB 1 i = nI (l i) ∧ vbuffer i = nI (l i) ∧ l i < 256
def isNm (l : Nat → Nat) (n : Nat) : Bool := decide (1 ≤ n ∧ n ≤ 5) && allF (fun i => ltr (l i)) n
theorem isNm_iff (l : Nat → Nat) (n : Nat) : isNm l n = true ↔ (1 ≤ n ∧ n ≤ 5) ∧ ∀ i, i < n → 97 ≤ l i ∧ l i ≤ 122 := by
  unfold isNm
  rw [Bool.and_eq_true, allF_iff, decide_eq_true_iff]
  exact ⟨fun ⟨a, b⟩ => ⟨a, fun i hi => (ltr_iff _).mp (b i hi)⟩, fun ⟨a, b⟩ => ⟨a, fun i hi => (ltr_iff _).mpr (b i hi)⟩⟩
theorem u_isLetter {x : Nat} (h : x < 2147483648) : F_X8_isLetter (nI x) = some (if ltr x then nI 1 else nI 0) := by
  unfold F_X8_isLetter
  simp (disch := omega) only [q_lit, q_le, q_lt]
  unfold ltr
  by_cases c : 97 ≤ x ∧ x ≤ 122
  · rw [if_pos (decide_eq_true c)]
    repeat' split
    all_goals first | rfl | (exfalso; omega)
  · rw [if_neg (fun h => c (of_decide_eq_true h))]
    repeat' split
    all_goals first | rfl | (exfalso; omega)
theorem u_isName {vB : Nat → Nat → Int32} {vM : (Nat → Int32) × Int64} {vbuffer : Nat → Int32} {l : Nat → Nat} {n : Nat} (b : BufOk vB vM vbuffer l n) : F_X0_isName vB = some (if isNm l n then nI 1 else nI 0) := by
  obtain ⟨b1, b2, b3, b4⟩ := b
  by_cases c1 : n < 1
  · simp (disch := omega) only [F_X0_isName, q_lit, b2, q_lt, c1, if_true]
    rw [if_neg (fun h => by have := ((isNm_iff l n).mp h).1; omega)]
  · by_cases c2 : n ≤ 5
    · simp (disch := omega) only [F_X0_isName, q_lit, b2, q_lt, q_le, c1, c2, if_true, if_false]
      have : isNm l n = allF (fun i => ltr (l i)) n := by
        unfold isNm
        rw [decide_eq_true ⟨by omega, c2⟩, Bool.true_and]
      rw [this]
      refine lp_all (L := fun n i => L_X0_isName_20 vB n i) (U := n) (fun f i hi => ?_) (fun f => ?_) FU 0 (Nat.zero_le _) (by unfold FU; omega) rfl
      · have h3 := b4 i hi
        have h5 : ¬ n ≤ i := by omega
        simp (disch := omega) only [L_X0_isName_20, B_X0_isName_20, q_lit, nI_add, q_ck, q_cl, b2, q_le, h5, if_false, h3.1]
        rw [u_isLetter (by omega), q_sb]
        by_cases c : ltr (l i) = true
        · rw [if_pos c, if_neg (by decide), if_pos c]
        · rw [if_neg c, if_pos rfl, if_neg c]
      · simp (disch := omega) only [L_X0_isName_20, B_X0_isName_20, q_lit, b2, q_le, Nat.le_refl, if_true]
    · simp (disch := omega) only [F_X0_isName, q_lit, b2, q_lt, q_le, c1, c2, if_false]
      rw [if_neg (fun h => by have := ((isNm_iff l n).mp h).1; omega)]
theorem t_isSmall {vM : (Nat → Int32) × Int64} {vbuffer : Nat → Int32} {l : Nat → Nat} {n k : Nat} (hn : n ≤ 600) (b3 : vM.1 1 = nI n) (hb : ∀ i, i < n → vbuffer i = nI (l i) ∧ l i < 256) (hk : k ≤ 1000) : F_X9_isSmall vM vbuffer (nI k) = some (if k < n ∧ ltr (l k) = true then nI 1 else nI 0) := by
  by_cases c : k < n
  · have h3 := hb k c
    have h5 : ¬ n ≤ k := by omega
    simp (disch := omega) only [F_X9_isSmall, q_lit, q_ck, q_cl, b3, q_le, q_lt, h5, if_false, h3.1, c, true_and, ltr_iff]
    repeat' split
    all_goals first | rfl | (exfalso; omega)
  · have h5 : n ≤ k := by omega
    simp (disch := omega) only [F_X9_isSmall, q_lit, b3, q_le, h5, if_true, c, false_and, if_false]
theorem t_bufN {vB : Nat → Nat → Int32} {vM : (Nat → Int32) × Int64} {vbuffer : Nat → Int32} {l : Nat → Nat} {n : Nat} (b : BufOk vB vM vbuffer l n) : F_X9_bufferName vM vbuffer = some (if isNm l n then nI (codeF l n) else m1) := by
  obtain ⟨b1, b2, b3, b4⟩ := b
  by_cases c : 1 ≤ n ∧ n ≤ 5
  · have hin : F_X9_in (vM.1 1) 1 5 = some (nI 1) := by
      rw [b3]
      show (if nI n < nI 1 then some (nI 0) else if nI 5 < nI n then some (nI 0) else some (nI 1)) = _
      simp (disch := omega) only [q_lt]
      rw [if_neg (by omega), if_neg (by omega)]
    unfold F_X9_bufferName
    rw [hin, q_sb]
    have : isNm l n = allF (fun i => ltr (l i)) n := by
      unfold isNm
      rw [decide_eq_true c, Bool.true_and]
    rw [this]
    have key : ∀ f k, k ≤ n → n - k < f → allF (fun i => ltr (l i)) k = true → L_X9_bufferName_14 vM vbuffer (f + 1) (nI (codeF l k)) (nI 1) (nI k) = some (if allF (fun i => ltr (l i)) n then nI (codeF l n) else m1) := by
      intro f
      induction f with
      | zero => intro k _ h; omega
      | succ f ih =>
        intro k hk hf ha
        by_cases ck : k < n
        · have h3 := b4 k ck
          have h5 : ¬ n ≤ k := by omega
          have h6 := t_isSmall (vM := vM) (k := k) b1 b3 (fun i hi => (b4 i hi).2) (by omega)
          have h7 := code_bd (l := l) (n := k) (fun i hi => (ltr_iff _).mp ((allF_iff _ _).mp ha i hi)) (by omega)
          by_cases cl : ltr (l k) = true
          · rw [if_pos ⟨ck, cl⟩] at h6
            have h8 := (ltr_iff _).mp cl
            rw [L_X9_bufferName_14]
            simp (disch := omega) only [B_X9_bufferName_14, q_lit, nI_add, pk_mul, q_sb, q_ck, q_cl, b3, q_le, q_eq, e10, h5, if_false, h6, h3.2.1, q_sub]
            have h9 := ih (k + 1) (by omega) (by omega) (by simp only [allF, ha, cl, Bool.and_self])
            rw [show 27 * codeF l k + l k - 96 = codeF l (k + 1) by simp only [codeF]; omega]
            exact h9
          · rw [if_neg (fun h => cl h.2)] at h6
            rw [if_neg (fun h => cl ((allF_iff _ _).mp h k ck))]
            rw [L_X9_bufferName_14]
            simp (disch := omega) only [B_X9_bufferName_14, q_lit, nI_add, q_sb, q_ck, q_cl, b3, q_le, q_eq, e10, h5, if_false, h6]
            rw [L_X9_bufferName_14]
            simp (disch := omega) only [B_X9_bufferName_14, q_lit, q_neg, b3, q_le, if_true, ite_self]
        · have hkn : k = n := by omega
          subst hkn
          simp (disch := omega) only [L_X9_bufferName_14, B_X9_bufferName_14, q_lit, b3, q_le, Nat.le_refl, if_true, q_eq, e10, if_false, ha]
    exact key 4999 0 (Nat.zero_le _) (by omega) rfl
  · have hin : F_X9_in (vM.1 1) 1 5 = some (nI 0) := by
      rw [b3]
      show (if nI n < nI 1 then some (nI 0) else if nI 5 < nI n then some (nI 0) else some (nI 1)) = _
      simp (disch := omega) only [q_lt]
      repeat' split
      all_goals first | rfl | (exfalso; omega)
    unfold F_X9_bufferName
    rw [hin, q_sb, if_neg (fun h => c ((isNm_iff l n).mp h).1)]
    show L_X9_bufferName_14 vM vbuffer (4999 + 1) 0 (nI 0) 0 = _
    rw [L_X9_bufferName_14]
    simp (disch := omega) only [B_X9_bufferName_14, q_lit, q_neg, b3, q_le, if_true, ite_self]
