/-! the text read: tokens -/
theorem q_litL (n : Nat) : (OfNat.ofNat n : Int64) = lN (OfNat.ofNat n) := rfl
def Fr (M M' : (Nat → Int32) × Int64) : Prop := M'.1 0 = M.1 0 ∧ M'.1 1 = M.1 1 ∧ M'.1 2 = M.1 2 ∧ M'.1 3 = M.1 3 ∧ M'.1 8 = M.1 8 ∧ M'.1 9 = M.1 9
theorem Fr.r (M : (Nat → Int32) × Int64) : Fr M M := ⟨rfl, rfl, rfl, rfl, rfl, rfl⟩
theorem Fr.t {A B C : (Nat → Int32) × Int64} (h : Fr A B) (g : Fr B C) : Fr A C := ⟨g.1.trans h.1, g.2.1.trans h.2.1, g.2.2.1.trans h.2.2.1, g.2.2.2.1.trans h.2.2.2.1, g.2.2.2.2.1.trans h.2.2.2.2.1, g.2.2.2.2.2.trans h.2.2.2.2.2⟩
/-- both buffers hold the n bytes l -/
def Byt (vB : Nat → Nat → Int32) (vbuffer : Nat → Int32) (l : Nat → Nat) (n : Nat) : Prop := n ≤ 600 ∧ vB 0 0 = nI n ∧ ∀ i, i < n → vB 1 i = nI (l i) ∧ vbuffer i = nI (l i) ∧ l i < 256
theorem u_blank {x : Nat} (h : x < 2147483648) : F_X8_isBlank (nI x) = some (if x = 32 ∨ x = 10 then nI 1 else nI 0) := by
  unfold F_X8_isBlank
  simp (disch := omega) only [q_lit, q_eq]
  by_cases c1 : x = 32
  · rw [if_pos c1, if_pos (Or.inl c1)]
  · rw [if_neg c1]
    by_cases c2 : x = 10
    · rw [if_pos c2, if_pos (Or.inr c2)]
    · rw [if_neg c2, if_neg (by omega)]
def dgt (x : Nat) : Bool := decide (48 ≤ x ∧ x ≤ 57)
theorem dgt_iff (x : Nat) : dgt x = true ↔ 48 ≤ x ∧ x ≤ 57 := decide_eq_true_iff
theorem u_isDigit {x : Nat} (h : x < 2147483648) : F_X8_isDigit (nI x) = some (if dgt x then nI 1 else nI 0) := by
  unfold F_X8_isDigit
  simp (disch := omega) only [q_lit, q_lt]
  unfold dgt
  by_cases c : 48 ≤ x ∧ x ≤ 57
  · rw [if_pos (decide_eq_true c)]
    repeat' split
    all_goals first | rfl | (exfalso; omega)
  · rw [if_neg (fun h => c (of_decide_eq_true h))]
    repeat' split
    all_goals first | rfl | (exfalso; omega)
theorem t_isDigit {vM : (Nat → Int32) × Int64} {vbuffer : Nat → Int32} {l : Nat → Nat} {n k : Nat} (hn : n ≤ 600) (b3 : vM.1 1 = nI n) (hb : ∀ i, i < n → vbuffer i = nI (l i) ∧ l i < 256) (hk : k ≤ 1000) : F_X9_isDigit vM vbuffer (nI k) = some (if k < n ∧ dgt (l k) = true then nI 1 else nI 0) := by
  by_cases c : k < n
  · have h3 := hb k c
    have h5 : ¬ n ≤ k := by omega
    simp (disch := omega) only [F_X9_isDigit, q_lit, q_ck, q_cl, b3, q_le, q_lt, h5, if_false, h3.1, c, true_and, dgt_iff]
    repeat' split
    all_goals first | rfl | (exfalso; omega)
  · have h5 : n ≤ k := by omega
    simp (disch := omega) only [F_X9_isDigit, q_lit, b3, q_le, h5, if_true, c, false_and, if_false]
theorem e1032 : ((10 : Nat) = 32) = False := by decide
theorem bl_loop {vB : Nat → Nat → Int32} {vbuffer : Nat → Int32} {l : Nat → Nat} {n : Nat} (hB : Byt vB vbuffer l n) : ∀ f p (vP : Nat → Int32) (M : (Nat → Int32) × Int64), p ≤ n → n - p < f → vP 1 = nI p → M.1 4 = nI p → M.1 1 = nI n → ∃ s vP' M', s ≤ n ∧ L_X4_advance_8 vB f vP = J_X4_advance_53 vB vP' ∧ L_X9_next_0 vbuffer f M = J_X9_next_52 vbuffer M' ∧ vP' 1 = nI s ∧ M'.1 4 = nI s ∧ Fr M M' := by
  obtain ⟨hn, h0, hb⟩ := hB
  intro f
  induction f with
  | zero => intro p vP M _ h; omega
  | succ f ih =>
    intro p vP M hp hf h1 h4 hl
    by_cases c : p < n
    · have hbp := hb p c
      have c1 : ¬ n ≤ p := by omega
      have hk := u_blank (x := l p) (by omega)
      by_cases d : l p = 32 ∨ l p = 10
      · obtain ⟨s, vP', M', a1, a2, a3, a4, a5, a6⟩ := ih (p + 1) (va_up vP 1 (nI (p + 1))) (va_up M.1 4 (nI (p + 1)), M.2) (by omega) (by omega) rfl rfl hl
        refine ⟨s, vP', M', a1, ?_, ?_, a4, a5, Fr.t ⟨rfl, rfl, rfl, rfl, rfl, rfl⟩ a6⟩
        · rw [if_pos d] at hk
          rw [L_X4_advance_8]
          simp (disch := omega) only [B_X4_advance_8, q_lit, nI_add, q_ck, q_cl, h0, h1, q_le, c1, if_false, hbp.1, hk, q_sb, q_eq, e10, q_lt0]
          exact a2
        · rw [L_X9_next_0]
          rcases d with d | d
          · simp (disch := omega) only [B_X9_next_0, q_lit, nI_add, q_ck, q_cl, hl, h4, q_le, c1, if_false, hbp.2.1, d, eq_self, if_true, q_lt0]
            exact a3
          · simp (disch := omega) only [B_X9_next_0, q_lit, nI_add, q_ck, q_cl, hl, h4, q_le, c1, if_false, hbp.2.1, d, q_eq, e1032, eq_self, if_true, q_lt0]
            exact a3
      · rw [if_neg d] at hk
        have d1 : ¬ l p = 32 := fun h => d (Or.inl h)
        have d2 : ¬ l p = 10 := fun h => d (Or.inr h)
        refine ⟨p, vP, M, hp, ?_, ?_, h1, h4, Fr.r M⟩
        · rw [L_X4_advance_8]
          simp (disch := omega) only [B_X4_advance_8, q_lit, q_ck, q_cl, h0, h1, q_le, c1, if_false, hbp.1, hk, q_sb, eq_self, if_true]
        · rw [L_X9_next_0]
          simp (disch := omega) only [B_X9_next_0, q_lit, q_ck, q_cl, hl, h4, q_le, c1, if_false, hbp.2.1, q_eq, d1, d2]
    · have c1 : n ≤ p := by omega
      refine ⟨p, vP, M, hp, ?_, ?_, h1, h4, Fr.r M⟩
      · rw [L_X4_advance_8]
        simp (disch := omega) only [B_X4_advance_8, h0, h1, q_le, c1, if_true]
      · rw [L_X9_next_0]
        simp (disch := omega) only [B_X9_next_0, hl, h4, q_le, c1, if_true]
def wcap (k : Nat) : Nat := if k ≤ 9 then k else 9
theorem wcode_bd {l : Nat → Nat} {n : Nat} (h : ∀ i, i < n → 97 ≤ l i ∧ l i ≤ 122) (hn : n ≤ 9) : codeF l n < 7625597484987 :=
  Nat.lt_of_lt_of_le (code_lt h) (Nat.pow_le_pow_right (n := 27) (by omega) hn)
theorem wd_loop {vB : Nat → Nat → Int32} {vbuffer : Nat → Int32} {l : Nat → Nat} {n s : Nat} (hB : Byt vB vbuffer l n) : ∀ f e (vP : Nat → Int32) (M : (Nat → Int32) × Int64), s ≤ e → e ≤ n → n - e < f → vP 1 = nI s → vP 2 = nI e → M.1 4 = nI e → M.1 5 = nI s → M.1 1 = nI n → (∀ i, s ≤ i → i < e → 97 ≤ l i ∧ l i ≤ 122) → M.2 = lN (codeF (fun i => l (s + i)) (wcap (e - s))) → ∃ e' vP' M', L_X4_takeWord_0 vB f vP = some vP' ∧ L_X9_nextWord_0 vbuffer f M = some M' ∧ e ≤ e' ∧ e' ≤ n ∧ (e' = n ∨ ltr (l e') = false) ∧ vP' 0 = nI 1 ∧ vP' 1 = nI s ∧ vP' 2 = nI e' ∧ M'.1 4 = nI e' ∧ M'.1 5 = nI s ∧ M'.1 6 = nI 1 ∧ (∀ i, s ≤ i → i < e' → 97 ≤ l i ∧ l i ≤ 122) ∧ M'.2 = lN (codeF (fun i => l (s + i)) (wcap (e' - s))) ∧ Fr M M' := by
  obtain ⟨hn, h0, hb⟩ := hB
  intro f
  induction f with
  | zero => intro e vP M _ _ h; omega
  | succ f ih =>
    intro e vP M hse he hf h1 h2 h4 h5 hl hlt hw
    have hsm := t_isSmall (vM := M) (k := e) hn hl (fun i hi => (hb i hi).2) (by omega)
    by_cases c : e < n ∧ ltr (l e) = true
    · obtain ⟨ce, cl⟩ := c
      have hbe := hb e ce
      have c1 : ¬ n ≤ e := by omega
      have hk := u_isLetter (x := l e) (by omega)
      have hle := (ltr_iff _).mp cl
      rw [if_pos cl] at hk
      rw [if_pos ⟨ce, cl⟩] at hsm
      have hlt' : ∀ i, s ≤ i → i < e + 1 → 97 ≤ l i ∧ l i ≤ 122 := fun i hi1 hi2 => by
        by_cases q : i = e
        · rw [q]; exact hle
        · exact hlt i hi1 (by omega)
      by_cases c9 : 9 ≤ e - s
      · have hw' : M.2 = lN (codeF (fun i => l (s + i)) (wcap (e + 1 - s))) := by
          rw [hw]
          unfold wcap
          by_cases q : e - s ≤ 9
          · rw [if_pos q, if_neg (by omega), show e - s = 9 by omega]
          · rw [if_neg q, if_neg (by omega)]
        obtain ⟨e', vP', M', a1, a2, a3, a4, a5, a6, a7, a8, a9, a10, a11, a12, a13, a14⟩ := ih (e + 1) (va_up vP 2 (nI (e + 1))) (va_up M.1 4 (nI (e + 1)), M.2) (by omega) (by omega) (by omega) h1 rfl rfl h5 hl hlt' hw'
        refine ⟨e', vP', M', ?_, ?_, by omega, a4, a5, a6, a7, a8, a9, a10, a11, a12, a13, Fr.t ⟨rfl, rfl, rfl, rfl, rfl, rfl⟩ a14⟩
        · rw [L_X4_takeWord_0]
          simp (disch := omega) only [B_X4_takeWord_0, q_lit, nI_add, q_ck, q_cl, h0, h2, q_le, c1, if_false, hbe.1, hk, q_sb, q_eq, e10, q_lt0]
          exact a1
        · rw [L_X9_nextWord_0]
          simp (disch := omega) only [B_X9_nextWord_0, h4, hsm, q_sb, q_lit, nI_add, q_eq, e10, if_false, h5, q_sub, q_le, c9, if_true, q_lt0]
          exact a2
      · have hcb := wcode_bd (l := fun i => l (s + i)) (n := e - s) (fun i hi => hlt (s + i) (by omega) (by omega)) (by omega)
        have hw0 : M.2 = lN (codeF (fun i => l (s + i)) (e - s)) := by
          rw [hw]; unfold wcap; rw [if_pos (by omega)]
        have hw' : lN (27 * codeF (fun i => l (s + i)) (e - s) + l e - 96) = lN (codeF (fun i => l (s + i)) (wcap (e + 1 - s))) := by
          unfold wcap
          rw [if_pos (by omega), show e + 1 - s = (e - s) + 1 by omega]
          simp only [codeF]
          rw [show s + (e - s) = e by omega]
          exact congrArg lN (by omega)
        obtain ⟨e', vP', M', a1, a2, a3, a4, a5, a6, a7, a8, a9, a10, a11, a12, a13, a14⟩ := ih (e + 1) (va_up vP 2 (nI (e + 1))) (va_up M.1 4 (nI (e + 1)), lN (27 * codeF (fun i => l (s + i)) (e - s) + l e - 96)) (by omega) (by omega) (by omega) h1 rfl rfl h5 hl hlt' hw'
        refine ⟨e', vP', M', ?_, ?_, by omega, a4, a5, a6, a7, a8, a9, a10, a11, a12, a13, Fr.t ⟨rfl, rfl, rfl, rfl, rfl, rfl⟩ a14⟩
        · rw [L_X4_takeWord_0]
          simp (disch := omega) only [B_X4_takeWord_0, q_lit, nI_add, q_ck, q_cl, h0, h2, q_le, c1, if_false, hbe.1, hk, q_sb, q_eq, e10, q_lt0]
          exact a1
        · rw [L_X9_nextWord_0]
          simp (disch := omega) only [B_X9_nextWord_0, h4, hsm, q_sb, q_lit, q_litL, nI_add, q_eq, e10, if_false, h5, q_sub, q_le, c9, q_lt0, q_ck, q_cl, hbe.2.1, hw0, nI_l, lN_mul, lN_add, lN_sub]
          exact a2
    · rw [if_neg c] at hsm
      refine ⟨e, va_up vP 0 (nI 1), (va_up M.1 6 (nI 1), M.2), ?_, ?_, Nat.le_refl _, he, ?_, rfl, h1, h2, h4, h5, rfl, hlt, hw, ⟨rfl, rfl, rfl, rfl, rfl, rfl⟩⟩
      · rw [L_X4_takeWord_0]
        by_cases ce : e < n
        · have hbe := hb e ce
          have c1 : ¬ n ≤ e := by omega
          have hk := u_isLetter (x := l e) (by omega)
          rw [if_neg (fun h => c ⟨ce, h⟩)] at hk
          simp (disch := omega) only [B_X4_takeWord_0, q_lit, q_ck, q_cl, h0, h2, q_le, c1, if_false, hbe.1, hk, q_sb, eq_self, if_true, q_lt0]
        · have c1 : n ≤ e := by omega
          simp (disch := omega) only [B_X4_takeWord_0, q_lit, h0, h2, q_le, c1, if_true, q_lt0]
      · rw [L_X9_nextWord_0]
        simp (disch := omega) only [B_X9_nextWord_0, h4, hsm, q_sb, q_lit, eq_self, if_true, q_lt0]
      · by_cases ce : e < n
        · exact Or.inr (Bool.eq_false_iff.mpr fun h => c ⟨ce, h⟩)
        · exact Or.inl (by omega)
def vbd (d : Nat) : Nat := if d = 0 then 0 else if d = 1 then 9 else if d = 2 then 99 else 999
theorem nm_loop {vB : Nat → Nat → Int32} {vbuffer : Nat → Int32} {l : Nat → Nat} {n s : Nat} (hB : Byt vB vbuffer l n) : ∀ f e v (vP : Nat → Int32) (M : (Nat → Int32) × Int64), s ≤ e → e ≤ n → n - e < f → vP 1 = nI s → vP 2 = nI e → M.1 4 = nI e → M.1 5 = nI s → M.1 1 = nI n → (e - s ≤ 3 → vP 3 = nI v ∧ M.1 7 = nI v ∧ v ≤ vbd (e - s)) → ∃ e' v' k vP' M', L_X4_takeNumber_5 vB f vP = some vP' ∧ L_X9_nextNumber_0 vbuffer f M = some M' ∧ e ≤ e' ∧ e' ≤ n ∧ (k = 2 ∨ k = 4) ∧ vP' 0 = nI k ∧ vP' 1 = nI s ∧ vP' 2 = nI e' ∧ M'.1 4 = nI e' ∧ M'.1 5 = nI s ∧ M'.1 6 = nI k ∧ (k = 2 → v' ≤ 999 ∧ vP' 3 = nI v' ∧ M'.1 7 = nI v') ∧ Fr M M' := by
  obtain ⟨hn, h0, hb⟩ := hB
  intro f
  induction f with
  | zero => intro e v vP M _ _ h; omega
  | succ f ih =>
    intro e v vP M hse he hf h1 h2 h4 h5 hl hv
    have hsm := t_isDigit (vM := M) (k := e) hn hl (fun i hi => (hb i hi).2) (by omega)
    by_cases c : e < n ∧ dgt (l e) = true
    · obtain ⟨ce, cl⟩ := c
      have hbe := hb e ce
      have c1 : ¬ n ≤ e := by omega
      have hk := u_isDigit (x := l e) (by omega)
      have hle := (dgt_iff _).mp cl
      rw [if_pos cl] at hk
      rw [if_pos ⟨ce, cl⟩] at hsm
      by_cases c9 : 3 ≤ e - s
      · obtain ⟨e', v', k, vP', M', a1, a2, a3, a4, a5, a6, a7, a8, a9, a10, a11, a12, a13⟩ := ih (e + 1) v (va_up (va_up vP 3 (vP 3 * nI 10 + nI (l e) - nI 48)) 2 (nI (e + 1))) (va_up M.1 4 (nI (e + 1)), M.2) (by omega) (by omega) (by omega) h1 rfl rfl h5 hl (fun h => by omega)
        refine ⟨e', v', k, vP', M', ?_, ?_, by omega, a4, a5, a6, a7, a8, a9, a10, a11, a12, Fr.t ⟨rfl, rfl, rfl, rfl, rfl, rfl⟩ a13⟩
        · have u2 : va_up vP 3 (vP 3 * nI 10 + nI (l e) - nI 48) 2 = nI e := h2
          rw [L_X4_takeNumber_5]
          simp (disch := omega) only [B_X4_takeNumber_5, q_lit, nI_add, q_ck, q_cl, h0, h2, q_le, c1, if_false, hbe.1, hk, q_sb, q_eq, e10, q_lt0, u2]
          exact a1
        · rw [L_X9_nextNumber_0]
          simp (disch := omega) only [B_X9_nextNumber_0, h4, hsm, q_sb, q_lit, nI_add, q_eq, e10, if_false, h5, q_sub, q_le, c9, if_true, q_lt0]
          exact a2
      · obtain ⟨v1, v2, v3⟩ := hv (by omega)
        have v4 : v ≤ 99 := by
          unfold vbd at v3
          repeat' split at v3
          all_goals omega
        have hv' : 10 * v + l e - 48 ≤ vbd (e + 1 - s) := by
          unfold vbd at v3 ⊢
          by_cases q0 : e - s = 0
          · rw [if_pos q0] at v3
            rw [if_neg (by omega), if_pos (by omega)]
            omega
          · rw [if_neg q0] at v3
            by_cases q1 : e - s = 1
            · rw [if_pos q1] at v3
              rw [if_neg (by omega), if_neg (by omega), if_pos (by omega)]
              omega
            · rw [if_neg q1, if_pos (by omega)] at v3
              rw [if_neg (by omega), if_neg (by omega), if_neg (by omega)]
              omega
        have hc : v * 10 = 10 * v := Nat.mul_comm v 10
        obtain ⟨e', v', k, vP', M', a1, a2, a3, a4, a5, a6, a7, a8, a9, a10, a11, a12, a13⟩ := ih (e + 1) (10 * v + l e - 48) (va_up (va_up vP 3 (nI (10 * v + l e - 48))) 2 (nI (e + 1))) (va_up (va_up M.1 7 (nI (10 * v + l e - 48))) 4 (nI (e + 1)), M.2) (by omega) (by omega) (by omega) h1 rfl rfl h5 hl (fun _ => ⟨rfl, rfl, hv'⟩)
        refine ⟨e', v', k, vP', M', ?_, ?_, by omega, a4, a5, a6, a7, a8, a9, a10, a11, a12, Fr.t ⟨rfl, rfl, rfl, rfl, rfl, rfl⟩ a13⟩
        · have u2 : va_up vP 3 (nI (10 * v + l e - 48)) 2 = nI e := h2
          rw [L_X4_takeNumber_5]
          simp (disch := omega) only [B_X4_takeNumber_5, q_lit, nI_add, pk_mul, q_ck, q_cl, h0, h2, v1, hc, q_le, c1, if_false, hbe.1, hk, q_sb, q_eq, e10, q_lt0, q_sub, u2]
          exact a1
        · have u4 : va_up M.1 7 (nI (10 * v + l e - 48)) 4 = nI e := h4
          rw [L_X9_nextNumber_0]
          simp (disch := omega) only [B_X9_nextNumber_0, h4, hsm, q_sb, q_lit, nI_add, pk_mul, q_eq, e10, if_false, h5, q_sub, q_le, c9, q_lt0, q_ck, q_cl, hbe.2.1, v2, u4]
          exact a2
    · rw [if_neg c] at hsm
      have hcl : L_X4_takeNumber_5 vB (f + 1) vP = J_X4_takeNumber_77 vB vP := by
        rw [L_X4_takeNumber_5]
        by_cases ce : e < n
        · have hbe := hb e ce
          have c1 : ¬ n ≤ e := by omega
          have hk := u_isDigit (x := l e) (by omega)
          rw [if_neg (fun h => c ⟨ce, h⟩)] at hk
          simp (disch := omega) only [B_X4_takeNumber_5, q_lit, q_ck, q_cl, h0, h2, q_le, c1, if_false, hbe.1, hk, q_sb, eq_self, if_true]
        · have c1 : n ≤ e := by omega
          simp (disch := omega) only [B_X4_takeNumber_5, h0, h2, q_le, c1, if_true]
      have u4 : va_up M.1 6 (nI 2) 4 = nI e := h4
      have u5 : va_up M.1 6 (nI 2) 5 = nI s := h5
      by_cases c3 : e - s ≤ 3
      · obtain ⟨v1, v2, v3⟩ := hv c3
        have v4 : v ≤ 999 := by
          unfold vbd at v3
          repeat' split at v3
          all_goals omega
        refine ⟨e, v, 2, va_up vP 0 (nI 2), (va_up M.1 6 (nI 2), M.2), ?_, ?_, Nat.le_refl _, he, Or.inl rfl, rfl, h1, h2, h4, h5, rfl, fun _ => ⟨v4, v1, v2⟩, ⟨rfl, rfl, rfl, rfl, rfl, rfl⟩⟩
        · rw [hcl]
          simp (disch := omega) only [J_X4_takeNumber_77, q_lit, h1, h2, q_sub, q_le, c3, if_true, q_lt0]
        · rw [L_X9_nextNumber_0]
          simp (disch := omega) only [B_X9_nextNumber_0, h4, hsm, q_sb, q_lit, eq_self, if_true, q_lt0, u4, u5, q_sub, q_le, c3]
      · refine ⟨e, v, 4, va_up vP 0 (nI 4), (va_up (va_up M.1 6 (nI 2)) 6 (nI 4), M.2), ?_, ?_, Nat.le_refl _, he, Or.inr rfl, rfl, h1, h2, h4, h5, rfl, fun h => absurd h (by decide), ⟨rfl, rfl, rfl, rfl, rfl, rfl⟩⟩
        · rw [hcl]
          simp (disch := omega) only [J_X4_takeNumber_77, q_lit, h1, h2, q_sub, q_le, c3, if_false, q_lt0]
        · rw [L_X9_nextNumber_0]
          simp (disch := omega) only [B_X9_nextNumber_0, h4, hsm, q_sb, q_lit, eq_self, if_true, q_lt0, u4, u5, q_sub, q_le, c3, if_false]
/-- a token: its kind, start, end, number -/
def Tk (l : Nat → Nat) (n : Nat) (vP : Nat → Int32) (M : (Nat → Int32) × Int64) (k s e v : Nat) : Prop := s ≤ e ∧ e ≤ n ∧ k ≤ 4 ∧ vP 0 = nI k ∧ vP 1 = nI s ∧ vP 2 = nI e ∧ M.1 1 = nI n ∧ M.1 4 = nI e ∧ M.1 5 = nI s ∧ M.1 6 = nI k ∧ (k = 2 → v ≤ 999 ∧ vP 3 = nI v ∧ M.1 7 = nI v) ∧ (k = 1 → s < e ∧ (∀ i, s ≤ i → i < e → 97 ≤ l i ∧ l i ≤ 122) ∧ M.2 = lN (codeF (fun i => l (s + i)) (wcap (e - s))))
theorem adv {vB : Nat → Nat → Int32} {vbuffer : Nat → Int32} {l : Nat → Nat} {n p : Nat} {vP : Nat → Int32} {M : (Nat → Int32) × Int64} (hB : Byt vB vbuffer l n) (hp : p ≤ n) (h2 : vP 2 = nI p) (h4 : M.1 4 = nI p) (hl : M.1 1 = nI n) : ∃ vP' M' k s e v, F_X4_advance vP vB = some vP' ∧ F_X9_next M vbuffer = some M' ∧ Tk l n vP' M' k s e v ∧ Fr M M' := by
  have hn := hB.1
  have h0 := hB.2.1
  have hb := hB.2.2
  obtain ⟨s, P, N, hs, e1, e2, p1, n4, fr⟩ := bl_loop hB FU p (va_up vP 1 (vP 2)) M hp (by unfold FU; omega) h2 h4 hl
  have hnl : N.1 1 = nI n := fr.2.1.trans hl
  have E1 : F_X4_advance vP vB = J_X4_advance_53 vB P := e1
  have E2 : F_X9_next M vbuffer = J_X9_next_52 vbuffer N := e2
  rw [E1, E2]
  have w1 : va_up P 2 (P 1) 1 = nI s := p1
  have x1 : va_up (va_up N.1 5 (N.1 4)) 7 (nI 0) 1 = nI n := hnl
  have x4 : va_up (va_up N.1 5 (N.1 4)) 7 (nI 0) 4 = nI s := n4
  have x5 : va_up (va_up N.1 5 (N.1 4)) 7 (nI 0) 5 = nI s := n4
  by_cases c : s < n
  · have hbs := hb s c
    have c2 : ¬ s = n := by omega
    have hk := u_isLetter (x := l s) (by omega)
    have hd := u_isDigit (x := l s) (by omega)
    have hsm := t_isSmall (vM := (va_up (va_up N.1 5 (N.1 4)) 7 (nI 0), lN 0)) (vbuffer := vbuffer) (l := l) (k := s) hn x1 (fun i hi => (hb i hi).2) (by omega)
    have hsd := t_isDigit (vM := (va_up (va_up N.1 5 (N.1 4)) 7 (nI 0), lN 0)) (vbuffer := vbuffer) (l := l) (k := s) hn x1 (fun i hi => (hb i hi).2) (by omega)
    by_cases cl : ltr (l s) = true
    · rw [if_pos cl] at hk
      rw [if_pos ⟨c, cl⟩] at hsm
      obtain ⟨e', vP', M', a1, a2, a3, a4, a5, a6, a7, a8, a9, a10, a11, a12, a13, a14⟩ := wd_loop hB FU s (va_up P 2 (P 1)) (va_up (va_up N.1 5 (N.1 4)) 7 (nI 0), lN 0) (Nat.le_refl _) hs (by unfold FU; omega) p1 p1 x4 x5 x1 (fun i h1 h2 => by omega) (by rw [Nat.sub_self]; rfl)
      have hse : s < e' := by
        rcases a5 with h | h
        · omega
        · by_cases q : e' = s
          · rw [q, cl] at h; exact absurd h (by decide)
          · omega
      refine ⟨vP', M', 1, s, e', 0, ?_, ?_, ⟨a3, a4, by omega, a6, a7, a8, a14.2.1.trans x1, a9, a10, a11, fun h => absurd h (by decide), fun _ => ⟨hse, a12, a13⟩⟩, Fr.t fr (Fr.t ⟨rfl, rfl, rfl, rfl, rfl, rfl⟩ a14)⟩
      · simp (disch := omega) only [J_X4_advance_53, q_lt0, w1, h0, q_lt, c, if_true, q_ck, q_cl, hbs.1, hk, q_sb, q_lit, q_eq, e10, if_false]
        rw [show F_X4_takeWord (va_up P 2 (P 1)) vB = some vP' from a1, q_sb]
      · simp (disch := omega) only [J_X9_next_52, q_lt0, q_lit, q_litL, x4, x1, q_eq, c2, if_false, hsm, q_sb, e10]
        rw [show F_X9_nextWord (va_up (va_up N.1 5 (N.1 4)) 7 (nI 0), lN 0) vbuffer = some M' from a2, q_sb]
    · rw [if_neg cl] at hk
      rw [if_neg (fun h => cl h.2)] at hsm
      by_cases cd : dgt (l s) = true
      · rw [if_pos cd] at hd
        rw [if_pos ⟨c, cd⟩] at hsd
        obtain ⟨e', v', k, vP', M', a1, a2, a3, a4, a5, a6, a7, a8, a9, a10, a11, a12, a13⟩ := nm_loop hB FU s 0 (va_up (va_up P 2 (P 1)) 3 (nI 0)) (va_up (va_up N.1 5 (N.1 4)) 7 (nI 0), lN 0) (Nat.le_refl _) hs (by unfold FU; omega) p1 p1 x4 x5 x1 (fun _ => ⟨rfl, rfl, Nat.zero_le _⟩)
        refine ⟨vP', M', k, s, e', v', ?_, ?_, ⟨a3, a4, by omega, a6, a7, a8, a13.2.1.trans x1, a9, a10, a11, a12, fun h => by omega⟩, Fr.t fr (Fr.t ⟨rfl, rfl, rfl, rfl, rfl, rfl⟩ a13)⟩
        · simp (disch := omega) only [J_X4_advance_53, q_lt0, w1, h0, q_lt, c, if_true, q_ck, q_cl, hbs.1, hk, hd, q_sb, q_lit, q_eq, e10, eq_self, if_false]
          rw [show F_X4_takeNumber (va_up P 2 (P 1)) vB = some vP' from a1, q_sb]
        · simp (disch := omega) only [J_X9_next_52, q_lt0, q_lit, q_litL, x4, x1, q_eq, c2, if_false, hsm, hsd, q_sb, e10, eq_self, if_true]
          rw [show F_X9_nextNumber (va_up (va_up N.1 5 (N.1 4)) 7 (nI 0), lN 0) vbuffer = some M' from a2, q_sb]
      · rw [if_neg cd] at hd
        rw [if_neg (fun h => cd h.2)] at hsd
        by_cases cs : l s = 59
        · refine ⟨va_up (va_up (va_up P 2 (P 1)) 0 (nI 3)) 2 (nI (s + 1)), (va_up (va_up (va_up (va_up (va_up N.1 5 (N.1 4)) 7 (nI 0)) 6 (nI 4)) 6 (nI 3)) 4 (nI (s + 1)), lN 0), 3, s, s + 1, 0, ?_, ?_, ⟨by omega, by omega, by omega, rfl, p1, rfl, x1, rfl, x5, rfl, fun h => absurd h (by decide), fun h => absurd h (by decide)⟩, Fr.t fr ⟨rfl, rfl, rfl, rfl, rfl, rfl⟩⟩
          · have w2 : va_up (va_up P 2 (P 1)) 0 (nI 3) 1 = nI s := p1
            rw [cs] at hk hd
            simp (disch := omega) only [J_X4_advance_53, q_lt0, w1, h0, q_lt, c, if_true, q_ck, q_cl, hbs.1, hk, hd, q_sb, q_lit, nI_add, eq_self, cs, w2]
          · have x6 : va_up (va_up (va_up N.1 5 (N.1 4)) 7 (nI 0)) 6 (nI 4) 4 = nI s := n4
            have x7 : va_up (va_up (va_up (va_up N.1 5 (N.1 4)) 7 (nI 0)) 6 (nI 4)) 6 (nI 3) 4 = nI s := n4
            simp (disch := omega) only [J_X9_next_52, q_lt0, q_lit, nI_add, q_litL, x4, x1, q_eq, c2, if_false, hsm, hsd, q_sb, eq_self, if_true, x6, x7, q_ck, q_cl, hbs.2.1, cs]
        · refine ⟨va_up (va_up (va_up P 2 (P 1)) 0 (nI 4)) 2 (nI (s + 1)), (va_up (va_up (va_up (va_up N.1 5 (N.1 4)) 7 (nI 0)) 6 (nI 4)) 4 (nI (s + 1)), lN 0), 4, s, s + 1, 0, ?_, ?_, ⟨by omega, by omega, by omega, rfl, p1, rfl, x1, rfl, x5, rfl, fun h => absurd h (by decide), fun h => absurd h (by decide)⟩, Fr.t fr ⟨rfl, rfl, rfl, rfl, rfl, rfl⟩⟩
          · have w2 : va_up (va_up P 2 (P 1)) 0 (nI 4) 1 = nI s := p1
            simp (disch := omega) only [J_X4_advance_53, q_lt0, w1, h0, q_lt, c, if_true, q_ck, q_cl, hbs.1, hk, hd, q_sb, q_lit, nI_add, eq_self, q_eq, cs, if_false, w2]
          · have x6 : va_up (va_up (va_up N.1 5 (N.1 4)) 7 (nI 0)) 6 (nI 4) 4 = nI s := n4
            simp (disch := omega) only [J_X9_next_52, q_lt0, q_lit, nI_add, q_litL, x4, x1, q_eq, c2, if_false, hsm, hsd, q_sb, eq_self, if_true, x6, q_ck, q_cl, hbs.2.1, cs]
  · have c1 : s = n := by omega
    have c2 : ¬ s < n := c
    subst c1
    refine ⟨va_up (va_up P 2 (P 1)) 0 (nI 0), (va_up (va_up (va_up N.1 5 (N.1 4)) 7 (nI 0)) 6 (nI 0), lN 0), 0, s, s, 0, ?_, ?_, ⟨Nat.le_refl _, Nat.le_refl _, by omega, rfl, p1, p1, x1, x4, x5, rfl, fun h => absurd h (by decide), fun h => absurd h (by decide)⟩, Fr.t fr ⟨rfl, rfl, rfl, rfl, rfl, rfl⟩⟩
    · simp (disch := omega) only [J_X4_advance_53, q_lt0, w1, h0, q_lt, c2, if_false, q_lit]
    · simp (disch := omega) only [J_X9_next_52, q_lt0, q_lit, q_litL, x4, x1, eq_self, if_true]
