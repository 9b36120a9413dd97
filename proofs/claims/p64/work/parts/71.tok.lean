/-! the parser's tokens -/
def valF (l : Nat → Nat) (s : Nat) : Nat → Nat
  | 0 => 0
  | k + 1 => valF l s k * 10 + (l (s + k) - 48)
section
variable {vB : Nat → Nat → Int32} {l : Nat → Nat} {n : Nat}
theorem buf_at (hB : Buf vB l n) (hn : n ≤ 600) {i : Nat} (hi : i < n) : vB 1 (Int32.toNatClampNeg (nI i)) = nI (l i) := by
  rw [q_cl (by omega)]
  exact hB.2 i hi
theorem tk_word (hB : Buf vB l n) (hn : n ≤ 600) (hl : ∀ i, l i < 256) {e2 : Nat} (he : e2 ≤ n) (hst : e2 = n ∨ ltr (l e2) = false) : ∀ d i vP f, i + d = e2 → d < f → vP 2 = nI i → (∀ k, i ≤ k → k < e2 → ltr (l k) = true) → ∃ w, L_X4_takeWord_0 vB f vP = some w ∧ w 0 = nI 1 ∧ w 1 = vP 1 ∧ w 2 = nI e2 := by
  intro d
  induction d with
  | zero =>
    intro i vP f hi hf h2 hk
    obtain ⟨f, rfl⟩ : ∃ g, f = g + 1 := ⟨f - 1, by omega⟩
    have hi : i = e2 := by omega
    subst hi
    refine ⟨va_up vP 0 1, ?_, rfl, rfl, h2⟩
    show B_X4_takeWord_0 (L_X4_takeWord_0 vB f) vB vP = _
    unfold B_X4_takeWord_0
    rw [hB.1, h2]
    by_cases c : n ≤ i
    · rw [if_pos (show nI n ≤ nI i by rw [q_le (by omega) (by omega)]; exact c)]
      rfl
    · rcases hst with z | z
      · omega
      · rw [if_neg (show ¬ nI n ≤ nI i by rw [q_le (by omega) (by omega)]; exact c), q_ck (by omega) (by omega), buf_at hB hn (by omega), u_isLetter (by have := hl i; omega), z, q_sb]
        rfl
  | succ d ih =>
    intro i vP f hi hf h2 hk
    obtain ⟨f, rfl⟩ : ∃ g, f = g + 1 := ⟨f - 1, by omega⟩
    obtain ⟨w, e, w0, w1, w2⟩ := ih (i + 1) (va_up vP 2 (nI (i + 1))) f (by omega) (by omega) rfl (fun k h1 h3 => hk k (by omega) h3)
    refine ⟨w, ?_, w0, w1, w2⟩
    rw [← e]
    show B_X4_takeWord_0 (L_X4_takeWord_0 vB f) vB vP = _
    unfold B_X4_takeWord_0
    rw [hB.1, h2, if_neg (show ¬ nI n ≤ nI i by rw [q_le (by omega) (by omega)]; omega), q_ck (by omega) (by omega), buf_at hB hn (by omega), u_isLetter (by have := hl i; omega), hk i (Nat.le_refl _) (by omega), q_sb, show nI i + 1 = nI (i + 1) from nI_add i 1]
    rfl
theorem tk_num (hB : Buf vB l n) (hn : n ≤ 600) (hl : ∀ i, l i < 256) {s e2 : Nat} (he : e2 ≤ n) (h3 : e2 ≤ s + 3) (hst : e2 = n ∨ dgt (l e2) = false) : ∀ d i vP f, s ≤ i → i + d = e2 → d < f → vP 1 = nI s → vP 2 = nI i → vP 3 = nI (valF l s (i - s)) → valF l s (i - s) < 1000 → (∀ k, i ≤ k → k < e2 → dgt (l k) = true) → valF l s (e2 - s) < 1000 → ∃ w, L_X4_takeNumber_5 vB f vP = some w ∧ w 0 = nI 2 ∧ w 1 = nI s ∧ w 2 = nI e2 ∧ w 3 = nI (valF l s (e2 - s)) := by
  intro d
  induction d with
  | zero =>
    intro i vP f hsi hi hf h1 h2 h4 h5 hk h6
    obtain ⟨f, rfl⟩ : ∃ g, f = g + 1 := ⟨f - 1, by omega⟩
    have hi : i = e2 := by omega
    subst hi
    have e77 : J_X4_takeNumber_77 vB vP = some (va_up vP 0 (nI 2)) := by
      unfold J_X4_takeNumber_77
      rw [h1, h2, q_sub hsi, if_pos (show nI (i - s) ≤ (3 : Int32) by rw [show (3 : Int32) = nI 3 from rfl, q_le (by omega) (by omega)]; omega)]
      rfl
    refine ⟨va_up vP 0 (nI 2), ?_, rfl, h1, h2, h4⟩
    show B_X4_takeNumber_5 (L_X4_takeNumber_5 vB f) vB vP = _
    unfold B_X4_takeNumber_5
    rw [hB.1, h2]
    by_cases c : n ≤ i
    · rw [if_pos (show nI n ≤ nI i by rw [q_le (by omega) (by omega)]; exact c)]
      exact e77
    · rcases hst with z | z
      · omega
      · rw [if_neg (show ¬ nI n ≤ nI i by rw [q_le (by omega) (by omega)]; exact c), q_ck (by omega) (by omega), buf_at hB hn (by omega), u_isDigit (by have := hl i; omega), z, q_sb]
        exact e77
  | succ d ih =>
    intro i vP f hsi hi hf h1 h2 h4 h5 hk h6
    obtain ⟨f, rfl⟩ : ∃ g, f = g + 1 := ⟨f - 1, by omega⟩
    have hd := (dgt_iff (l i)).mp (hk i (Nat.le_refl _) (by omega))
    have hv : valF l s (i + 1 - s) = valF l s (i - s) * 10 + (l i - 48) := by
      rw [show i + 1 - s = (i - s) + 1 by omega]
      show valF l s (i - s) * 10 + (l (s + (i - s)) - 48) = _
      rw [show s + (i - s) = i by omega]
    have hv9 : valF l s (i + 1 - s) < 1000 := by
      have mono : ∀ m, valF l s (i + 1 - s) ≤ valF l s (i + 1 - s + m) := by
        intro m
        induction m with
        | zero => exact Nat.le_refl _
        | succ m ihm =>
          refine Nat.le_trans ihm ?_
          show _ ≤ valF l s (i + 1 - s + m) * 10 + _
          omega
      have := mono (e2 - (i + 1))
      rw [show i + 1 - s + (e2 - (i + 1)) = e2 - s by omega] at this
      omega
    obtain ⟨w, e, w0, w1, w2, w3⟩ := ih (i + 1) (va_up (va_up vP 3 (nI (valF l s (i + 1 - s)))) 2 (nI (i + 1))) f (by omega) (by omega) (by omega) h1 rfl rfl hv9 (fun k h1 h3 => hk k (by omega) h3) h6
    refine ⟨w, ?_, w0, w1, w2, w3⟩
    rw [← e]
    show B_X4_takeNumber_5 (L_X4_takeNumber_5 vB f) vB vP = _
    unfold B_X4_takeNumber_5
    have e3 : nI (valF l s (i - s)) * 10 + nI (l i) - 48 = nI (valF l s (i + 1 - s)) := by
      rw [show (10 : Int32) = nI 10 from rfl, pk_mul, nI_add, show (48 : Int32) = nI 48 from rfl, q_sub (by omega), hv]
      exact congrArg nI (by omega)
    rw [hB.1, h2, if_neg (show ¬ nI n ≤ nI i by rw [q_le (by omega) (by omega)]; omega), q_ck (by omega) (by omega), buf_at hB hn (by omega), u_isDigit (by have := hl i; omega), hk i (Nat.le_refl _) (by omega), q_sb]
    rw [if_neg (show ¬ (if (true : Bool) = true then nI 1 else nI 0) = (0 : Int32) by decide), q_ck (by omega) (by omega), h4, e3, q_lt0, q_lt0]
    have e5 : va_up vP 3 (nI (valF l s (i + 1 - s))) 2 = nI i := h2
    rw [e5, show nI i + 1 = nI (i + 1) from nI_add i 1]
theorem no_ld {x : Nat} (h : dgt x = true) : ltr x = false := by
  have := (dgt_iff x).mp h
  exact decide_eq_false (by omega)
theorem ad_53 (hB : Buf vB l n) (hn : n ≤ 600) (hl : ∀ i, l i < 256) {vP : Nat → Int32} {s : Nat} (hs : s ≤ n) (h1 : vP 1 = nI s) :
    (∀ e2, s < e2 → e2 ≤ n → (∀ k, s ≤ k → k < e2 → ltr (l k) = true) → (e2 = n ∨ ltr (l e2) = false) → ∃ w, J_X4_advance_53 vB vP = some w ∧ w 0 = nI 1 ∧ w 1 = nI s ∧ w 2 = nI e2) ∧
    (∀ e2, s < e2 → e2 ≤ n → e2 ≤ s + 3 → (∀ k, s ≤ k → k < e2 → dgt (l k) = true) → (e2 = n ∨ dgt (l e2) = false) → valF l s (e2 - s) < 1000 → ∃ w, J_X4_advance_53 vB vP = some w ∧ w 0 = nI 2 ∧ w 1 = nI s ∧ w 2 = nI e2 ∧ w 3 = nI (valF l s (e2 - s))) ∧
    (s < n → l s = 59 → ∃ w, J_X4_advance_53 vB vP = some w ∧ w 0 = nI 3 ∧ w 1 = nI s ∧ w 2 = nI (s + 1)) ∧
    (s = n → ∃ w, J_X4_advance_53 vB vP = some w ∧ w 0 = nI 0 ∧ w 1 = nI s ∧ w 2 = nI s) := by
  have e1 : va_up vP 2 (vP 1) 1 = nI s := h1
  have e2' : va_up vP 2 (vP 1) 2 = nI s := h1
  refine ⟨fun e2 k1 k2 k3 k4 => ?_, fun e2 k1 k2 k5 k3 k4 k6 => ?_, fun k1 k2 => ?_, fun k1 => ?_⟩
  · obtain ⟨w, e, w0, w1, w2⟩ := tk_word hB hn hl k2 k4 (e2 - s) s (va_up vP 2 (vP 1)) FU (by omega) (by unfold FU; omega) e2' k3
    refine ⟨w, ?_, w0, w1.trans h1, w2⟩
    unfold J_X4_advance_53
    rw [q_lt0, e1, hB.1, if_pos (show nI s < nI n by rw [q_lt (by omega) (by omega)]; omega), q_ck (by omega) (by omega), buf_at hB hn (by omega), u_isLetter (by have := hl s; omega), k3 s (Nat.le_refl _) k1, q_sb]
    rw [if_neg (show ¬ (if (true : Bool) = true then nI 1 else nI 0) = (0 : Int32) by decide)]
    exact bnd e rfl
  · obtain ⟨w, e, w0, w1, w2, w3⟩ := tk_num hB hn hl (s := s) k2 k5 k4 (e2 - s) s (va_up (va_up vP 2 (vP 1)) 3 0) FU (Nat.le_refl _) (by omega) (by unfold FU; omega) h1 e2' (by rw [Nat.sub_self]; rfl) (by rw [Nat.sub_self]; exact Nat.zero_lt_succ _) k3 k6
    refine ⟨w, ?_, w0, w1, w2, w3⟩
    unfold J_X4_advance_53
    have kd := k3 s (Nat.le_refl _) k1
    rw [q_lt0, e1, hB.1, if_pos (show nI s < nI n by rw [q_lt (by omega) (by omega)]; omega), q_ck (by omega) (by omega), buf_at hB hn (by omega), u_isLetter (by have := hl s; omega), no_ld kd, q_sb]
    rw [if_pos (show (if (false : Bool) = true then nI 1 else nI 0) = (0 : Int32) by decide), q_ck (by omega) (by omega), u_isDigit (by have := hl s; omega), kd, q_sb, if_neg (show ¬ (if (true : Bool) = true then nI 1 else nI 0) = (0 : Int32) by decide)]
    exact bnd e rfl
  · refine ⟨va_up (va_up (va_up vP 2 (vP 1)) 0 (nI 3)) 2 (nI (s + 1)), ?_, rfl, h1, rfl⟩
    unfold J_X4_advance_53
    rw [q_lt0, e1, hB.1, if_pos (show nI s < nI n by rw [q_lt (by omega) (by omega)]; omega), q_ck (by omega) (by omega), buf_at hB hn (by omega), k2, u_isLetter (by omega), show ltr 59 = false by decide, q_sb]
    rw [if_pos (show (if (false : Bool) = true then nI 1 else nI 0) = (0 : Int32) by decide), q_ck (by omega) (by omega), u_isDigit (by omega), show dgt 59 = false by decide, q_sb, if_pos (show (if (false : Bool) = true then nI 1 else nI 0) = (0 : Int32) by decide), q_ck (by omega) (by omega), if_pos (show nI 59 = (59 : Int32) from rfl), q_lt0, q_lt0, show va_up (va_up vP 2 (vP 1)) 0 3 1 = nI s from h1, show nI s + 1 = nI (s + 1) from nI_add s 1]
    rfl
  · refine ⟨va_up (va_up vP 2 (vP 1)) 0 (nI 0), ?_, rfl, h1, h1⟩
    unfold J_X4_advance_53
    rw [q_lt0, e1, hB.1, if_neg (show ¬ nI s < nI n by rw [q_lt (by omega) (by omega)]; omega)]
    rfl
/-- blanks, at most one -/
theorem ad_8 (hB : Buf vB l n) (hn : n ≤ 600) (hl : ∀ i, l i < 256) {vP : Nat → Int32} {e s : Nat} (hs : s ≤ n) (h2 : vP 2 = nI e) (hb : s = e ∨ (s = e + 1 ∧ l e = 32)) (hst : s = n ∨ (l s ≠ 32 ∧ l s ≠ 10)) : ∃ u, F_X4_advance vP vB = J_X4_advance_53 vB u ∧ u 1 = nI s := by
  have stop : ∀ f (u : Nat → Int32), u 1 = nI s → L_X4_advance_8 vB (f + 1) u = J_X4_advance_53 vB u := fun f u hu => by
    show B_X4_advance_8 (L_X4_advance_8 vB f) vB u = _
    unfold B_X4_advance_8
    rw [hB.1, hu]
    by_cases c : n ≤ s
    · rw [if_pos (show nI n ≤ nI s by rw [q_le (by omega) (by omega)]; exact c)]
    · rcases hst with z | z
      · omega
      · rw [if_neg (show ¬ nI n ≤ nI s by rw [q_le (by omega) (by omega)]; exact c), q_ck (by omega) (by omega), buf_at hB hn (by omega), u_blank (by have := hl s; omega), if_neg (by omega), q_sb]
        exact if_pos rfl
  have hF : FU = 4998 + 1 + 1 := rfl
  rcases hb with z | ⟨z1, z2⟩
  · subst z
    exact ⟨va_up vP 1 (vP 2), stop (4998 + 1) _ h2, h2⟩
  · refine ⟨va_up (va_up vP 1 (vP 2)) 1 (nI (e + 1)), ?_, by rw [z1]; rfl⟩
    refine Eq.trans ?_ (stop 4998 _ (by rw [z1]; rfl))
    show B_X4_advance_8 (L_X4_advance_8 vB (4998 + 1)) vB (va_up vP 1 (vP 2)) = _
    unfold B_X4_advance_8
    have e1 : va_up vP 1 (vP 2) 1 = nI e := h2
    rw [hB.1, e1, if_neg (show ¬ nI n ≤ nI e by rw [q_le (by omega) (by omega)]; omega), q_ck (by omega) (by omega), buf_at hB hn (by omega), z2, u_blank (by omega), if_pos (Or.inl rfl), q_sb, if_neg (show ¬ nI 1 = (0 : Int32) by decide), show nI e + 1 = nI (e + 1) from nI_add e 1, q_lt0]
end
