/-! counts-/
theorem u_borrow {vN : Nat → Int32} {vG vU vR : Nat → Nat → Int32} {D : Dn} {T : Nat} (m : M8 vN vG vU vR D) (o : OkD T D) : F_X7_countBorrowed vU = some (nI (cntF (fun u => decide (D.ca u ≠ 0 ∧ D.ca u ≠ D.ow u + 1)) D.U)) := by
  have hU := o.U
  have hG := o.G
  refine lp_acc (L := fun n k c => L_X7_countBorrowed_4 vU n c k) (a := fun k => nI (cntF (fun u => decide (D.ca u ≠ 0 ∧ D.ca u ≠ D.ow u + 1)) k)) (U := D.U) (fun n k hk => ?_) (fun n => ?_) FU 0 (Nat.zero_le _) (by unfold FU; omega)
  · have h1 := o.ca k hk
    have h3 := o.ow k hk
    have h2 := cntF_le (fun u => decide (D.ca u ≠ 0 ∧ D.ca u ≠ D.ow u + 1)) k
    by_cases hc : D.ca k = 0 <;> by_cases hd : D.ca k = D.ow k + 1
    all_goals simp (disch := omega) only [L_X7_countBorrowed_4, B_X7_countBorrowed_4, F_X7_stands, q_lit, q_neg, nI_add, pk_mul, q_sb, q_ck, q_cl, m.U, m.ca, m.ow, q_le, q_lt, q_eq, q_m1e, hc, if_true, if_false, Nat.zero_le, cntF]
    all_goals repeat' split
    all_goals first | rfl | (exfalso; omega) | (simp_all; done) | (simp_all; omega)
  · simp (disch := omega) only [L_X7_countBorrowed_4, B_X7_countBorrowed_4, q_lit, q_neg, q_ck, q_cl, m.U, q_le, Nat.le_refl, if_true]
theorem ou_sum_le {D : Dn} {T : Nat} (o : OkD T D) {k : Nat} (hk : k ≤ D.G) : smF D.ou k ≤ k := by
  have := smF_le (f := D.ou) (c := 1) (n := k) fun j hj => o.ou j (by omega)
  omega
theorem u_away_n {vN : Nat → Int32} {vG vU vR : Nat → Nat → Int32} {D : Dn} {T : Nat} (m : M8 vN vG vU vR D) (o : OkD T D) : F_X1_countAway vG = some (nI (smF D.ou D.G)) := by
  have hG := o.G
  refine lp_acc (L := fun n k c => L_X1_countAway_4 vG n c k) (a := fun k => nI (smF D.ou k)) (U := D.G) (fun n k hk => ?_) (fun n => ?_) FU 0 (Nat.zero_le _) (by unfold FU; omega)
  · have h1 := o.ou k hk
    have h2 := ou_sum_le o (k := k) (by omega)
    have h3 := o.si k hk
    have h4 := o.mi
    by_cases ho : D.ou k = 0
    · simp (disch := omega) only [L_X1_countAway_4, B_X1_countAway_4, F_X1_isAway, q_lit, q_neg, nI_add, pk_mul, q_sb, q_ck, q_cl, m.G, m.si, q_le, q_eq, ho, if_true, if_false, smF, Nat.add_zero]
      rw [if_neg (by omega)]
    · have ho1 : D.ou k = 1 := by omega
      simp (disch := omega) only [L_X1_countAway_4, B_X1_countAway_4, F_X1_isAway, q_lit, q_neg, nI_add, pk_mul, q_sb, q_ck, q_cl, m.G, m.si, q_le, q_eq, q_m1e, ho1, Nat.one_ne_zero, if_true, if_false, smF]
      rw [if_neg (by omega)]
  · simp (disch := omega) only [L_X1_countAway_4, B_X1_countAway_4, q_lit, q_neg, q_ck, q_cl, m.G, q_le, Nat.le_refl, if_true]
def dryD (D : Dn) (k : Nat) : Prop := D.ca k = 0 ∧ D.we k ≤ 50
theorem dryD_def (D : Dn) (k : Nat) : dryD D k ↔ (D.ca k = 0 ∧ D.we k ≤ 50) := Iff.rfl
def dryF (D : Dn) : Nat → Nat
  | 0 => 0
  | n + 1 => if (D.ca n = 0 ∧ D.we n ≤ 50) ∧ (dryF D n = 0 ∨ D.we n < D.we (dryF D n - 1)) then n + 1 else dryF D n
theorem dryF_le (D : Dn) (n : Nat) : dryF D n ≤ n := by
  induction n with
  | zero => exact Nat.le_refl 0
  | succ n ih => simp only [dryF]; split <;> omega
theorem dryF_we {D : Dn} (n : Nat) : dryF D n ≠ 0 → D.we (dryF D n - 1) ≤ 50 := by
  induction n with
  | zero => intro h; exact absurd rfl h
  | succ n ih =>
    intro h
    simp only [dryF] at h ⊢
    split
    next c => exact c.1.2
    next c => rw [if_neg c] at h; exact ih h
theorem u_driest {vN : Nat → Int32} {vG vU vR : Nat → Nat → Int32} {D : Dn} {T : Nat} (m : M8 vN vG vU vR D) (o : OkD T D) : F_X7_driestUsable vU = some (nz (dryF D D.U)) := by
  have hU := o.U
  have hG := o.G
  refine lp_acc (L := fun n k c => L_X7_driestUsable_7 vU n c.1 c.2 k) (a := fun k => (nz (dryF D k), nI (if dryF D k = 0 then 100 else D.we (dryF D k - 1)))) (U := D.U) (fun n k hk => ?_) (fun n => ?_) FU 0 (Nat.zero_le _) (by unfold FU; omega)
  · have h1 := o.ca k hk
    have h3 := o.we k hk
    have h2 := dryF_le D k
    by_cases hz : dryF D k = 0
    · by_cases hc : D.ca k = 0
      all_goals simp (disch := omega) only [L_X7_driestUsable_7, B_X7_driestUsable_7, F_X7_canBeTaken, F_X7_stands, q_lit, q_neg, nI_add, pk_mul, q_sb, q_ck, q_cl, m.U, m.ca, m.we, q_le, q_lt, q_eq, q_m1e, hc, hz, nz_0, if_true, if_false, Nat.zero_le, dryF]
      all_goals repeat' split
      all_goals first | rfl | (exfalso; omega) | (simp_all; done) | (simp_all; omega)
    · obtain ⟨b, hb⟩ : ∃ b, dryF D k = b + 1 := ⟨dryF D k - 1, by omega⟩
      have h4 := o.we b (by omega)
      by_cases hc : D.ca k = 0
      all_goals simp (disch := omega) only [L_X7_driestUsable_7, B_X7_driestUsable_7, F_X7_canBeTaken, F_X7_stands, q_lit, q_neg, nI_add, pk_mul, q_sb, q_ck, q_cl, m.U, m.ca, m.we, q_le, q_lt, q_eq, q_m1e, hc, hb, nz_s, if_true, if_false, Nat.zero_le, Nat.not_lt_zero, dryF, Nat.add_sub_cancel, Nat.add_one_ne_zero]
      all_goals repeat' split
      all_goals first | rfl | (exfalso; omega) | (simp_all; done) | (simp_all; omega)
  · simp (disch := omega) only [L_X7_driestUsable_7, B_X7_driestUsable_7, q_lit, q_neg, q_ck, q_cl, m.U, q_le, Nat.le_refl, if_true]

