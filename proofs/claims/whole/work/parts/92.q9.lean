/-! the reference's readers by naturals-/
theorem t_away {w : Nat → Int32} {D : Dn} {T : Nat} (m : M9 w D) (o : OkD T D) {k : Nat} (hk : k < D.G) : F_X9_isAway w (nI k) = some (nI (D.ou k)) := by
  have hG := o.G
  have h1 := o.ou k hk
  simp (disch := omega) only [F_X9_isAway, F_X9_guestAt, q_lit, nI_add, pk_mul, q_sb, q_ck, q_cl, m.ou]
  rcases Nat.le_one_iff_eq_zero_or_eq_one.mp h1 with h | h <;> rw [h] <;> rfl
def barksD (D : Dn) (k t : Nat) : Bool := decide (D.ou k ≠ 0 ∧ D.ba k ≠ 0 ∧ D.si k + 10 < t ∧ (D.wk k = 0 ∨ D.wa k + 60 ≤ t))
theorem t_barks {w : Nat → Int32} {D : Dn} {T : Nat} (m : M9 w D) (o : OkD T D) {k t : Nat} (hk : k < D.G) (ht : t ≤ 1000) (hm : D.mi ≤ t) : F_X9_barksAt w (nI k) (nI t) = some (nI (barksD D k t).toNat) := by
  have hG := o.G
  have h1 := o.ou k hk
  have h2 := o.ba k hk
  have h3 := o.si k hk
  have h6 := o.tT
  have h7 := o.mi
  have h4 := o.wa k hk
  have h5 := o.wk k hk
  by_cases hw : D.wk k = 0
  · simp (disch := omega) only [F_X9_barksAt, t_away m o hk, F_X9_guestAt, q_lit, q_neg, nI_add, pk_mul, q_sb, q_ck, q_cl, m.ba, m.si, m.wa, q_sub, q_lt, q_eq, q_m1l, q_1lt, hw, if_true]
    unfold barksD
    repeat' split
    all_goals first | exact bT (by omega) | exact bF (by omega) | (exfalso; omega)
  · have h8 := h4 hw
    simp (disch := omega) only [F_X9_barksAt, t_away m o hk, F_X9_guestAt, q_lit, q_neg, nI_add, pk_mul, q_sb, q_ck, q_cl, m.ba, m.si, m.wa, q_sub, q_lt, q_eq, q_m1l, q_1lt, hw, if_false, Nat.not_lt_zero]
    unfold barksD
    repeat' split
    all_goals first | exact bT (by omega) | exact bF (by omega) | (exfalso; omega)
theorem u_barks {vN : Nat → Int32} {vG vU vR : Nat → Nat → Int32} {D : Dn} {T : Nat} (m : M8 vN vG vU vR D) (o : OkD T D) {k t : Nat} (hk : k < D.G) (ht : t ≤ 1000) (hm : D.mi ≤ t) : F_X1_barksAt vG (nI k) (nI t) = some (nI (barksD D k t).toNat) := by
  have hG := o.G
  have h1 := o.ou k hk
  have h2 := o.ba k hk
  have h3 := o.si k hk
  have h6 := o.tT
  have h7 := o.mi
  have h4 := o.wa k hk
  have h5 := o.wk k hk
  have h9 := m.wa k hk
  by_cases ho : D.ou k = 0 <;> by_cases hw : D.wk k = 0
  all_goals try have h8 := h4 hw
  all_goals try have h10 := h9 hw
  all_goals simp (disch := omega) only [F_X1_barksAt, F_X1_isAway, J_X1_barksAt_46, q_lit, q_neg, nI_add, pk_mul, q_sb, q_ck, q_cl, m.ba, m.si, m.wk, m.wa, q_sub, q_lt, q_le, q_eq, q_m1l, q_1lt, q_m1e, hw, ho, if_true, if_false]
  all_goals unfold barksD
  all_goals repeat' split
  all_goals first | exact bT (by omega) | exact bF (by omega) | (exfalso; omega)
theorem t_carried {w : Nat → Int32} {D : Dn} {T : Nat} (m : M9 w D) (o : OkD T D) {g : Nat} (hg : g < D.G) : F_X9_carriedBy w (nI g) = some (fst1 (fun u => decide (D.ca u = g + 1)) D.U 0) := by
  have hG := o.G
  have hU := o.U
  refine lp_first (L := L_X9_carriedBy_2 w (nI g)) (U := D.U) (fun n k hk => ?_) (fun n => ?_) FU 0 (Nat.zero_le _) (by unfold FU; omega)
  · have h1 := o.ca k hk
    by_cases hc : D.ca k = 0
    · simp (disch := omega) only [L_X9_carriedBy_2, B_X9_carriedBy_2, F_X9_umbrellaAt, q_lit, q_neg, nI_add, pk_mul, q_sb, q_ck, q_cl, m.U, m.ca, q_le, q_eq, hc, if_true, if_false, q_e1m, q_m1e]
      repeat' split
      all_goals first | rfl | (exfalso; omega) | simp_all
    · simp (disch := omega) only [L_X9_carriedBy_2, B_X9_carriedBy_2, F_X9_umbrellaAt, q_lit, q_neg, nI_add, pk_mul, q_sb, q_ck, q_cl, m.U, m.ca, q_le, q_eq, hc, if_true, if_false]
      repeat' split
      all_goals first | rfl | (exfalso; omega) | (simp_all; done) | (simp_all; omega)
  · simp (disch := omega) only [L_X9_carriedBy_2, B_X9_carriedBy_2, q_lit, q_neg, q_ck, q_cl, m.U, q_le, Nat.le_refl, if_true]
theorem t_ownFor {w : Nat → Int32} {D : Dn} {T : Nat} (m : M9 w D) (o : OkD T D) {g : Nat} (hg : g < D.G) : F_X9_ownFor w (nI g) = some (fst1 (fun u => decide (D.ow u = g ∧ D.ca u = 0 ∧ D.we u ≤ 50)) D.U 0) := by
  have hG := o.G
  have hU := o.U
  refine lp_first (L := L_X9_ownFor_2 w (nI g)) (U := D.U) (fun n k hk => ?_) (fun n => ?_) FU 0 (Nat.zero_le _) (by unfold FU; omega)
  · have h1 := o.ca k hk
    have h2 := o.ow k hk
    have h3 := o.we k hk
    by_cases hc : D.ca k = 0
    all_goals simp (disch := omega) only [L_X9_ownFor_2, B_X9_ownFor_2, F_X9_isDry, F_X9_stands, F_X9_umbrellaAt, q_lit, q_neg, nI_add, pk_mul, q_sb, q_ck, q_cl, m.U, m.ca, m.ow, m.we, q_le, q_lt, q_eq, q_le1, hc, if_true, if_false, Nat.zero_le]
    all_goals repeat' split
    all_goals first | rfl | (exfalso; omega) | (simp_all; done) | (simp_all; omega)
  · simp (disch := omega) only [L_X9_ownFor_2, B_X9_ownFor_2, q_lit, q_neg, q_ck, q_cl, m.U, q_le, Nat.le_refl, if_true]
