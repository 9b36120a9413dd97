/-! the class's readers by naturals: umbrellas-/
theorem u_carried {vN : Nat → Int32} {vG vU vR : Nat → Nat → Int32} {D : Dn} {T : Nat} (m : M8 vN vG vU vR D) (o : OkD T D) {g : Nat} (hg : g < D.G) : F_X7_carriedBy vU (nI g) = some (fst1 (fun u => decide (D.ca u = g + 1)) D.U 0) := by
  have hG := o.G
  have hU := o.U
  refine lp_first (L := L_X7_carriedBy_2 vU (nI g)) (U := D.U) (fun n k hk => ?_) (fun n => ?_) FU 0 (Nat.zero_le _) (by unfold FU; omega)
  · have h1 := o.ca k hk
    by_cases hc : D.ca k = 0
    all_goals simp (disch := omega) only [L_X7_carriedBy_2, B_X7_carriedBy_2, q_lit, q_neg, nI_add, pk_mul, q_sb, q_ck, q_cl, m.U, m.ca, q_le, q_eq, hc, if_true, if_false, q_e1m, q_m1e]
    all_goals repeat' split
    all_goals first | rfl | (exfalso; omega) | (simp_all; done) | (simp_all; omega)
  · simp (disch := omega) only [L_X7_carriedBy_2, B_X7_carriedBy_2, q_lit, q_neg, q_ck, q_cl, m.U, q_le, Nat.le_refl, if_true]
theorem u_ownFor {vN : Nat → Int32} {vG vU vR : Nat → Nat → Int32} {D : Dn} {T : Nat} (m : M8 vN vG vU vR D) (o : OkD T D) {g : Nat} (hg : g < D.G) : F_X7_firstOwnUsable vU (nI g) = some (fst1 (fun u => decide (D.ow u = g ∧ D.ca u = 0 ∧ D.we u ≤ 50)) D.U 0) := by
  have hG := o.G
  have hU := o.U
  refine lp_first (L := L_X7_firstOwnUsable_2 vU (nI g)) (U := D.U) (fun n k hk => ?_) (fun n => ?_) FU 0 (Nat.zero_le _) (by unfold FU; omega)
  · have h1 := o.ca k hk
    have h2 := o.ow k hk
    have h3 := o.we k hk
    by_cases hc : D.ca k = 0
    all_goals simp (disch := omega) only [L_X7_firstOwnUsable_2, B_X7_firstOwnUsable_2, F_X7_canBeTaken, F_X7_stands, q_lit, q_neg, nI_add, pk_mul, q_sb, q_ck, q_cl, m.U, m.ca, m.ow, m.we, q_le, q_lt, q_eq, q_m1e, hc, if_true, if_false, Nat.zero_le]
    all_goals repeat' split
    all_goals first | rfl | (exfalso; omega) | (simp_all; done) | (simp_all; omega)
  · simp (disch := omega) only [L_X7_firstOwnUsable_2, B_X7_firstOwnUsable_2, q_lit, q_neg, q_ck, q_cl, m.U, q_le, Nat.le_refl, if_true]
theorem u_stand {vN : Nat → Int32} {vG vU vR : Nat → Nat → Int32} {D : Dn} {T : Nat} (m : M8 vN vG vU vR D) (o : OkD T D) : F_X7_countInStand vU = some (nI (cntF (fun u => decide (D.ca u = 0)) D.U)) := by
  have hG := o.G
  have hU := o.U
  refine lp_count (L := fun n k c => L_X7_countInStand_4 vU n c k) (U := D.U) (fun n k c hk hc => ?_) (fun n c hc => ?_) FU 0 (Nat.zero_le _) (by unfold FU; omega)
  · have h1 := o.ca k hk
    by_cases hc : D.ca k = 0
    all_goals simp (disch := omega) only [L_X7_countInStand_4, B_X7_countInStand_4, F_X7_stands, q_lit, q_neg, nI_add, pk_mul, q_sb, q_ck, q_cl, m.U, m.ca, q_le, q_lt, q_eq, q_m1e, hc, if_true, if_false, Nat.zero_le]
    all_goals repeat' split
    all_goals first | rfl | (exfalso; omega) | (simp_all; done) | (simp_all; omega)
  · simp (disch := omega) only [L_X7_countInStand_4, B_X7_countInStand_4, q_lit, q_neg, q_ck, q_cl, m.U, q_le, Nat.le_refl, if_true]

