/-! the reference's readers by naturals-/
def barksD (D : Dn) (k t : Nat) : Bool := decide (D.ou k ≠ 0 ∧ D.ba k ≠ 0 ∧ D.si k + 10 < t ∧ (D.wk k = 0 ∨ D.wa k + 60 ≤ t))
theorem u_barks {vN : Nat → Int32} {vG vU vR : Nat → Nat → Int32} {D : Dn} {T : Nat} (m : M8 vN vG vU vR D) (o : OkD T D) {k t : Nat} (hk : k < D.G) (ht : t ≤ 1000) (hm : D.mi ≤ t) : F_X1_barksAt vG (nI k) (nI t) = some (nI (barksD D k t).toNat) := by
  have hG := o.G
  have h1 := o.ou k hk
  have h2 := o.ba k hk
  have h3 := o.si k hk
  have h6 := o.tT
  have h7 := o.mi
  have h4 := o.wa k hk
  have h5 := o.wk k hk
  have h9 := m.wa k hk
  by_cases ho : D.ou k = 0 <;> by_cases hw : D.wk k = 0
  all_goals try have h8 := h4 hw
  all_goals try have h10 := h9 hw
  all_goals simp (disch := omega) only [F_X1_barksAt, F_X1_isAway, J_X1_barksAt_46, q_lit, q_neg, nI_add, pk_mul, q_sb, q_ck, q_cl, m.ba, m.si, m.wk, m.wa, q_sub, q_lt, q_le, q_eq, q_m1l, q_1lt, q_m1e, hw, ho, if_true, if_false]
  all_goals unfold barksD
  all_goals repeat' split
  all_goals first | exact bT (by omega) | exact bF (by omega) | (exfalso; omega)
