/-! many minutes ahead, undo, snapshots, a guest's name -/
theorem q_mod8 {a : Nat} (h : a < 1000) : nI a - nI (a / 8 * 8) = nI (a % 8) := by
  have hd : a / 8 * 8 ≤ a := Nat.div_mul_le_self _ _
  rw [q_sub hd]
  exact congrArg nI (by omega)
theorem u_back {vN vH : Nat → Int32} {vG vU vR : Nat → Nat → Int32} {vHV : Nat → NV} {E : Dn} {T n q : Nat} (hq : q < 8) (hn : 0 < n) (hn8 : n ≤ 8) (h0 : vH 0 = nI q) (h1 : vH 1 = nI n) (mE : M8v (vHV ((q + 7) % 8)) E) (oE : OkD T E) : ∃ r, F_X2_takeBack vN vG vU vR vH vHV = some r ∧ M8 r.1 r.2.1 r.2.2.1 r.2.2.2.1 E ∧ r.2.2.2.2 = va_up (va_up vH 0 (nI ((q + 7) % 8))) 1 (nI (n - 1)) := by
  obtain ⟨u, e1, e2⟩ := u_copy (vN := vN) (vG := vG) (vU := vU) (vR := vR) mE oE
  refine ⟨(u.1, u.2.1, u.2.2.1, u.2.2.2, va_up (va_up vH 0 (nI ((q + 7) % 8))) 1 (nI (n - 1))), ?_, e2, rfl⟩
  have h2 : va_up vH 0 (nI ((q + 7) % 8)) 1 = nI n := h1
  have h3 : va_up (va_up vH 0 (nI ((q + 7) % 8))) 1 (nI (n - 1)) 0 = nI ((q + 7) % 8) := rfl
  have h4 : q + 8 - 1 = q + 7 := by omega
  simp (disch := omega) only [F_X2_takeBack, q_lit, nI_add, q_lt0, h0, q_sub, h4, q_div, pk_mul]
  have hd : (q + 7) / 8 * 8 ≤ q + 7 := Nat.div_mul_le_self _ _
  have hm : q + 7 - (q + 7) / 8 * 8 = (q + 7) % 8 := by omega
  simp (disch := omega) only [q_sub, hm, h2, h3, q_ck, q_cl, e1, q_sb]
