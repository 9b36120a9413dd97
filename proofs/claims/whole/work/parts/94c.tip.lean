/-! tips-/
def tipD (D : Dn) (g : Nat) : Nat := D.gi g - (yawnD D + if D.so g = 0 then 0 else 1)
theorem yawnD_le (D : Dn) : yawnD D ≤ 9 := by
  unfold yawnD
  split <;> omega
theorem t_tip {w : Nat → Int32} {D : Dn} {T : Nat} (m : M9 w D) (o : OkD T D) {g : Nat} (hg : g < D.G) : F_X9_tipFrom w (nI g) = some (nI (tipD D g)) := by
  have hG := o.G
  have h1 := yawnD_le D
  have h2 := o.gi g hg
  have h3 := o.so g hg
  unfold tipD
  by_cases h0 : D.so g = 0
  all_goals simp (disch := omega) only [F_X9_tipFrom, F_X9_more, t_yawn m o, F_X9_guestAt, q_lit, q_neg, nI_add, pk_mul, q_sb, q_ck, q_cl, m.gi, m.so, q_eq, q_ss, q_sm, q_0sub, h0, if_true, if_false, Nat.add_zero]
  all_goals split
  all_goals first | (rw [q_sub (by omega)]; exact congrArg (fun n => some (nI n)) (by omega)) | exact congrArg (fun n => some (nI n)) (show 0 = _ by omega) | (exfalso; omega)
theorem u_tip {vN : Nat → Int32} {vG vU vR : Nat → Nat → Int32} {D : Dn} {T : Nat} (m : M8 vN vG vU vR D) (o : OkD T D) {g : Nat} (hg : g < D.G) : F_X3_tipToGive vN vG vR (nI g) = some (nI (tipD D g)) := by
  have hG := o.G
  have h1 := yawnD_le D
  have h2 := o.gi g hg
  have h3 := o.so g hg
  unfold tipD
  by_cases h0 : D.so g = 0
  all_goals simp (disch := omega) only [F_X3_tipToGive, u_yawn m o, q_lit, q_neg, nI_add, pk_mul, q_sb, q_ck, q_cl, m.gi, m.so, q_eq, h0, if_true, if_false, Nat.add_zero]
  all_goals simp (disch := omega) only [q_ss, q_0lsub]
  all_goals split
  all_goals first | (rw [q_sub (by omega)]; exact congrArg (fun n => some (nI n)) (by omega)) | exact congrArg (fun n => some (nI n)) (show 0 = _ by omega) | (exfalso; omega)
