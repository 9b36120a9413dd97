/-! the lines of a night are read -/
section
variable {vB : Nat → Nat → Int32} {X A R : List Nat} {T : Nat} {D : Dn} {vN : Nat → Int32} {vG vU vR : Nat → Nat → Int32}
theorem ltr_32 : ltr 32 = false := by decide
theorem dgt_32 : dgt 32 = false := by decide
theorem dgt_59 : dgt 59 = false := by decide
theorem name_ok (hX : Txt vB X) {P R1 : List Nat} {k : Nat} (hk : k < 6) (hT : X = P ++ ([32] ++ (bytsN (6 + k) ++ ([32] ++ R1)))) {w : Nat → Int32} (w2 : w 2 = nI P.length) : ∃ u, F_X4_advance w vB = some u ∧ u 0 = nI 1 ∧ u 1 = nI (P.length + 1) ∧ u 2 = nI (P.length + 1 + (bytsN (6 + k)).length) ∧ P.length + 1 + (bytsN (6 + k)).length ≤ 600 ∧ ∀ i, i < (bytsN (6 + k)).length → vB 1 (P.length + 1 + i) = nI (nmF k i) ∧ nmF k i < 256 := by
  obtain ⟨u, e, u0, u1, u2⟩ := adv_w hX hT (Or.inr rfl) (nm_pos k hk) (nm_ltr k hk) (Or.inr ltr_32) w2
  have hlen : X.length = P.length + 1 + (bytsN (6 + k)).length + 1 + R1.length := by
    rw [hT]
    simp only [List.length_append, List.length_cons, List.length_nil]
    omega
  have hn := hX.2.1
  refine ⟨u, e, u0, u1, u2, by omega, fun i hi => ?_⟩
  have h1 := hX.1.2 (P.length + 1 + i) (by omega)
  have h2 : X.getD (P.length + 1 + i) 0 = nmF k i := by
    rw [hT]
    refine (gd_2 (A := P) (B := [32]) _ i).trans ?_
    exact gd_l _ hi
  have h3 := hX.2.2 (P.length + 1 + i)
  exact ⟨h1.trans (congrArg nI h2), by rw [← h2]; exact h3⟩
theorem head_ok (hX : Txt vB X) {a b : Nat} (ha : a < 4) (hb : b < 128) (hT : X = headT a b ++ R) {vP : Nat → Int32} (h2 : vP 2 = nI 0) : ∃ w u, F_X4_advance vP vB = some w ∧ F_X4_readHead w vN vB = some (1, u, va_up (va_up vN 1 (nI a)) 2 (nI b)) ∧ u 0 = nI 3 ∧ u 2 = nI (headT a b).length := by
  have hT0 : X = [] ++ ([] ++ (bytsN 1 ++ ([32] ++ (digs a ++ ([32] ++ (digs b ++ (59 :: R))))))) := by
    rw [hT]; unfold headT; rw [bw_5]; simp only [List.append_assoc, List.cons_append, List.nil_append]
  have hT1 : X = bytsN 1 ++ ([32] ++ (digs a ++ ([32] ++ (digs b ++ (59 :: R))))) := by rw [hT0]; simp only [List.append_assoc, List.cons_append, List.nil_append]
  have hT2 : X = (bytsN 1 ++ ([32] ++ digs a)) ++ ([32] ++ (digs b ++ (59 :: R))) := by rw [hT0]; simp only [List.append_assoc, List.cons_append, List.nil_append]
  have hT3 : X = (bytsN 1 ++ ([32] ++ (digs a ++ ([32] ++ digs b)))) ++ (59 :: R) := by rw [hT0]; simp only [List.append_assoc, List.cons_append, List.nil_append]
  obtain ⟨w, e0, w0, w1, w2⟩ := adv_w (vP := vP) hX hT0 (Or.inl rfl) (by rw [bwl_1]; omega) (fun i hi => lw_1 i (by rw [bwl_1] at hi; exact hi)) (Or.inr ltr_32) h2
  rw [bwl_1] at w2
  have hl : X.length = 5 + (1 + ((digs a).length + (1 + ((digs b).length + (R.length + 1))))) := by
    rw [hT1]
    simp only [List.length_append, List.length_cons, List.length_nil, bwl_1]
    omega
  have i1 := iw_1 hX (s := 0) w0 w1 w2 (by omega) (fun j hj => by
    rw [hT1, Nat.zero_add]
    exact gd_l _ (by rw [bwl_1]; exact hj))
  obtain ⟨u2, e2, a0, a1, a2, a3⟩ := adv_d (vP := w) (d := a) (by omega) hX hT1 (Or.inr rfl) (Or.inr dgt_32) (by rw [w2, bwl_1]; rfl)
  obtain ⟨u4, e4, b0, b1, b2, b3⟩ := adv_d (vP := u2) (d := b) hb hX hT2 (Or.inr rfl) (Or.inr dgt_59) (by rw [a2]; exact congrArg nI (by simp only [List.length_append, List.length_cons, List.length_nil]; omega))
  obtain ⟨u6, e6, c0, c1, c2⟩ := adv_s (vP := u4) hX hT3 (by rw [b2]; exact congrArg nI (by simp only [List.length_append, List.length_cons, List.length_nil]; omega))
  refine ⟨w, u6, e0, ?_, c0, ?_⟩
  · unfold F_X4_readHead
    rw [i1, q_sb, if_neg (show ¬ (1 : Int32) = 0 by decide), e2, q_sb, show F_X4_isNumber u2 0 9 = some 1 from isN_1 (lo := 0) (hi := 9) a0 a3 (Nat.zero_le _) (by omega) (by omega), q_sb, if_neg (show ¬ (1 : Int32) = 0 by decide), a3, q_lt0, e4, q_sb, show F_X4_isNumber u4 0 999 = some 1 from isN_1 (lo := 0) (hi := 999) b0 b3 (Nat.zero_le _) (by omega) (by omega), q_sb, if_neg (show ¬ (1 : Int32) = 0 by decide), b3, q_lt0, e6, q_sb]
  · rw [c2]
    unfold headT
    rw [bw_5]
    exact congrArg nI (by simp only [List.length_append, List.length_cons, List.length_nil]; omega)
theorem umb_ok (hX : Txt vB X) {g k c : Nat} (hg : g ≤ 6) (hk : k < g) (hc : c < 100) (hT : X = A ++ (uline k c ++ R)) (o : OkD T D) (m : M8 vN vG vU vR D) (nm : NmD D g) (hU : D.U < 12) {w : Nat → Int32} (w2 : w 2 = nI (A.length + 8)) : ∃ u U', F_X4_readUmbrella w vN vG vU vB = some (1, u, U') ∧ u 0 = nI 3 ∧ u 2 = nI (A.length + (uline k c).length - 1) ∧ True ∧ M8 vN vG U' vR (upD (upD (upD (upD D 10 D.U k) 11 D.U c) 12 D.U 0) 0 8 (D.U + 1)) := by
  have hT1 : X = (A ++ bytsN 4) ++ ([32] ++ (bytsN (6 + k) ++ ([32] ++ (digs c ++ (59 :: R))))) := by rw [hT]; unfold uline; rw [bw_15]; simp only [List.append_assoc, List.cons_append, List.nil_append]
  have hT2 : X = ((A ++ bytsN 4) ++ ([32] ++ bytsN (6 + k))) ++ ([32] ++ (digs c ++ (59 :: R))) := by rw [hT1]; simp only [List.append_assoc, List.cons_append, List.nil_append]
  have hT3 : X = ((A ++ bytsN 4) ++ ([32] ++ (bytsN (6 + k) ++ ([32] ++ digs c)))) ++ (59 :: R) := by rw [hT1]; simp only [List.append_assoc, List.cons_append, List.nil_append]
  obtain ⟨u1, e1, a0, a1, a2, ab, ac⟩ := name_ok (w := w) hX (by omega) hT1 (by rw [w2]; exact congrArg nI (by simp only [List.length_append, bwl_4]))
  obtain ⟨u3, e3, b0, b1, b2, b3⟩ := adv_d (vP := u1) (d := c) (by omega) hX hT2 (Or.inr rfl) (Or.inr dgt_59) (by rw [a2]; exact congrArg nI (by simp only [List.length_append, List.length_cons, List.length_nil]; omega))
  obtain ⟨u6, e6, c0, c1, c2⟩ := adv_s (vP := u3) hX hT3 (by rw [b2]; exact congrArg nI (by simp only [List.length_append, List.length_cons, List.length_nil]; omega))
  have hf := u_find m o ab ac
  rw [find_at nm hg hk, nz_s] at hf
  obtain ⟨r, e8, r1, r2⟩ := u_addU (a := k) (b := c) m o hU
  have hlen := nm_len k (by omega)
  have esub : u1 2 - u1 1 = nI (bytsN (6 + k)).length := by
    rw [a2, a1, q_sub (by omega), Nat.add_sub_cancel_left]
  refine ⟨u6, r.2, ?_, c0, ?_, trivial, r2⟩
  · unfold F_X4_readUmbrella
    rw [e1, q_sb, if_pos (show u1 0 = 1 from a0), esub, a1, hf, q_sb]
    unfold J_X4_readUmbrella_40
    rw [if_neg (show ¬ nI k = (-1 : Int32) from fun z => of_eq_false (q_m1e (a := k) (by omega)) z), e3, q_sb, show F_X4_isNumber u3 0 99 = some 1 from isN_1 (lo := 0) (hi := 99) b0 b3 (Nat.zero_le _) (by omega) (by omega), q_sb, if_neg (show ¬ (1 : Int32) = 0 by decide), b3, e8, q_sb, e6, q_sb]
  · rw [c2]
    unfold uline
    rw [bw_15]
    exact congrArg nI (by simp only [List.length_append, List.length_cons, List.length_nil]; omega)
end
