/-! the lines of a night are read -/
section
variable {vB : Nat → Nat → Int32} {X A R : List Nat} {T : Nat} {D : Dn} {vN : Nat → Int32} {vG vU vR : Nat → Nat → Int32}
theorem ltr_32 : ltr 32 = false := by decide
theorem dgt_32 : dgt 32 = false := by decide
theorem dgt_59 : dgt 59 = false := by decide
theorem name_ok (hX : Txt vB X) {P R1 : List Nat} {k : Nat} (hk : k < 6) (hT : X = P ++ ([32] ++ (bytsN (6 + k) ++ ([32] ++ R1)))) {w : Nat → Int32} (w2 : w 2 = nI P.length) : ∃ u, F_X4_advance w vB = some u ∧ u 0 = nI 1 ∧ u 1 = nI (P.length + 1) ∧ u 2 = nI (P.length + 1 + (bytsN (6 + k)).length) ∧ P.length + 1 + (bytsN (6 + k)).length ≤ 600 ∧ ∀ i, i < (bytsN (6 + k)).length → vB 1 (P.length + 1 + i) = nI (nmF k i) ∧ nmF k i < 256 := by
  obtain ⟨u, e, u0, u1, u2⟩ := adv_w hX hT (Or.inr rfl) (nm_pos k hk) (nm_ltr k hk) (Or.inr ltr_32) w2
  have hlen : X.length = P.length + 1 + (bytsN (6 + k)).length + 1 + R1.length := by
    rw [hT]
    simp only [List.length_append, List.length_cons, List.length_nil]
    omega
  have hn := hX.2.1
  refine ⟨u, e, u0, u1, u2, by omega, fun i hi => ?_⟩
  have h1 := hX.1.2 (P.length + 1 + i) (by omega)
  have h2 : X.getD (P.length + 1 + i) 0 = nmF k i := by
    rw [hT]
    refine (gd_2 (A := P) (B := [32]) _ i).trans ?_
    exact gd_l _ hi
  have h3 := hX.2.2 (P.length + 1 + i)
  exact ⟨h1.trans (congrArg nI h2), by rw [← h2]; exact h3⟩
theorem head_ok (hX : Txt vB X) {a b : Nat} (ha : a < 4) (hb : b < 128) (hT : X = headT a b ++ R) {vP : Nat → Int32} (h2 : vP 2 = nI 0) : ∃ w u, F_X4_advance vP vB = some w ∧ F_X4_readHead w vN vB = some (1, u, va_up (va_up vN 1 (nI a)) 2 (nI b)) ∧ u 0 = nI 3 ∧ u 2 = nI (headT a b).length := by
  have hT0 : X = [] ++ ([] ++ (bytsN 1 ++ ([32] ++ (digs a ++ ([32] ++ (digs b ++ (59 :: R))))))) := by
    rw [hT]; unfold headT; rw [bw_5]; simp only [List.append_assoc, List.cons_append, List.nil_append]
  have hT1 : X = bytsN 1 ++ ([32] ++ (digs a ++ ([32] ++ (digs b ++ (59 :: R))))) := by rw [hT0]; simp only [List.append_assoc, List.cons_append, List.nil_append]
  have hT2 : X = (bytsN 1 ++ ([32] ++ digs a)) ++ ([32] ++ (digs b ++ (59 :: R))) := by rw [hT0]; simp only [List.append_assoc, List.cons_append, List.nil_append]
  have hT3 : X = (bytsN 1 ++ ([32] ++ (digs a ++ ([32] ++ digs b)))) ++ (59 :: R) := by rw [hT0]; simp only [List.append_assoc, List.cons_append, List.nil_append]
  obtain ⟨w, e0, w0, w1, w2⟩ := adv_w (vP := vP) hX hT0 (Or.inl rfl) (by rw [bwl_1]; omega) (fun i hi => lw_1 i (by rw [bwl_1] at hi; exact hi)) (Or.inr ltr_32) h2
  rw [bwl_1] at w2
  have hl : X.length = 5 + (1 + ((digs a).length + (1 + ((digs b).length + (R.length + 1))))) := by
    rw [hT1]
    simp only [List.length_append, List.length_cons, List.length_nil, bwl_1]
  have i1 := iw_1 hX (s := 0) w0 w1 w2 (by omega) (fun j hj => by
    rw [hT1, Nat.zero_add]
    exact gd_l _ (by rw [bwl_1]; exact hj))
  obtain ⟨u2, e2, a0, a1, a2, a3⟩ := adv_d (vP := w) (d := a) (by omega) hX hT1 (Or.inr rfl) (Or.inr dgt_32) (by rw [w2, bwl_1]; rfl)
  obtain ⟨u4, e4, b0, b1, b2, b3⟩ := adv_d (vP := u2) (d := b) hb hX hT2 (Or.inr rfl) (Or.inr dgt_59) (by rw [a2]; exact congrArg nI (by simp only [List.length_append, List.length_cons, List.length_nil]; omega))
  obtain ⟨u6, e6, c0, c1, c2⟩ := adv_s (vP := u4) hX hT3 (by rw [b2]; exact congrArg nI (by simp only [List.length_append, List.length_cons, List.length_nil]; omega))
  refine ⟨w, u6, e0, ?_, c0, ?_⟩
  · unfold F_X4_readHead
    rw [i1, q_sb, if_neg (show ¬ (1 : Int32) = 0 by decide), e2, q_sb, show F_X4_isNumber u2 0 9 = some 1 from isN_1 (lo := 0) (hi := 9) a0 a3 (Nat.zero_le _) (by omega) (by omega), q_sb, if_neg (show ¬ (1 : Int32) = 0 by decide), a3, q_lt0, e4, q_sb, show F_X4_isNumber u4 0 999 = some 1 from isN_1 (lo := 0) (hi := 999) b0 b3 (Nat.zero_le _) (by omega) (by omega), q_sb, if_neg (show ¬ (1 : Int32) = 0 by decide), b3, q_lt0, e6, q_sb]
  · rw [c2]
    unfold headT
    rw [bw_5]
    exact congrArg nI (by simp only [List.length_append, List.length_cons, List.length_nil]; omega)
theorem umb_ok (hX : Txt vB X) {g k c : Nat} (hg : g ≤ 6) (hk : k < g) (hc : c < 100) (hT : X = A ++ (uline k c ++ R)) (o : OkD T D) (m : M8 vN vG vU vR D) (nm : NmD D g) (hU : D.U < 12) {w : Nat → Int32} (w2 : w 2 = nI (A.length + 8)) : ∃ u U', F_X4_readUmbrella w vN vG vU vB = some (1, u, U') ∧ u 0 = nI 3 ∧ u 2 = nI (A.length + (uline k c).length) ∧ True ∧ M8 vN vG U' vR (upD (upD (upD (upD D 10 D.U k) 11 D.U c) 12 D.U 0) 0 8 (D.U + 1)) := by
  have hT1 : X = (A ++ bytsN 4) ++ ([32] ++ (bytsN (6 + k) ++ ([32] ++ (digs c ++ (59 :: R))))) := by rw [hT]; unfold uline; rw [bw_15]; simp only [List.append_assoc, List.cons_append, List.nil_append]
  have hT2 : X = ((A ++ bytsN 4) ++ ([32] ++ bytsN (6 + k))) ++ ([32] ++ (digs c ++ (59 :: R))) := by rw [hT1]; simp only [List.append_assoc, List.cons_append, List.nil_append]
  have hT3 : X = ((A ++ bytsN 4) ++ ([32] ++ (bytsN (6 + k) ++ ([32] ++ digs c)))) ++ (59 :: R) := by rw [hT1]; simp only [List.append_assoc, List.cons_append, List.nil_append]
  obtain ⟨u1, e1, a0, a1, a2, ab, ac⟩ := name_ok (w := w) hX (by omega) hT1 (by rw [w2]; exact congrArg nI (by simp only [List.length_append, bwl_4]))
  obtain ⟨u3, e3, b0, b1, b2, b3⟩ := adv_d (vP := u1) (d := c) (by omega) hX hT2 (Or.inr rfl) (Or.inr dgt_59) (by rw [a2]; exact congrArg nI (by simp only [List.length_append, List.length_cons, List.length_nil]; omega))
  obtain ⟨u6, e6, c0, c1, c2⟩ := adv_s (vP := u3) hX hT3 (by rw [b2]; exact congrArg nI (by simp only [List.length_append, List.length_cons, List.length_nil]; omega))
  have hf := u_find m o ab ac
  rw [find_at nm hg hk, nz_s] at hf
  obtain ⟨r, e8, r1, r2⟩ := u_addU (a := k) (b := c) m o hU
  have hlen := nm_len k (by omega)
  have esub : u1 2 - u1 1 = nI (bytsN (6 + k)).length := by
    rw [a2, a1, q_sub (by omega), Nat.add_sub_cancel_left]
  refine ⟨u6, r.2, ?_, c0, ?_, trivial, r2⟩
  · unfold F_X4_readUmbrella
    rw [e1, q_sb, if_pos (show u1 0 = 1 from a0), esub, a1, hf, q_sb]
    unfold J_X4_readUmbrella_40
    rw [if_neg (show ¬ nI k = (-1 : Int32) from fun z => of_eq_false (q_m1e (a := k) (by omega)) z), e3, q_sb, show F_X4_isNumber u3 0 99 = some 1 from isN_1 (lo := 0) (hi := 99) b0 b3 (Nat.zero_le _) (by omega) (by omega), q_sb, if_neg (show ¬ (1 : Int32) = 0 by decide), b3, e8, q_sb, e6, q_sb]
  · rw [c2]
    unfold uline
    rw [bw_15]
    exact congrArg nI (by simp only [List.length_append, List.length_cons, List.length_nil]; omega)
theorem guest_ok (hX : Txt vB X) {k g d : Nat} (hk : k < 6) (hg : g < 10) (hd : d < 10) (hT : X = A ++ (gline k g d ++ R)) (o : OkD T D) (m : M8 vN vG vU vR D) (nm : NmD D k) {w : Nat → Int32} (w2 : w 2 = nI (A.length + 5)) : ∃ u G', F_X4_readGuest w vG vB = some (1, u, G') ∧ u 0 = nI 3 ∧ u 2 = nI (A.length + (gline k g d).length) ∧ M8 vN G' vU vR (newG D (nmF k) (bytsN (6 + k)).length g d) := by
  have hlen := nm_len k hk
  have hpos := nm_pos k hk
  have hG : D.G < 10 := by rw [nm.1]; omega
  by_cases hd0 : d = 0
  · subst hd0
    have hT1 : X = (A ++ bytsN 2) ++ ([32] ++ (bytsN (6 + k) ++ ([32] ++ (digs g ++ (59 :: R))))) := by rw [hT]; unfold gline; rw [bw_12, if_pos rfl, bw_13]; simp only [List.append_assoc, List.cons_append, List.nil_append]
    have hT2 : X = ((A ++ bytsN 2) ++ ([32] ++ bytsN (6 + k))) ++ ([32] ++ (digs g ++ (59 :: R))) := by rw [hT1]; simp only [List.append_assoc, List.cons_append, List.nil_append]
    have hT3 : X = ((A ++ bytsN 2) ++ ([32] ++ (bytsN (6 + k) ++ ([32] ++ digs g)))) ++ (59 :: R) := by rw [hT1]; simp only [List.append_assoc, List.cons_append, List.nil_append]
    obtain ⟨u1, e1, a0, a1, a2, ab, ac⟩ := name_ok (w := w) hX hk hT1 (by rw [w2]; exact congrArg nI (by simp only [List.length_append, bwl_2]))
    obtain ⟨u3, e3, b0, b1, b2, b3⟩ := adv_d (vP := u1) (d := g) (by omega) hX hT2 (Or.inr rfl) (Or.inr dgt_59) (by rw [a2]; exact congrArg nI (by simp only [List.length_append, List.length_cons, List.length_nil]; omega))
    obtain ⟨u5, e5, c0, c1, c2⟩ := adv_s (vP := u3) hX hT3 (by rw [b2]; exact congrArg nI (by simp only [List.length_append, List.length_cons, List.length_nil]; omega))
    have hf := u_find m o ab ac
    rw [find_no nm hk, nz_0] at hf
    obtain ⟨r, e8, r1, r2⟩ := u_addG (a := g) (b := 0) m o hG (by omega) ab (fun i hi => (ac i hi).1)
    have esub : u1 2 - u1 1 = nI (bytsN (6 + k)).length := by
      rw [a2, a1, q_sub (by omega), Nat.add_sub_cancel_left]
    refine ⟨u5, r.2, ?_, c0, ?_, r2⟩
    · unfold F_X4_readGuest
      rw [e1, q_sb, if_pos (show u1 0 = 1 from a0), esub, a1, if_neg (show ¬ (5 : Int32) < nI (bytsN (6 + k)).length by rw [show (5 : Int32) = nI 5 from rfl, q_lt (by omega) (by omega)]; omega), hf, q_sb, if_pos (show m1 = -1 from rfl), e3, q_sb, show F_X4_isNumber u3 0 9 = some 1 from isN_1 (lo := 0) (hi := 9) b0 b3 (Nat.zero_le _) (by omega) (by omega), q_sb, if_neg (show ¬ (1 : Int32) = 0 by decide), e5, q_sb, iw_3n c0 (by omega) (by omega), q_sb, if_pos rfl, b3, show F_X1_add vG vB (nI ((A ++ bytsN 2).length + 1)) (nI (bytsN (6 + k)).length) (nI g) 0 = some r from e8, q_sb]
    · rw [c2]
      unfold gline
      rw [bw_12, if_pos rfl, bw_13]
      exact congrArg nI (by simp only [List.length_append, List.length_cons, List.length_nil]; omega)
  · have hT1 : X = (A ++ bytsN 2) ++ ([32] ++ (bytsN (6 + k) ++ ([32] ++ (digs g ++ ([32] ++ (bytsN 3 ++ ([32] ++ (digs d ++ (59 :: R))))))))) := by rw [hT]; unfold gline; rw [bw_12, if_neg hd0, bw_13, bw_14]; simp only [List.append_assoc, List.cons_append, List.nil_append]
    have hT2 : X = ((A ++ bytsN 2) ++ ([32] ++ bytsN (6 + k))) ++ ([32] ++ (digs g ++ ([32] ++ (bytsN 3 ++ ([32] ++ (digs d ++ (59 :: R))))))) := by rw [hT1]; simp only [List.append_assoc, List.cons_append, List.nil_append]
    have hT3 : X = ((A ++ bytsN 2) ++ ([32] ++ (bytsN (6 + k) ++ ([32] ++ digs g)))) ++ ([32] ++ (bytsN 3 ++ ([32] ++ (digs d ++ (59 :: R))))) := by rw [hT1]; simp only [List.append_assoc, List.cons_append, List.nil_append]
    have hT4 : X = ((A ++ bytsN 2) ++ ([32] ++ (bytsN (6 + k) ++ ([32] ++ (digs g ++ ([32] ++ bytsN 3)))))) ++ ([32] ++ (digs d ++ (59 :: R))) := by rw [hT1]; simp only [List.append_assoc, List.cons_append, List.nil_append]
    have hT5 : X = ((A ++ bytsN 2) ++ ([32] ++ (bytsN (6 + k) ++ ([32] ++ (digs g ++ ([32] ++ (bytsN 3 ++ ([32] ++ digs d)))))))) ++ (59 :: R) := by rw [hT1]; simp only [List.append_assoc, List.cons_append, List.nil_append]
    obtain ⟨u1, e1, a0, a1, a2, ab, ac⟩ := name_ok (w := w) hX hk hT1 (by rw [w2]; exact congrArg nI (by simp only [List.length_append, bwl_2]))
    obtain ⟨u3, e3, b0, b1, b2, b3⟩ := adv_d (vP := u1) (d := g) (by omega) hX hT2 (Or.inr rfl) (Or.inr dgt_32) (by rw [a2]; exact congrArg nI (by simp only [List.length_append, List.length_cons, List.length_nil]; omega))
    obtain ⟨u5, e5, c0, c1, c2⟩ := adv_w (vP := u3) hX hT3 (Or.inr rfl) (by rw [bwl_3]; omega) (fun i hi => lw_3 i (by rw [bwl_3] at hi; exact hi)) (Or.inr ltr_32) (by rw [b2]; exact congrArg nI (by simp only [List.length_append, List.length_cons, List.length_nil]; omega))
    obtain ⟨u8, e8, d0, d1, d2, d3⟩ := adv_d (vP := u5) (d := d) (by omega) hX hT4 (Or.inr rfl) (Or.inr dgt_59) (by rw [c2]; exact congrArg nI (by simp only [List.length_append, List.length_cons, List.length_nil]; omega))
    obtain ⟨u10, e10, f0, f1, f2⟩ := adv_s (vP := u8) hX hT5 (by rw [d2]; exact congrArg nI (by simp only [List.length_append, List.length_cons, List.length_nil]; omega))
    have hl : X.length = (((A ++ bytsN 2) ++ ([32] ++ (bytsN (6 + k) ++ ([32] ++ digs g)))).length + ([32] : List Nat).length) + (3 + (([32] ++ (digs d ++ (59 :: R))).length)) := by
      have hx := congrArg List.length hT3
      simp only [List.length_append, List.length_cons, List.length_nil, bwl_3] at hx ⊢
      omega
    have i3 := iw_3 hX c0 c1 (by rw [c2, bwl_3]) (by omega) (fun j hj => by
      rw [hT3, gd_2]
      exact gd_l _ (by rw [bwl_3]; exact hj))
    have hf := u_find m o ab ac
    rw [find_no nm hk, nz_0] at hf
    obtain ⟨r, er, r1, r2⟩ := u_addG (a := g) (b := d) m o hG (by omega) ab (fun i hi => (ac i hi).1)
    have esub : u1 2 - u1 1 = nI (bytsN (6 + k)).length := by
      rw [a2, a1, q_sub (by omega), Nat.add_sub_cancel_left]
    refine ⟨u10, r.2, ?_, f0, ?_, r2⟩
    · unfold F_X4_readGuest
      rw [e1, q_sb, if_pos (show u1 0 = 1 from a0), esub, a1, if_neg (show ¬ (5 : Int32) < nI (bytsN (6 + k)).length by rw [show (5 : Int32) = nI 5 from rfl, q_lt (by omega) (by omega)]; omega), hf, q_sb, if_pos (show m1 = -1 from rfl), e3, q_sb, show F_X4_isNumber u3 0 9 = some 1 from isN_1 (lo := 0) (hi := 9) b0 b3 (Nat.zero_le _) (by omega) (by omega), q_sb, if_neg (show ¬ (1 : Int32) = 0 by decide), e5, q_sb, i3, q_sb, if_neg (show ¬ (1 : Int32) = 0 by decide), e8, q_sb, show F_X4_isNumber u8 1 9 = some 1 from isN_1 (lo := 1) (hi := 9) d0 d3 (by omega) (by omega) (by omega), q_sb, if_neg (show ¬ (1 : Int32) = 0 by decide), e10, q_sb, b3, d3, er, q_sb]
    · rw [f2]
      unfold gline
      rw [bw_12, if_neg hd0, bw_13, bw_14]
      exact congrArg nI (by simp only [List.length_append, List.length_cons, List.length_nil]; omega)
end
