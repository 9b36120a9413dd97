/-! entries written -/
def WrS (B : Nat → Nat → Int32) (M : (Nat → Int32) × Int64) (o : Nat → Int32) (n : Nat) : Prop := B 0 0 = nI n ∧ M.1 9 = nI n ∧ ∀ k, k < n → o k = B 1 k
theorem wr1 {B : Nat → Nat → Int32} {M : (Nat → Int32) × Int64} {o : Nat → Int32} {n b : Nat} (h : WrS B M o n) (hn : n < 400) (hb : b < 256) : ∃ B', F_X0_add B (nI b) = some B' ∧ F_X9_writes M o (nI b) = some ((va_up M.1 9 (nI (n + 1)), M.2), upd o n (nI b)) ∧ WrS B' (va_up M.1 9 (nI (n + 1)), M.2) (upd o n (nI b)) (n + 1) := by
  obtain ⟨h1, h2, h3⟩ := h
  refine ⟨_, u_add (nI b) h1 (by omega), ?_, rfl, rfl, fun k hk => ?_⟩
  · simp (disch := omega) only [F_X9_writes, q_lit, nI_add, h2, q_ck, q_cl, q_lt0]
  · show upd o n (nI b) k = upd (B 1) n (nI b &&& 255) k
    rw [by_255 b hb]
    by_cases c : k = n
    · rw [c, up_eq, up_eq]
    · rw [up_ne c, up_ne c]
      exact h3 k (by omega)
theorem w18 {M : (Nat → Int32) × Int64} {o : Nat → Int32} {m u : Nat} (f : Nat) (hm : m ≤ 960) (h1 : 1 ≤ u) (h2 : u ≤ 100) : L_X9_writesNumber_18 (nI m) (f + 1) (nI u) M o = (F_X9_writes M o (nI (48 + (m / u - m / u / 10 * 10)))).bind (fun r => L_X9_writesNumber_18 (nI m) f (nI (u / 10)) r.1 r.2) := by
  have c1 : ¬ u ≤ 0 := by omega
  have c2 : ¬ u = 0 := by omega
  have hd : m / u / 10 * 10 ≤ m / u := Nat.div_mul_le_self _ _
  have hm' : m / u ≤ 960 := Nat.le_trans (Nat.div_le_self _ _) hm
  have e1 : nI m / nI u = nI (m / u) := q_div (by omega) (by omega) (by omega)
  rw [L_X9_writesNumber_18]
  simp (disch := omega) only [B_X9_writesNumber_18, q_lit, nI_add, q_le, c1, if_false, e1, q_div, pk_mul, q_sub, q_eq, c2, not_false_eq_true]
  exact if_pos trivial
theorem w18_0 {M : (Nat → Int32) × Int64} {o : Nat → Int32} {m : Nat} (f : Nat) : L_X9_writesNumber_18 (nI m) (f + 1) (nI 0) M o = some (M, o) := by
  rw [L_X9_writesNumber_18]
  exact if_pos (show nI 0 ≤ (0 : Int32) by decide)
theorem vaM {M : (Nat → Int32) × Int64} {a : Int32} {k : Nat} (h : k ≠ 9) : (va_up M.1 9 a, M.2).1 k = M.1 k := va_up_ne _ _ h
theorem wrN {B : Nat → Nat → Int32} {M : (Nat → Int32) × Int64} {o : Nat → Int32} {n m : Nat} (h : WrS B M o n) (hn : n + 3 ≤ 400) (hm : m ≤ 960) : ∃ B' M' o' n', F_X0_addMinute B (nI m) = some B' ∧ F_X9_writesNumber M o (nI m) = some (M', o') ∧ WrS B' M' o' n' ∧ n' ≤ n + 3 ∧ ∀ k, k ≠ 9 → M'.1 k = M.1 k := by
  have hd1 : m / 10 * 10 ≤ m := Nat.div_mul_le_self _ _
  have hd2 : m / 10 / 10 * 10 ≤ m / 10 := Nat.div_mul_le_self _ _
  have hF : FU = 4990 + 10 := rfl
  by_cases c1 : m < 10
  · have c2 : m < 100 := by omega
    have c3 : m / 10 < 1 := by omega
    obtain ⟨B1, a1, w1, s1⟩ := wr1 (b := 48 + (m - m / 10 * 10)) h (by omega) (by omega)
    refine ⟨B1, _, _, n + 1, ?_, ?_, s1, by omega, fun k hk => va_up_ne _ _ hk⟩
    · simp (disch := omega) only [F_X0_addMinute, J_X0_addMinute_17, q_lit, nI_add, q_lt, c1, c2, if_true, q_div, pk_mul, q_sub, a1, q_sb]
    · unfold F_X9_writesNumber
      rw [hF, L_X9_writesNumber_2]
      simp (disch := omega) only [B_X9_writesNumber_2, q_lit, q_div, q_lt, c3, if_true]
      rw [hF, w18 _ hm (by omega) (by omega), Nat.div_one, w1, q_sb, show 1 / 10 = 0 from rfl]
      exact w18_0 _
  · by_cases c2 : m < 100
    · have c3 : ¬ m / 10 < 1 := by omega
      have c4 : m / 10 < 10 := by omega
      obtain ⟨B1, a1, w1, s1⟩ := wr1 (b := 48 + (m / 10 - m / 10 / 10 * 10)) h (by omega) (by omega)
      obtain ⟨B2, a2, w2, s2⟩ := wr1 (b := 48 + (m - m / 10 * 10)) s1 (by omega) (by omega)
      refine ⟨B2, _, _, n + 1 + 1, ?_, ?_, s2, by omega, fun k hk => (va_up_ne _ _ hk).trans (va_up_ne _ _ hk)⟩
      · simp (disch := omega) only [F_X0_addMinute, J_X0_addMinute_17, q_lit, nI_add, q_lt, c1, c2, if_true, if_false, q_div, pk_mul, q_sub, a1, a2, q_sb]
      · unfold F_X9_writesNumber
        rw [hF, L_X9_writesNumber_2]
        simp (disch := omega) only [B_X9_writesNumber_2, q_lit, q_div, q_lt, c3, if_false, pk_mul]
        rw [show 4990 + 9 = 4998 + 1 from rfl, L_X9_writesNumber_2]
        simp (disch := omega) only [B_X9_writesNumber_2, q_lit, q_div, q_lt, if_true]
        rw [if_pos (show m / 10 < 1 * 10 by omega), hF, show nI (1 * 10) = nI 10 from rfl, w18 _ hm (by omega) (by omega), w1, q_sb, show 10 / 10 = 1 from rfl, w18 _ hm (by omega) (by omega), Nat.div_one, w2, q_sb, show 1 / 10 = 0 from rfl]
        exact w18_0 _
    · have c3 : ¬ m / 10 < 1 := by omega
      have c5 : m / 100 - m / 100 / 10 * 10 = m / 100 := by omega
      obtain ⟨B1, a1, w1, s1⟩ := wr1 (b := 48 + m / 100) h (by omega) (by omega)
      obtain ⟨B2, a2, w2, s2⟩ := wr1 (b := 48 + (m / 10 - m / 10 / 10 * 10)) s1 (by omega) (by omega)
      obtain ⟨B3, a3, w3, s3⟩ := wr1 (b := 48 + (m - m / 10 * 10)) s2 (by omega) (by omega)
      refine ⟨B3, _, _, n + 1 + 1 + 1, ?_, ?_, s3, by omega, fun k hk => (va_up_ne _ _ hk).trans ((va_up_ne _ _ hk).trans (va_up_ne _ _ hk))⟩
      · simp (disch := omega) only [F_X0_addMinute, J_X0_addMinute_17, q_lit, nI_add, q_lt, c1, c2, if_false, q_div, pk_mul, q_sub, a1, a2, a3, q_sb]
      · unfold F_X9_writesNumber
        rw [hF, L_X9_writesNumber_2]
        simp (disch := omega) only [B_X9_writesNumber_2, q_lit, q_div, q_lt, c3, if_false, pk_mul]
        rw [show 4990 + 9 = 4998 + 1 from rfl, L_X9_writesNumber_2]
        simp (disch := omega) only [B_X9_writesNumber_2, q_lit, q_div, q_lt, pk_mul]
        rw [if_neg (show ¬ m / 10 < 1 * 10 by omega), show 4998 = 4997 + 1 from rfl, L_X9_writesNumber_2]
        simp (disch := omega) only [B_X9_writesNumber_2, q_lit, q_div, q_lt]
        rw [if_pos (show m / 10 < 1 * 10 * 10 by omega), hF, show nI (1 * 10 * 10) = nI 100 from rfl, w18 _ hm (by omega) (by omega), c5, w1, q_sb, show 100 / 10 = 10 from rfl, w18 _ hm (by omega) (by omega), w2, q_sb, show 10 / 10 = 1 from rfl, w18 _ hm (by omega) (by omega), Nat.div_one, w3, q_sb, show 1 / 10 = 0 from rfl]
        exact w18_0 _
theorem wrL {vN w : Nat → Int32} {vG vU vR : Nat → Nat → Int32} {D : Dn} {T g : Nat} (m8 : M8 vN vG vU vR D) (m9 : M9 w D) (o : OkD T D) (hg : g < D.G) : ∀ f k B M (ou : Nat → Int32) n, k ≤ D.R → D.R - k < f → WrS B M ou n → n ≤ 5 * k → ∃ B' M' o' n', L_X5_writeTo_2 vR (nI g) f (nI k) B = some B' ∧ L_X9_writeEntries_26 w (nI g) f (nI k) M ou = some (nI n', M', o') ∧ WrS B' M' o' n' ∧ n' ≤ 5 * D.R ∧ ∀ i, i ≠ 9 → M'.1 i = M.1 i := by
  have hG := o.G
  have hR := o.R
  have hm := o.mi
  intro f
  induction f with
  | zero => intro k B M ou n _ h; omega
  | succ f ih =>
    intro k B M ou n hk hf hs hn
    by_cases hkR : k < D.R
    · have h1 := o.ew k hkR
      have h2 := o.eg k hkR
      have h3 := o.el k hkR
      have c1 : ¬ D.R ≤ k := by omega
      by_cases ce : D.eg k = g
      · have hsg : ∃ s, s < 256 ∧ vR 3 k = nI s ∧ (D.el k = 1 → s = 45) ∧ (D.el k = 0 → s = 43) := by
          rcases Nat.le_one_iff_eq_zero_or_eq_one.mp h3 with c | c
          · exact ⟨43, by omega, by rw [m8.el k hkR, if_pos c], by omega, by omega⟩
          · exact ⟨45, by omega, by rw [m8.el k hkR, if_neg (by omega)], by omega, by omega⟩
        obtain ⟨s, hs256, hs8, hs1, hs0⟩ := hsg
        obtain ⟨B1, a1, w1, s1⟩ := wr1 (b := s) hs (by omega) hs256
        obtain ⟨B2, M2, o2, n2, a2, w2, s2, b2, f2⟩ := wrN (m := D.ew k) s1 (by omega) (by omega)
        obtain ⟨B3, a3, w3, s3⟩ := wr1 (b := 10) s2 (by omega) (by omega)
        obtain ⟨B4, M4, o4, n4, a4, w4, s4, b4, f4⟩ := ih (k + 1) _ _ _ _ (by omega) (by omega) s3 (by omega)
        refine ⟨B4, M4, o4, n4, ?_, ?_, s4, b4, fun i hi => (f4 i hi).trans ((va_up_ne _ _ hi).trans ((f2 i hi).trans (va_up_ne _ _ hi)))⟩
        · rw [L_X5_writeTo_2]
          simp (disch := omega) only [B_X5_writeTo_2, q_lit, nI_add, q_ck, q_cl, m8.R, m8.eg, m8.ew, hs8, q_le, c1, if_false, q_eq, ce, eq_self, if_true, a1, a2, a3, q_sb, a4]
        · rw [L_X9_writeEntries_26]
          rcases Nat.le_one_iff_eq_zero_or_eq_one.mp h3 with c | c
          · rw [hs0 c] at w1 w2
            simp (disch := omega) only [B_X9_writeEntries_26, F_X9_writesEntry, F_X9_entryAt, q_lit, nI_add, pk_mul, q_ck, q_cl, m9.R, m9.eg, m9.ew, m9.el, c, q_le, c1, if_false, q_eq, ce, eq_self, e01, if_true, w1, w2, w3, q_sb, w4]
          · rw [hs1 c] at w1 w2
            simp (disch := omega) only [B_X9_writeEntries_26, F_X9_writesEntry, F_X9_entryAt, q_lit, nI_add, pk_mul, q_ck, q_cl, m9.R, m9.eg, m9.ew, m9.el, c, q_le, c1, if_false, q_eq, ce, eq_self, if_true, w1, w2, w3, q_sb, w4]
      · obtain ⟨B4, M4, o4, n4, a4, w4, s4, b4, f4⟩ := ih (k + 1) B M ou n (by omega) (by omega) hs (by omega)
        refine ⟨B4, M4, o4, n4, ?_, ?_, s4, b4, f4⟩
        · rw [L_X5_writeTo_2]
          simp (disch := omega) only [B_X5_writeTo_2, q_lit, nI_add, q_ck, q_cl, m8.R, m8.eg, q_le, c1, if_false, q_eq, ce, a4]
        · rw [L_X9_writeEntries_26]
          simp (disch := omega) only [B_X9_writeEntries_26, F_X9_entryAt, q_lit, nI_add, pk_mul, q_ck, q_cl, q_sb, m9.R, m9.eg, q_le, c1, if_false, q_eq, ce, w4]
    · have : k = D.R := by omega
      subst this
      refine ⟨B, M, ou, n, ?_, ?_, hs, hn, fun _ _ => rfl⟩
      · rw [L_X5_writeTo_2]
        simp (disch := omega) only [B_X5_writeTo_2, m8.R, q_le, Nat.le_refl, if_true]
      · rw [L_X9_writeEntries_26]
        simp (disch := omega) only [B_X9_writeEntries_26, q_lit, q_ck, q_cl, m9.R, q_le, Nat.le_refl, if_true, hs.2.1]
theorem a_59 {vX vN : Nat → Int32} {vG vU vR vBw : Nat → Nat → Int32} {vM : (Nat → Int32) × Int64} {vnow vout : Nat → Int32} {vO : Nat → Int64} {D : Dn} {T : Nat} (m8 : M8 vN vG vU vR D) (m9 : M9 vnow D) (o : OkD T D) (hw : WrOk vBw vM vout) (x1 : Int32) : ∃ (c : Int32) (B' : Nat → Nat → Int32) (O' : Nat → Int64) (b : Int32) (M' : (Nat → Int32) × Int64) (o' : Nat → Int32), F_L_writeEntries vX vN vG vR vBw vO x1 = some (c, B', O') ∧ F_X9_writeEntries vM vnow vout x1 = some (b, M', o') ∧ M'.1 3 = c ∧ (c = 0 → O' 0 = Int32.toInt64 b) ∧ WrOk B' M' o' ∧ ∀ k, k ≠ 3 → k ≠ 9 → M'.1 k = vM.1 k := by
  have hR := o.R
  rcases gcase x1 D.G with ⟨g, hg, rfl⟩ | hb
  · have hs : WrS (va_up vBw 0 (fun _ => nI 0)) (va_up (va_up vM.1 3 (nI 0)) 9 (nI 0), vM.2) vout 0 := ⟨rfl, rfl, fun k hk => absurd hk (Nat.not_lt_zero k)⟩
    obtain ⟨B4, M4, o4, n4, a4, w4, s4, b4, f4⟩ := wrL m8 m9 o hg FU 0 _ _ _ 0 (Nat.zero_le _) (by unfold FU; omega) hs (Nat.zero_le _)
    have e0 : B4 0 0 = nI n4 := s4.1
    have e8 : F_L_writeEntries vX vN vG vR vBw vO (nI g) = some (nI 0, B4, vp_updL vO 0 (Int32.toInt64 (nI n4))) := by
      simp (disch := omega) only [F_L_writeEntries, F_X8_writeEntries, F_X5_writeTo, u_rG_ok m8 o hg, a4, e0, q_lit, q_neg, nI_add, pk_mul, q_sb, q_lt0, q_ck, q_cl, q_le, q_lt, q_eq, q_m1e, q_e1m, q_m1l, e10, e20, e30, e40, e21, e31, e41, e32, e42, e43, eq_self, if_true, if_false, q_cn0, q_cn1, F_X9_fails, F_X9_isFailed, e14, e12, e13, e24, e23, e34]
    have e9 : F_X9_writeEntries vM vnow vout (nI g) = some (nI n4, M4, o4) := by
      simp (disch := omega) only [F_X9_writeEntries, t_isG_ok m9 o hg, w4, q_lit, q_neg, nI_add, pk_mul, q_sb, q_lt0, q_ck, q_cl, q_le, q_lt, q_eq, q_m1e, q_e1m, q_m1l, e10, e20, e30, e40, e21, e31, e41, e32, e42, e43, eq_self, if_true, if_false, q_cn0, q_cn1, F_X9_fails, F_X9_isFailed, e14, e12, e13, e24, e23, e34]
    exact ⟨nI 0, B4, _, _, M4, o4, e8, e9, f4 3 (by decide), fun _ => rfl, ⟨n4, by omega, s4.1, s4.2.1, s4.2.2⟩, fun k h3 h9 => (f4 k h9).trans ((va_up_ne _ _ h9).trans (va_up_ne _ _ h3))⟩
  · have e8 : F_L_writeEntries vX vN vG vR vBw vO x1 = some (nI 1, vBw, vO) := by
      simp (disch := omega) only [F_L_writeEntries, F_X8_writeEntries, u_rG_bad m8 o hb, q_lit, q_neg, nI_add, pk_mul, q_sb, q_lt0, q_ck, q_cl, q_le, q_lt, q_eq, q_m1e, q_e1m, q_m1l, e10, e20, e30, e40, e21, e31, e41, e32, e42, e43, eq_self, if_true, if_false, q_cn0, q_cn1, F_X9_fails, F_X9_isFailed, e14, e12, e13, e24, e23, e34]
    have e9 : F_X9_writeEntries vM vnow vout x1 = some (nI 0, (va_up (va_up vM.1 3 (nI 0)) 3 (nI 1), vM.2), vout) := by
      simp (disch := omega) only [F_X9_writeEntries, t_isG_bad m9 o hb, q_lit, q_neg, nI_add, pk_mul, q_sb, q_lt0, q_ck, q_cl, q_le, q_lt, q_eq, q_m1e, q_e1m, q_m1l, e10, e20, e30, e40, e21, e31, e41, e32, e42, e43, eq_self, if_true, if_false, q_cn0, q_cn1, F_X9_fails, F_X9_isFailed, e14, e12, e13, e24, e23, e34]
    obtain ⟨n, hn, h1, h2, h3⟩ := hw
    exact ⟨nI 1, vBw, vO, _, _, vout, e8, e9, rfl, fun h => absurd h (by decide), ⟨n, hn, h1, h2, h3⟩, fun k h3 _ => (va_up_ne _ _ h3).trans (va_up_ne _ _ h3)⟩
