/-! answers of the calls that change the night -/
def StOk (T : Nat) (vN : Nat → Int32) (vG vU vR : Nat → Nat → Int32) (vH : Nat → Int32) (vHV : Nat → NV) (vM : (Nat → Int32) × Int64) (vnow vearlier : Nat → Int32) : Prop := ∃ D, OkN T D ∧ M8 vN vG vU vR D ∧ M9 vnow D ∧ HistOk T vM vearlier vH vHV
theorem e14 : ((1 : Nat) = 4) = False := by decide
theorem e12 : ((1 : Nat) = 2) = False := by decide
theorem e13 : ((1 : Nat) = 3) = False := by decide
theorem e24 : ((2 : Nat) = 4) = False := by decide
theorem e23 : ((2 : Nat) = 3) = False := by decide
theorem e34 : ((3 : Nat) = 4) = False := by decide
theorem a_50 {vX : Nat → Int32} {vN : Nat → Int32} {vG : Nat → Nat → Int32} {vU : Nat → Nat → Int32} {vR : Nat → Nat → Int32} {vH : Nat → Int32} {vHV : Nat → NV} {vO : Nat → Int64} {vM : (Nat → Int32) × Int64} {vnow : Nat → Int32} {vearlier : Nat → Int32} {D : Dn} {T : Nat} (m8 : M8 vN vG vU vR D) (m9 : M9 vnow D) (o : OkN T D) (hh : HistOk T vM vearlier vH vHV) (hT : T + 1 ≤ 600) (x1 : Int32) : ∃ (c : Int32) (G' : Nat → Nat → Int32) (U' : Nat → Nat → Int32) (R' : Nat → Nat → Int32) (H' : Nat → Int32) (HV' : Nat → NV) (O' : Nat → Int64) (b : Int32) (M' : (Nat → Int32) × Int64) (now' : Nat → Int32) (e' : Nat → Int32), F_L_leave vX vN vG vU vR vH vHV vO x1 = some (c, G', U', R', H', HV', O') ∧ F_X9_leave vM vnow vearlier x1 = some (b, M', now', e') ∧ M'.1 3 = c ∧ (c = 0 → O' 0 = Int32.toInt64 b) ∧ StOk (T + 1) vN G' U' R' H' HV' M' now' e' ∧ (∀ k, k ≠ 0 → k ≠ 3 → M'.1 k = vM.1 k) := by
  have hG := o.1.G
  have hU := o.1.U
  have hR0 := o.1.R
  have hm := o.2.2
  have hT0 : T ≤ T + 1 := Nat.le_succ T
  rcases gcase x1 D.G with ⟨g, hg, rfl⟩ | hb
  · have h1 := o.1.ou g hg
    rcases Nat.le_one_iff_eq_zero_or_eq_one.mp h1 with h | h
    · by_cases hR : D.R < 60
      · obtain ⟨r9, r8, k9, k8, hh', hM'⟩ := h_keep (vM := (va_up vM.1 3 (nI 0), vM.2)) (hh.m rfl) m8 m9 o
        obtain ⟨l9, f9, g9, n9⟩ := t_leaves m9 o.1 hg hR
        obtain ⟨l8, f8, n8⟩ := u_leave m8 o.1 hg hR
        have on := okn_leave o hg h hR
        have hGl : (leaveD D g).G = D.G := takeE_o D g 0 7 (by decide)
        have cA : F_X1_countAway l8.1 = some (nI (smF (leaveD D g).ou D.G)) := by
          rw [← hGl]
          exact u_away_n n8 on.1
        have hRn : ¬ D.R = 60 := by omega
        have e8 : F_L_leave vX vN vG vU vR vH vHV vO (nI g) = some (nI 0, l8.1, l8.2.1, l8.2.2, r8.1, r8.2, vp_updL vO 0 (Int32.toInt64 (nI (smF (leaveD D g).ou D.G)))) := by
          simp (disch := omega) only [F_L_leave, F_X8_leave, F_X9_leave, u_rG_ok m8 o.1 hg, t_isG_ok m9 o.1 hg, u_isAway m8 o.1 hg, t_away m9 o.1 hg, h, F_X8_requireRoomForEntry, m8.R, m9.R, hR, hRn, k9, k8, f9, g9, f8, cA, q_lit, q_neg, nI_add, pk_mul, q_sb, q_lt0, q_ck, q_cl, q_le, q_lt, q_eq, q_m1e, q_e1m, q_m1l, e10, e20, e30, e40, e21, e31, e41, e32, e42, e43, eq_self, if_true, if_false, q_cn0, q_cn1, F_X9_fails, F_X9_isFailed, e14, e12, e13, e24, e23, e34]
        have e9 : F_X9_leave vM vnow vearlier (nI g) = some (nI (smF (leaveD D g).ou D.G), r9.1, l9.2, r9.2) := by
          simp (disch := omega) only [F_L_leave, F_X8_leave, F_X9_leave, u_rG_ok m8 o.1 hg, t_isG_ok m9 o.1 hg, u_isAway m8 o.1 hg, t_away m9 o.1 hg, h, F_X8_requireRoomForEntry, m8.R, m9.R, hR, hRn, k9, k8, f9, g9, f8, cA, q_lit, q_neg, nI_add, pk_mul, q_sb, q_lt0, q_ck, q_cl, q_le, q_lt, q_eq, q_m1e, q_e1m, q_m1l, e10, e20, e30, e40, e21, e31, e41, e32, e42, e43, eq_self, if_true, if_false, q_cn0, q_cn1, F_X9_fails, F_X9_isFailed, e14, e12, e13, e24, e23, e34]
        exact ⟨nI 0, l8.1, l8.2.1, l8.2.2, r8.1, r8.2, vp_updL vO 0 (Int32.toInt64 (nI (smF (leaveD D g).ou D.G))), nI (smF (leaveD D g).ou D.G), r9.1, l9.2, r9.2, e8, e9, hM' 3 (by decide), fun _ => rfl, ⟨leaveD D g, on.mono hT0 hT, n8, n9, hh'.mono hT0 hT⟩, fun k h0 h3 => (hM' k h0).trans (va_up_ne _ _ h3)⟩
      · have hRn : D.R = 60 := by omega
        have e8 : F_L_leave vX vN vG vU vR vH vHV vO (nI g) = some (nI 2, vG, vU, vR, vH, vHV, vO) := by
          simp (disch := omega) only [F_L_leave, F_X8_leave, F_X9_leave, u_rG_ok m8 o.1 hg, t_isG_ok m9 o.1 hg, u_isAway m8 o.1 hg, t_away m9 o.1 hg, h, F_X8_requireRoomForEntry, m8.R, m9.R, hRn, Nat.lt_irrefl, q_lit, q_neg, nI_add, pk_mul, q_sb, q_lt0, q_ck, q_cl, q_le, q_lt, q_eq, q_m1e, q_e1m, q_m1l, e10, e20, e30, e40, e21, e31, e41, e32, e42, e43, eq_self, if_true, if_false, q_cn0, q_cn1, F_X9_fails, F_X9_isFailed, e14, e12, e13, e24, e23, e34]
        have e9 : F_X9_leave vM vnow vearlier (nI g) = some (nI 0, (va_up (va_up vM.1 3 (nI 0)) 3 (nI 2), vM.2), vnow, vearlier) := by
          simp (disch := omega) only [F_L_leave, F_X8_leave, F_X9_leave, u_rG_ok m8 o.1 hg, t_isG_ok m9 o.1 hg, u_isAway m8 o.1 hg, t_away m9 o.1 hg, h, F_X8_requireRoomForEntry, m8.R, m9.R, hRn, Nat.lt_irrefl, q_lit, q_neg, nI_add, pk_mul, q_sb, q_lt0, q_ck, q_cl, q_le, q_lt, q_eq, q_m1e, q_e1m, q_m1l, e10, e20, e30, e40, e21, e31, e41, e32, e42, e43, eq_self, if_true, if_false, q_cn0, q_cn1, F_X9_fails, F_X9_isFailed, e14, e12, e13, e24, e23, e34]
        exact ⟨nI 2, vG, vU, vR, vH, vHV, vO, nI 0, _, vnow, vearlier, e8, e9, rfl, fun h => absurd h (by decide), ⟨D, o.mono hT0 hT, m8, m9, HistOk.mono (HistOk.m (vM := vM) hh rfl) hT0 hT⟩, fun k _ h3 => (va_up_ne _ _ h3).trans (va_up_ne _ _ h3)⟩
    · have e8 : F_L_leave vX vN vG vU vR vH vHV vO (nI g) = some (nI 2, vG, vU, vR, vH, vHV, vO) := by
        simp (disch := omega) only [F_L_leave, F_X8_leave, F_X9_leave, u_rG_ok m8 o.1 hg, t_isG_ok m9 o.1 hg, u_isAway m8 o.1 hg, t_away m9 o.1 hg, h, q_lit, q_neg, nI_add, pk_mul, q_sb, q_lt0, q_ck, q_cl, q_le, q_lt, q_eq, q_m1e, q_e1m, q_m1l, e10, e20, e30, e40, e21, e31, e41, e32, e42, e43, eq_self, if_true, if_false, q_cn0, q_cn1, F_X9_fails, F_X9_isFailed, e14, e12, e13, e24, e23, e34]
      have e9 : F_X9_leave vM vnow vearlier (nI g) = some (nI 0, (va_up (va_up vM.1 3 (nI 0)) 3 (nI 2), vM.2), vnow, vearlier) := by
        simp (disch := omega) only [F_L_leave, F_X8_leave, F_X9_leave, u_rG_ok m8 o.1 hg, t_isG_ok m9 o.1 hg, u_isAway m8 o.1 hg, t_away m9 o.1 hg, h, q_lit, q_neg, nI_add, pk_mul, q_sb, q_lt0, q_ck, q_cl, q_le, q_lt, q_eq, q_m1e, q_e1m, q_m1l, e10, e20, e30, e40, e21, e31, e41, e32, e42, e43, eq_self, if_true, if_false, q_cn0, q_cn1, F_X9_fails, F_X9_isFailed, e14, e12, e13, e24, e23, e34]
      exact ⟨nI 2, vG, vU, vR, vH, vHV, vO, nI 0, _, vnow, vearlier, e8, e9, rfl, fun h => absurd h (by decide), ⟨D, o.mono hT0 hT, m8, m9, HistOk.mono (HistOk.m (vM := vM) hh rfl) hT0 hT⟩, fun k _ h3 => (va_up_ne _ _ h3).trans (va_up_ne _ _ h3)⟩
  · have e8 : F_L_leave vX vN vG vU vR vH vHV vO x1 = some (nI 1, vG, vU, vR, vH, vHV, vO) := by
      simp (disch := omega) only [F_L_leave, F_X8_leave, F_X9_leave, u_rG_bad m8 o.1 hb, t_isG_bad m9 o.1 hb, q_lit, q_neg, nI_add, pk_mul, q_sb, q_lt0, q_ck, q_cl, q_le, q_lt, q_eq, q_m1e, q_e1m, q_m1l, e10, e20, e30, e40, e21, e31, e41, e32, e42, e43, eq_self, if_true, if_false, q_cn0, q_cn1, F_X9_fails, F_X9_isFailed, e14, e12, e13, e24, e23, e34]
    have e9 : F_X9_leave vM vnow vearlier x1 = some (nI 0, (va_up (va_up vM.1 3 (nI 0)) 3 (nI 1), vM.2), vnow, vearlier) := by
      simp (disch := omega) only [F_L_leave, F_X8_leave, F_X9_leave, u_rG_bad m8 o.1 hb, t_isG_bad m9 o.1 hb, q_lit, q_neg, nI_add, pk_mul, q_sb, q_lt0, q_ck, q_cl, q_le, q_lt, q_eq, q_m1e, q_e1m, q_m1l, e10, e20, e30, e40, e21, e31, e41, e32, e42, e43, eq_self, if_true, if_false, q_cn0, q_cn1, F_X9_fails, F_X9_isFailed, e14, e12, e13, e24, e23, e34]
    exact ⟨nI 1, vG, vU, vR, vH, vHV, vO, nI 0, _, vnow, vearlier, e8, e9, rfl, fun h => absurd h (by decide), ⟨D, o.mono hT0 hT, m8, m9, HistOk.mono (HistOk.m (vM := vM) hh rfl) hT0 hT⟩, fun k _ h3 => (va_up_ne _ _ h3).trans (va_up_ne _ _ h3)⟩
theorem a_51 {vX : Nat → Int32} {vN : Nat → Int32} {vG : Nat → Nat → Int32} {vU : Nat → Nat → Int32} {vR : Nat → Nat → Int32} {vH : Nat → Int32} {vHV : Nat → NV} {vO : Nat → Int64} {vM : (Nat → Int32) × Int64} {vnow : Nat → Int32} {vearlier : Nat → Int32} {D : Dn} {T : Nat} (m8 : M8 vN vG vU vR D) (m9 : M9 vnow D) (o : OkN T D) (hh : HistOk T vM vearlier vH vHV) (hT : T + 1 ≤ 600) (x1 : Int32) : ∃ (c : Int32) (N' : Nat → Int32) (G' : Nat → Nat → Int32) (U' : Nat → Nat → Int32) (R' : Nat → Nat → Int32) (H' : Nat → Int32) (HV' : Nat → NV) (O' : Nat → Int64) (b : Int32) (M' : (Nat → Int32) × Int64) (now' : Nat → Int32) (e' : Nat → Int32), F_L_comeBack vX vN vG vU vR vH vHV vO x1 = some (c, N', G', U', R', H', HV', O') ∧ F_X9_comeBack vM vnow vearlier x1 = some (b, M', now', e') ∧ M'.1 3 = c ∧ (c = 0 → O' 0 = Int32.toInt64 b) ∧ StOk (T + 1) N' G' U' R' H' HV' M' now' e' ∧ (∀ k, k ≠ 0 → k ≠ 3 → M'.1 k = vM.1 k) := by
  have hG := o.1.G
  have hU := o.1.U
  have hR0 := o.1.R
  have hm := o.2.2
  have hT0 : T ≤ T + 1 := Nat.le_succ T
  rcases gcase x1 D.G with ⟨g, hg, rfl⟩ | hb
  · have h1 := o.1.ou g hg
    rcases Nat.le_one_iff_eq_zero_or_eq_one.mp h1 with h | h
    · have e8 : F_L_comeBack vX vN vG vU vR vH vHV vO (nI g) = some (nI 2, vN, vG, vU, vR, vH, vHV, vO) := by
        simp (disch := omega) only [F_L_comeBack, F_X8_comeBack, F_X9_comeBack, u_rG_ok m8 o.1 hg, t_isG_ok m9 o.1 hg, u_isAway m8 o.1 hg, t_away m9 o.1 hg, h, q_lit, q_neg, nI_add, pk_mul, q_sb, q_lt0, q_ck, q_cl, q_le, q_lt, q_eq, q_m1e, q_e1m, q_m1l, e10, e20, e30, e40, e21, e31, e41, e32, e42, e43, eq_self, if_true, if_false, q_cn0, q_cn1, F_X9_fails, F_X9_isFailed, e14, e12, e13, e24, e23, e34]
      have e9 : F_X9_comeBack vM vnow vearlier (nI g) = some (nI 0, (va_up (va_up vM.1 3 (nI 0)) 3 (nI 2), vM.2), vnow, vearlier) := by
        simp (disch := omega) only [F_L_comeBack, F_X8_comeBack, F_X9_comeBack, u_rG_ok m8 o.1 hg, t_isG_ok m9 o.1 hg, u_isAway m8 o.1 hg, t_away m9 o.1 hg, h, q_lit, q_neg, nI_add, pk_mul, q_sb, q_lt0, q_ck, q_cl, q_le, q_lt, q_eq, q_m1e, q_e1m, q_m1l, e10, e20, e30, e40, e21, e31, e41, e32, e42, e43, eq_self, if_true, if_false, q_cn0, q_cn1, F_X9_fails, F_X9_isFailed, e14, e12, e13, e24, e23, e34]
      exact ⟨nI 2, vN, vG, vU, vR, vH, vHV, vO, nI 0, _, vnow, vearlier, e8, e9, rfl, fun h => absurd h (by decide), ⟨D, o.mono hT0 hT, m8, m9, HistOk.mono (HistOk.m (vM := vM) hh rfl) hT0 hT⟩, fun k _ h3 => (va_up_ne _ _ h3).trans (va_up_ne _ _ h3)⟩
    · by_cases hR : D.R < 60
      · obtain ⟨r9, r8, k9, k8, hh', hM'⟩ := h_keep (vM := (va_up vM.1 3 (nI 0), vM.2)) (hh.m rfl) m8 m9 o
        obtain ⟨l9, f9, g9, n9⟩ := t_ret m9 o.1 hg hR
        obtain ⟨l8, f8, g8, n8⟩ := u_ret m8 o.1 hg hR
        have on := okn_ret o hg h hR
        have hRn : ¬ D.R = 60 := by omega
        have e8 : F_L_comeBack vX vN vG vU vR vH vHV vO (nI g) = some (nI 0, l8.2.1, l8.2.2.1, l8.2.2.2.1, l8.2.2.2.2, r8.1, r8.2, vp_updL vO 0 (Int32.toInt64 (nI (tipD D g)))) := by
          simp (disch := omega) only [F_L_comeBack, F_X8_comeBack, F_X9_comeBack, u_rG_ok m8 o.1 hg, t_isG_ok m9 o.1 hg, u_isAway m8 o.1 hg, t_away m9 o.1 hg, h, F_X8_requireRoomForEntry, m8.R, m9.R, hR, hRn, k9, k8, f9, g9, f8, g8, q_lit, q_neg, nI_add, pk_mul, q_sb, q_lt0, q_ck, q_cl, q_le, q_lt, q_eq, q_m1e, q_e1m, q_m1l, e10, e20, e30, e40, e21, e31, e41, e32, e42, e43, eq_self, if_true, if_false, q_cn0, q_cn1, F_X9_fails, F_X9_isFailed, e14, e12, e13, e24, e23, e34]
        have e9 : F_X9_comeBack vM vnow vearlier (nI g) = some (nI (tipD D g), r9.1, l9.2, r9.2) := by
          simp (disch := omega) only [F_L_comeBack, F_X8_comeBack, F_X9_comeBack, u_rG_ok m8 o.1 hg, t_isG_ok m9 o.1 hg, u_isAway m8 o.1 hg, t_away m9 o.1 hg, h, F_X8_requireRoomForEntry, m8.R, m9.R, hR, hRn, k9, k8, f9, g9, f8, g8, q_lit, q_neg, nI_add, pk_mul, q_sb, q_lt0, q_ck, q_cl, q_le, q_lt, q_eq, q_m1e, q_e1m, q_m1l, e10, e20, e30, e40, e21, e31, e41, e32, e42, e43, eq_self, if_true, if_false, q_cn0, q_cn1, F_X9_fails, F_X9_isFailed, e14, e12, e13, e24, e23, e34]
        exact ⟨nI 0, l8.2.1, l8.2.2.1, l8.2.2.2.1, l8.2.2.2.2, r8.1, r8.2, vp_updL vO 0 (Int32.toInt64 (nI (tipD D g))), nI (tipD D g), r9.1, l9.2, r9.2, e8, e9, hM' 3 (by decide), fun _ => rfl, ⟨retD D g, on.mono hT0 hT, n8, n9, hh'.mono hT0 hT⟩, fun k h0 h3 => (hM' k h0).trans (va_up_ne _ _ h3)⟩
      · have hRn : D.R = 60 := by omega
        have e8 : F_L_comeBack vX vN vG vU vR vH vHV vO (nI g) = some (nI 2, vN, vG, vU, vR, vH, vHV, vO) := by
          simp (disch := omega) only [F_L_comeBack, F_X8_comeBack, F_X9_comeBack, u_rG_ok m8 o.1 hg, t_isG_ok m9 o.1 hg, u_isAway m8 o.1 hg, t_away m9 o.1 hg, h, F_X8_requireRoomForEntry, m8.R, m9.R, hRn, Nat.lt_irrefl, q_lit, q_neg, nI_add, pk_mul, q_sb, q_lt0, q_ck, q_cl, q_le, q_lt, q_eq, q_m1e, q_e1m, q_m1l, e10, e20, e30, e40, e21, e31, e41, e32, e42, e43, eq_self, if_true, if_false, q_cn0, q_cn1, F_X9_fails, F_X9_isFailed, e14, e12, e13, e24, e23, e34]
        have e9 : F_X9_comeBack vM vnow vearlier (nI g) = some (nI 0, (va_up (va_up vM.1 3 (nI 0)) 3 (nI 2), vM.2), vnow, vearlier) := by
          simp (disch := omega) only [F_L_comeBack, F_X8_comeBack, F_X9_comeBack, u_rG_ok m8 o.1 hg, t_isG_ok m9 o.1 hg, u_isAway m8 o.1 hg, t_away m9 o.1 hg, h, F_X8_requireRoomForEntry, m8.R, m9.R, hRn, Nat.lt_irrefl, q_lit, q_neg, nI_add, pk_mul, q_sb, q_lt0, q_ck, q_cl, q_le, q_lt, q_eq, q_m1e, q_e1m, q_m1l, e10, e20, e30, e40, e21, e31, e41, e32, e42, e43, eq_self, if_true, if_false, q_cn0, q_cn1, F_X9_fails, F_X9_isFailed, e14, e12, e13, e24, e23, e34]
        exact ⟨nI 2, vN, vG, vU, vR, vH, vHV, vO, nI 0, _, vnow, vearlier, e8, e9, rfl, fun h => absurd h (by decide), ⟨D, o.mono hT0 hT, m8, m9, HistOk.mono (HistOk.m (vM := vM) hh rfl) hT0 hT⟩, fun k _ h3 => (va_up_ne _ _ h3).trans (va_up_ne _ _ h3)⟩
  · have e8 : F_L_comeBack vX vN vG vU vR vH vHV vO x1 = some (nI 1, vN, vG, vU, vR, vH, vHV, vO) := by
      simp (disch := omega) only [F_L_comeBack, F_X8_comeBack, F_X9_comeBack, u_rG_bad m8 o.1 hb, t_isG_bad m9 o.1 hb, q_lit, q_neg, nI_add, pk_mul, q_sb, q_lt0, q_ck, q_cl, q_le, q_lt, q_eq, q_m1e, q_e1m, q_m1l, e10, e20, e30, e40, e21, e31, e41, e32, e42, e43, eq_self, if_true, if_false, q_cn0, q_cn1, F_X9_fails, F_X9_isFailed, e14, e12, e13, e24, e23, e34]
    have e9 : F_X9_comeBack vM vnow vearlier x1 = some (nI 0, (va_up (va_up vM.1 3 (nI 0)) 3 (nI 1), vM.2), vnow, vearlier) := by
      simp (disch := omega) only [F_L_comeBack, F_X8_comeBack, F_X9_comeBack, u_rG_bad m8 o.1 hb, t_isG_bad m9 o.1 hb, q_lit, q_neg, nI_add, pk_mul, q_sb, q_lt0, q_ck, q_cl, q_le, q_lt, q_eq, q_m1e, q_e1m, q_m1l, e10, e20, e30, e40, e21, e31, e41, e32, e42, e43, eq_self, if_true, if_false, q_cn0, q_cn1, F_X9_fails, F_X9_isFailed, e14, e12, e13, e24, e23, e34]
    exact ⟨nI 1, vN, vG, vU, vR, vH, vHV, vO, nI 0, _, vnow, vearlier, e8, e9, rfl, fun h => absurd h (by decide), ⟨D, o.mono hT0 hT, m8, m9, HistOk.mono (HistOk.m (vM := vM) hh rfl) hT0 hT⟩, fun k _ h3 => (va_up_ne _ _ h3).trans (va_up_ne _ _ h3)⟩
theorem a_52 {vX : Nat → Int32} {vN : Nat → Int32} {vG : Nat → Nat → Int32} {vU : Nat → Nat → Int32} {vR : Nat → Nat → Int32} {vH : Nat → Int32} {vHV : Nat → NV} {vO : Nat → Int64} {vM : (Nat → Int32) × Int64} {vnow : Nat → Int32} {vearlier : Nat → Int32} {D : Dn} {T : Nat} (m8 : M8 vN vG vU vR D) (m9 : M9 vnow D) (o : OkN T D) (hh : HistOk T vM vearlier vH vHV) (hT : T + 1 ≤ 600) (x1 : Int32) : ∃ (c : Int32) (N' : Nat → Int32) (G' : Nat → Nat → Int32) (U' : Nat → Nat → Int32) (H' : Nat → Int32) (HV' : Nat → NV) (O' : Nat → Int64) (b : Int32) (M' : (Nat → Int32) × Int64) (now' : Nat → Int32) (e' : Nat → Int32), F_L_passMinutes vX vN vG vU vR vH vHV vO x1 = some (c, N', G', U', H', HV', O') ∧ F_X9_passMinutes vM vnow vearlier x1 = some (b, M', now', e') ∧ M'.1 3 = c ∧ (c = 0 → O' 0 = Int32.toInt64 b) ∧ StOk (T + 1) N' G' U' vR H' HV' M' now' e' ∧ (∀ k, k ≠ 0 → k ≠ 3 → M'.1 k = vM.1 k) := by
  have hG := o.1.G
  have hU := o.1.U
  have hR0 := o.1.R
  have hm := o.2.2
  have hT0 : T ≤ T + 1 := Nat.le_succ T
  rcases rcase x1 1 240 (by omega) (by omega) with ⟨v, hv1, hv2, rfl, q8, q9⟩ | ⟨q8, q9⟩
  · by_cases hv : D.mi + v ≤ 720
    · have hv' : v ≤ 720 - D.mi := by omega
      obtain ⟨r9, r8, k9, k8, hh', hM'⟩ := h_keep (vM := (va_up vM.1 3 (nI 0), vM.2)) (hh.m rfl) m8 m9 o
      obtain ⟨p9, f9, g9, g9b, n9, g9c⟩ := t_passM (vM := r9.1) (e := r9.2) m9 o hv
      obtain ⟨p8, f8, g8, g8b, n8, g8c, g8d⟩ := u_passM (vX := vX) (vH := r8.1) (vHV := r8.2) m8 o hv
      obtain ⟨a1, a2, a3, a4⟩ := p9
      obtain ⟨b1, b2, b3, b4, b5, b6, b7⟩ := p8
      dsimp only at g9 g9b n9 g9c g8 g8b n8 g8c g8d
      subst g9 g9b g9c g8 g8b g8c g8d
      have f9' : L_X9_passMinutes_55 (nI v) FU (nI D.co) (nI 0) r9.1 vnow r9.2 = _ := f9
      have f8' : L_X8_passMinutes_56 vX vR (nI v) FU (nI D.co) (nI 0) vN vG vU r8.1 r8.2 = _ := f8
      have e8 : F_L_passMinutes vX vN vG vU vR vH vHV vO (nI v) = some (nI 0, b3, b4, b5, r8.1, r8.2, vp_updL vO 0 (Int32.toInt64 (nI (passN D v).co - nI D.co))) := by
        simp (disch := omega) only [F_L_passMinutes, F_X8_passMinutes, F_X9_passMinutes, q8, q9, m8.mi, m9.mi, m8.co, m9.co, hv, hv', k9, k8, q_sub, f9', f8', q_lit, q_neg, nI_add, pk_mul, q_sb, q_lt0, q_ck, q_cl, q_le, q_lt, q_eq, q_m1e, q_e1m, q_m1l, e10, e20, e30, e40, e21, e31, e41, e32, e42, e43, eq_self, if_true, if_false, q_cn0, q_cn1, F_X9_fails, F_X9_isFailed, e14, e12, e13, e24, e23, e34]
      have e9 : F_X9_passMinutes vM vnow vearlier (nI v) = some (nI (passN D v).co - nI D.co, r9.1, a3, r9.2) := by
        simp (disch := omega) only [F_L_passMinutes, F_X8_passMinutes, F_X9_passMinutes, q8, q9, m8.mi, m9.mi, m8.co, m9.co, hv, hv', k9, k8, q_sub, f9', f8', q_lit, q_neg, nI_add, pk_mul, q_sb, q_lt0, q_ck, q_cl, q_le, q_lt, q_eq, q_m1e, q_e1m, q_m1l, e10, e20, e30, e40, e21, e31, e41, e32, e42, e43, eq_self, if_true, if_false, q_cn0, q_cn1, F_X9_fails, F_X9_isFailed, e14, e12, e13, e24, e23, e34]
      exact ⟨nI 0, b3, b4, b5, r8.1, r8.2, vp_updL vO 0 (Int32.toInt64 (nI (passN D v).co - nI D.co)), nI (passN D v).co - nI D.co, r9.1, a3, r9.2, e8, e9, hM' 3 (by decide), fun _ => rfl, ⟨passN D v, (okn_passN o v hv).mono hT0 hT, n8, n9, hh'.mono hT0 hT⟩, fun k h0 h3 => (hM' k h0).trans (va_up_ne _ _ h3)⟩
    · have hv' : ¬ v ≤ 720 - D.mi := by omega
      have e8 : F_L_passMinutes vX vN vG vU vR vH vHV vO (nI v) = some (nI 2, vN, vG, vU, vH, vHV, vO) := by
        simp (disch := omega) only [F_L_passMinutes, F_X8_passMinutes, F_X9_passMinutes, q8, q9, m8.mi, m9.mi, hv, hv', q_sub, q_lit, q_neg, nI_add, pk_mul, q_sb, q_lt0, q_ck, q_cl, q_le, q_lt, q_eq, q_m1e, q_e1m, q_m1l, e10, e20, e30, e40, e21, e31, e41, e32, e42, e43, eq_self, if_true, if_false, q_cn0, q_cn1, F_X9_fails, F_X9_isFailed, e14, e12, e13, e24, e23, e34]
      have e9 : F_X9_passMinutes vM vnow vearlier (nI v) = some (nI 0, (va_up (va_up vM.1 3 (nI 0)) 3 (nI 2), vM.2), vnow, vearlier) := by
        simp (disch := omega) only [F_L_passMinutes, F_X8_passMinutes, F_X9_passMinutes, q8, q9, m8.mi, m9.mi, hv, hv', q_sub, q_lit, q_neg, nI_add, pk_mul, q_sb, q_lt0, q_ck, q_cl, q_le, q_lt, q_eq, q_m1e, q_e1m, q_m1l, e10, e20, e30, e40, e21, e31, e41, e32, e42, e43, eq_self, if_true, if_false, q_cn0, q_cn1, F_X9_fails, F_X9_isFailed, e14, e12, e13, e24, e23, e34]
      exact ⟨nI 2, vN, vG, vU, vH, vHV, vO, nI 0, _, vnow, vearlier, e8, e9, rfl, fun h => absurd h (by decide), ⟨D, o.mono hT0 hT, m8, m9, HistOk.mono (HistOk.m (vM := vM) hh rfl) hT0 hT⟩, fun k _ h3 => (va_up_ne _ _ h3).trans (va_up_ne _ _ h3)⟩
  · have e8 : F_L_passMinutes vX vN vG vU vR vH vHV vO x1 = some (nI 1, vN, vG, vU, vH, vHV, vO) := by
      simp (disch := omega) only [F_L_passMinutes, F_X8_passMinutes, F_X9_passMinutes, q8, q9, q_lit, q_neg, nI_add, pk_mul, q_sb, q_lt0, q_ck, q_cl, q_le, q_lt, q_eq, q_m1e, q_e1m, q_m1l, e10, e20, e30, e40, e21, e31, e41, e32, e42, e43, eq_self, if_true, if_false, q_cn0, q_cn1, F_X9_fails, F_X9_isFailed, e14, e12, e13, e24, e23, e34]
    have e9 : F_X9_passMinutes vM vnow vearlier x1 = some (nI 0, (va_up (va_up vM.1 3 (nI 0)) 3 (nI 1), vM.2), vnow, vearlier) := by
      simp (disch := omega) only [F_L_passMinutes, F_X8_passMinutes, F_X9_passMinutes, q8, q9, q_lit, q_neg, nI_add, pk_mul, q_sb, q_lt0, q_ck, q_cl, q_le, q_lt, q_eq, q_m1e, q_e1m, q_m1l, e10, e20, e30, e40, e21, e31, e41, e32, e42, e43, eq_self, if_true, if_false, q_cn0, q_cn1, F_X9_fails, F_X9_isFailed, e14, e12, e13, e24, e23, e34]
    exact ⟨nI 1, vN, vG, vU, vH, vHV, vO, nI 0, _, vnow, vearlier, e8, e9, rfl, fun h => absurd h (by decide), ⟨D, o.mono hT0 hT, m8, m9, HistOk.mono (HistOk.m (vM := vM) hh rfl) hT0 hT⟩, fun k _ h3 => (va_up_ne _ _ h3).trans (va_up_ne _ _ h3)⟩
theorem a_53 {vX : Nat → Int32} {vN : Nat → Int32} {vG : Nat → Nat → Int32} {vU : Nat → Nat → Int32} {vR : Nat → Nat → Int32} {vH : Nat → Int32} {vHV : Nat → NV} {vO : Nat → Int64} {vM : (Nat → Int32) × Int64} {vnow : Nat → Int32} {vearlier : Nat → Int32} {D : Dn} {T : Nat} (m8 : M8 vN vG vU vR D) (m9 : M9 vnow D) (o : OkN T D) (hh : HistOk T vM vearlier vH vHV) (hT : T + 1 ≤ 600) (x1 : Int32) : ∃ (c : Int32) (G' : Nat → Nat → Int32) (H' : Nat → Int32) (HV' : Nat → NV) (O' : Nat → Int64) (b : Int32) (M' : (Nat → Int32) × Int64) (now' : Nat → Int32) (e' : Nat → Int32), F_L_walkDog vX vN vG vU vR vH vHV vO x1 = some (c, G', H', HV', O') ∧ F_X9_walkDog vM vnow vearlier x1 = some (b, M', now', e') ∧ M'.1 3 = c ∧ (c = 0 → O' 0 = Int32.toInt64 b) ∧ StOk (T + 1) vN G' vU vR H' HV' M' now' e' ∧ (∀ k, k ≠ 0 → k ≠ 3 → M'.1 k = vM.1 k) := by
  have hG := o.1.G
  have hU := o.1.U
  have hR0 := o.1.R
  have hm := o.2.2
  have hT0 : T ≤ T + 1 := Nat.le_succ T
  rcases gcase x1 D.G with ⟨g, hg, rfl⟩ | hb
  · have h1 := o.1.ou g hg
    have hwk := o.1.wk g hg
    rcases Nat.le_one_iff_eq_zero_or_eq_one.mp h1 with h | h
    · have e8 : F_L_walkDog vX vN vG vU vR vH vHV vO (nI g) = some (nI 2, vG, vH, vHV, vO) := by
        simp (disch := omega) only [F_L_walkDog, F_X8_walkDog, F_X9_walkDog, u_rG_ok m8 o.1 hg, t_isG_ok m9 o.1 hg, u_isAway m8 o.1 hg, t_away m9 o.1 hg, h, q_lit, q_neg, nI_add, pk_mul, q_sb, q_lt0, q_ck, q_cl, q_le, q_lt, q_eq, q_m1e, q_e1m, q_m1l, e10, e20, e30, e40, e21, e31, e41, e32, e42, e43, eq_self, if_true, if_false, q_cn0, q_cn1, F_X9_fails, F_X9_isFailed, e14, e12, e13, e24, e23, e34]
      have e9 : F_X9_walkDog vM vnow vearlier (nI g) = some (nI 0, (va_up (va_up vM.1 3 (nI 0)) 3 (nI 2), vM.2), vnow, vearlier) := by
        simp (disch := omega) only [F_L_walkDog, F_X8_walkDog, F_X9_walkDog, u_rG_ok m8 o.1 hg, t_isG_ok m9 o.1 hg, u_isAway m8 o.1 hg, t_away m9 o.1 hg, h, q_lit, q_neg, nI_add, pk_mul, q_sb, q_lt0, q_ck, q_cl, q_le, q_lt, q_eq, q_m1e, q_e1m, q_m1l, e10, e20, e30, e40, e21, e31, e41, e32, e42, e43, eq_self, if_true, if_false, q_cn0, q_cn1, F_X9_fails, F_X9_isFailed, e14, e12, e13, e24, e23, e34]
      exact ⟨nI 2, vG, vH, vHV, vO, nI 0, _, vnow, vearlier, e8, e9, rfl, fun h => absurd h (by decide), ⟨D, o.mono hT0 hT, m8, m9, HistOk.mono (HistOk.m (vM := vM) hh rfl) hT0 hT⟩, fun k _ h3 => (va_up_ne _ _ h3).trans (va_up_ne _ _ h3)⟩
    · by_cases hz : D.ba g = 0
      · have e8 : F_L_walkDog vX vN vG vU vR vH vHV vO (nI g) = some (nI 2, vG, vH, vHV, vO) := by
          simp (disch := omega) only [F_L_walkDog, F_X8_walkDog, F_X9_walkDog, u_rG_ok m8 o.1 hg, t_isG_ok m9 o.1 hg, u_isAway m8 o.1 hg, t_away m9 o.1 hg, h, F_X9_guestAt, m8.ba, m9.ba, hz, q_lit, q_neg, nI_add, pk_mul, q_sb, q_lt0, q_ck, q_cl, q_le, q_lt, q_eq, q_m1e, q_e1m, q_m1l, e10, e20, e30, e40, e21, e31, e41, e32, e42, e43, eq_self, if_true, if_false, q_cn0, q_cn1, F_X9_fails, F_X9_isFailed, e14, e12, e13, e24, e23, e34]
        have e9 : F_X9_walkDog vM vnow vearlier (nI g) = some (nI 0, (va_up (va_up vM.1 3 (nI 0)) 3 (nI 2), vM.2), vnow, vearlier) := by
          simp (disch := omega) only [F_L_walkDog, F_X8_walkDog, F_X9_walkDog, u_rG_ok m8 o.1 hg, t_isG_ok m9 o.1 hg, u_isAway m8 o.1 hg, t_away m9 o.1 hg, h, F_X9_guestAt, m8.ba, m9.ba, hz, q_lit, q_neg, nI_add, pk_mul, q_sb, q_lt0, q_ck, q_cl, q_le, q_lt, q_eq, q_m1e, q_e1m, q_m1l, e10, e20, e30, e40, e21, e31, e41, e32, e42, e43, eq_self, if_true, if_false, q_cn0, q_cn1, F_X9_fails, F_X9_isFailed, e14, e12, e13, e24, e23, e34]
        exact ⟨nI 2, vG, vH, vHV, vO, nI 0, _, vnow, vearlier, e8, e9, rfl, fun h => absurd h (by decide), ⟨D, o.mono hT0 hT, m8, m9, HistOk.mono (HistOk.m (vM := vM) hh rfl) hT0 hT⟩, fun k _ h3 => (va_up_ne _ _ h3).trans (va_up_ne _ _ h3)⟩
      · obtain ⟨r9, r8, k9, k8, hh', hM'⟩ := h_keep (vM := (va_up vM.1 3 (nI 0), vM.2)) (hh.m rfl) m8 m9 o
        obtain ⟨l8, f8, g8, n8⟩ := u_walk m8 o.1 hg
        have n9 := m9.s_walk (g := g) (a := D.mi) (b := D.wk g + 1) hG hU hR0 hg (Nat.succ_ne_zero _)
        have hba := o.1.ba g hg
        have u1 : upd vnow (10 + 8 * g + 6) (nI D.mi) (10 + 8 * g + 7) = nI (D.wk g) := by
          rw [up_ne (by omega)]
          exact m9.wk g hg
        have e8 : F_L_walkDog vX vN vG vU vR vH vHV vO (nI g) = some (nI 0, l8.2, r8.1, r8.2, vp_updL vO 0 (Int32.toInt64 (nI (D.wk g + 1)))) := by
          simp (disch := omega) only [F_L_walkDog, F_X8_walkDog, F_X9_walkDog, u_rG_ok m8 o.1 hg, t_isG_ok m9 o.1 hg, u_isAway m8 o.1 hg, t_away m9 o.1 hg, h, F_X9_guestAt, m8.ba, m9.ba, hz, m8.mi, m9.mi, k9, k8, f8, g8, u1, up_eq, q_lit, q_neg, nI_add, pk_mul, q_sb, q_lt0, q_ck, q_cl, q_le, q_lt, q_eq, q_m1e, q_e1m, q_m1l, e10, e20, e30, e40, e21, e31, e41, e32, e42, e43, eq_self, if_true, if_false, q_cn0, q_cn1, F_X9_fails, F_X9_isFailed, e14, e12, e13, e24, e23, e34]
        have e9 : F_X9_walkDog vM vnow vearlier (nI g) = some (nI (D.wk g + 1), r9.1, upd (upd vnow (10 + 8 * g + 6) (nI D.mi)) (10 + 8 * g + 7) (nI (D.wk g + 1)), r9.2) := by
          simp (disch := omega) only [F_L_walkDog, F_X8_walkDog, F_X9_walkDog, u_rG_ok m8 o.1 hg, t_isG_ok m9 o.1 hg, u_isAway m8 o.1 hg, t_away m9 o.1 hg, h, F_X9_guestAt, m8.ba, m9.ba, hz, m8.mi, m9.mi, k9, k8, f8, g8, u1, up_eq, q_lit, q_neg, nI_add, pk_mul, q_sb, q_lt0, q_ck, q_cl, q_le, q_lt, q_eq, q_m1e, q_e1m, q_m1l, e10, e20, e30, e40, e21, e31, e41, e32, e42, e43, eq_self, if_true, if_false, q_cn0, q_cn1, F_X9_fails, F_X9_isFailed, e14, e12, e13, e24, e23, e34]
        exact ⟨nI 0, l8.2, r8.1, r8.2, vp_updL vO 0 (Int32.toInt64 (nI (D.wk g + 1))), nI (D.wk g + 1), r9.1, upd (upd vnow (10 + 8 * g + 6) (nI D.mi)) (10 + 8 * g + 7) (nI (D.wk g + 1)), r9.2, e8, e9, hM' 3 (by decide), fun _ => rfl, ⟨upD (upD D 9 g D.mi) 8 g (D.wk g + 1), okn_walk o hg hT, n8, n9, hh'.mono hT0 hT⟩, fun k h0 h3 => (hM' k h0).trans (va_up_ne _ _ h3)⟩
  · have e8 : F_L_walkDog vX vN vG vU vR vH vHV vO x1 = some (nI 1, vG, vH, vHV, vO) := by
      simp (disch := omega) only [F_L_walkDog, F_X8_walkDog, F_X9_walkDog, u_rG_bad m8 o.1 hb, t_isG_bad m9 o.1 hb, q_lit, q_neg, nI_add, pk_mul, q_sb, q_lt0, q_ck, q_cl, q_le, q_lt, q_eq, q_m1e, q_e1m, q_m1l, e10, e20, e30, e40, e21, e31, e41, e32, e42, e43, eq_self, if_true, if_false, q_cn0, q_cn1, F_X9_fails, F_X9_isFailed, e14, e12, e13, e24, e23, e34]
    have e9 : F_X9_walkDog vM vnow vearlier x1 = some (nI 0, (va_up (va_up vM.1 3 (nI 0)) 3 (nI 1), vM.2), vnow, vearlier) := by
      simp (disch := omega) only [F_L_walkDog, F_X8_walkDog, F_X9_walkDog, u_rG_bad m8 o.1 hb, t_isG_bad m9 o.1 hb, q_lit, q_neg, nI_add, pk_mul, q_sb, q_lt0, q_ck, q_cl, q_le, q_lt, q_eq, q_m1e, q_e1m, q_m1l, e10, e20, e30, e40, e21, e31, e41, e32, e42, e43, eq_self, if_true, if_false, q_cn0, q_cn1, F_X9_fails, F_X9_isFailed, e14, e12, e13, e24, e23, e34]
    exact ⟨nI 1, vG, vH, vHV, vO, nI 0, _, vnow, vearlier, e8, e9, rfl, fun h => absurd h (by decide), ⟨D, o.mono hT0 hT, m8, m9, HistOk.mono (HistOk.m (vM := vM) hh rfl) hT0 hT⟩, fun k _ h3 => (va_up_ne _ _ h3).trans (va_up_ne _ _ h3)⟩
theorem a_54 {vX : Nat → Int32} {vN : Nat → Int32} {vG : Nat → Nat → Int32} {vU : Nat → Nat → Int32} {vR : Nat → Nat → Int32} {vH : Nat → Int32} {vHV : Nat → NV} {vO : Nat → Int64} {vM : (Nat → Int32) × Int64} {vnow : Nat → Int32} {vearlier : Nat → Int32} {D : Dn} {T : Nat} (m8 : M8 vN vG vU vR D) (m9 : M9 vnow D) (o : OkN T D) (hh : HistOk T vM vearlier vH vHV) (hT : T + 1 ≤ 600) (x1 : Int32) : ∃ (c : Int32) (N' : Nat → Int32) (H' : Nat → Int32) (HV' : Nat → NV) (O' : Nat → Int64) (b : Int32) (M' : (Nat → Int32) × Int64) (now' : Nat → Int32) (e' : Nat → Int32), F_L_setRain vX vN vG vU vR vH vHV vO x1 = some (c, N', H', HV', O') ∧ F_X9_setRain vM vnow vearlier x1 = some (b, M', now', e') ∧ M'.1 3 = c ∧ (c = 0 → O' 0 = Int32.toInt64 b) ∧ StOk (T + 1) N' vG vU vR H' HV' M' now' e' ∧ (∀ k, k ≠ 0 → k ≠ 3 → M'.1 k = vM.1 k) := by
  have hG := o.1.G
  have hU := o.1.U
  have hR0 := o.1.R
  have hm := o.2.2
  have hT0 : T ≤ T + 1 := Nat.le_succ T
  rcases rcase x1 0 9 (by omega) (by omega) with ⟨v, hv1, hv2, rfl, q8, q9⟩ | ⟨q8, q9⟩
  · obtain ⟨r9, r8, k9, k8, hh', hM'⟩ := h_keep (vM := (va_up vM.1 3 (nI 0), vM.2)) (hh.m rfl) m8 m9 o
    have n8 := m8.s_ra (v := v)
    have n9 := m9.s_ra (v := v) hG hU hR0
    have on : OkN T (upD D 0 1 v) := ⟨o.1.s_ra hv2, alt_same o.2.1 rfl rfl (fun _ => ⟨rfl, rfl, rfl⟩) (fun _ _ => ⟨rfl, rfl⟩), hm⟩
    have e8 : F_L_setRain vX vN vG vU vR vH vHV vO (nI v) = some (nI 0, va_up vN 1 (nI v), r8.1, r8.2, vp_updL vO 0 (Int32.toInt64 (nI D.ra))) := by
      simp (disch := omega) only [F_L_setRain, F_X8_setRain, F_X9_setRain, q8, q9, F_X9_sets, m8.ra, m9.ra, k9, k8, q_lit, q_neg, nI_add, pk_mul, q_sb, q_lt0, q_ck, q_cl, q_le, q_lt, q_eq, q_m1e, q_e1m, q_m1l, e10, e20, e30, e40, e21, e31, e41, e32, e42, e43, eq_self, if_true, if_false, q_cn0, q_cn1, F_X9_fails, F_X9_isFailed, e14, e12, e13, e24, e23, e34]
    have e9 : F_X9_setRain vM vnow vearlier (nI v) = some (nI D.ra, r9.1, upd vnow 1 (nI v), r9.2) := by
      simp (disch := omega) only [F_L_setRain, F_X8_setRain, F_X9_setRain, q8, q9, F_X9_sets, m8.ra, m9.ra, k9, k8, q_lit, q_neg, nI_add, pk_mul, q_sb, q_lt0, q_ck, q_cl, q_le, q_lt, q_eq, q_m1e, q_e1m, q_m1l, e10, e20, e30, e40, e21, e31, e41, e32, e42, e43, eq_self, if_true, if_false, q_cn0, q_cn1, F_X9_fails, F_X9_isFailed, e14, e12, e13, e24, e23, e34]
    exact ⟨nI 0, va_up vN 1 (nI v), r8.1, r8.2, vp_updL vO 0 (Int32.toInt64 (nI D.ra)), nI D.ra, r9.1, upd vnow 1 (nI v), r9.2, e8, e9, hM' 3 (by decide), fun _ => rfl, ⟨upD D 0 1 v, on.mono hT0 hT, n8, n9, hh'.mono hT0 hT⟩, fun k h0 h3 => (hM' k h0).trans (va_up_ne _ _ h3)⟩
  · have e8 : F_L_setRain vX vN vG vU vR vH vHV vO x1 = some (nI 1, vN, vH, vHV, vO) := by
      simp (disch := omega) only [F_L_setRain, F_X8_setRain, F_X9_setRain, q8, q9, q_lit, q_neg, nI_add, pk_mul, q_sb, q_lt0, q_ck, q_cl, q_le, q_lt, q_eq, q_m1e, q_e1m, q_m1l, e10, e20, e30, e40, e21, e31, e41, e32, e42, e43, eq_self, if_true, if_false, q_cn0, q_cn1, F_X9_fails, F_X9_isFailed, e14, e12, e13, e24, e23, e34]
    have e9 : F_X9_setRain vM vnow vearlier x1 = some (nI 0, (va_up (va_up vM.1 3 (nI 0)) 3 (nI 1), vM.2), vnow, vearlier) := by
      simp (disch := omega) only [F_L_setRain, F_X8_setRain, F_X9_setRain, q8, q9, q_lit, q_neg, nI_add, pk_mul, q_sb, q_lt0, q_ck, q_cl, q_le, q_lt, q_eq, q_m1e, q_e1m, q_m1l, e10, e20, e30, e40, e21, e31, e41, e32, e42, e43, eq_self, if_true, if_false, q_cn0, q_cn1, F_X9_fails, F_X9_isFailed, e14, e12, e13, e24, e23, e34]
    exact ⟨nI 1, vN, vH, vHV, vO, nI 0, _, vnow, vearlier, e8, e9, rfl, fun h => absurd h (by decide), ⟨D, o.mono hT0 hT, m8, m9, HistOk.mono (HistOk.m (vM := vM) hh rfl) hT0 hT⟩, fun k _ h3 => (va_up_ne _ _ h3).trans (va_up_ne _ _ h3)⟩
theorem a_55 {vX : Nat → Int32} {vN : Nat → Int32} {vG : Nat → Nat → Int32} {vU : Nat → Nat → Int32} {vR : Nat → Nat → Int32} {vH : Nat → Int32} {vHV : Nat → NV} {vO : Nat → Int64} {vM : (Nat → Int32) × Int64} {vnow : Nat → Int32} {vearlier : Nat → Int32} {D : Dn} {T : Nat} (m8 : M8 vN vG vU vR D) (m9 : M9 vnow D) (o : OkN T D) (hh : HistOk T vM vearlier vH vHV) (hT : T + 1 ≤ 600) (x1 : Int32) : ∃ (c : Int32) (N' : Nat → Int32) (H' : Nat → Int32) (HV' : Nat → NV) (O' : Nat → Int64) (b : Int32) (M' : (Nat → Int32) × Int64) (now' : Nat → Int32) (e' : Nat → Int32), F_L_setNoiseLimit vX vN vG vU vR vH vHV vO x1 = some (c, N', H', HV', O') ∧ F_X9_setNoiseLimit vM vnow vearlier x1 = some (b, M', now', e') ∧ M'.1 3 = c ∧ (c = 0 → O' 0 = Int32.toInt64 b) ∧ StOk (T + 1) N' vG vU vR H' HV' M' now' e' ∧ (∀ k, k ≠ 0 → k ≠ 3 → M'.1 k = vM.1 k) := by
  have hG := o.1.G
  have hU := o.1.U
  have hR0 := o.1.R
  have hm := o.2.2
  have hT0 : T ≤ T + 1 := Nat.le_succ T
  rcases rcase x1 0 999 (by omega) (by omega) with ⟨v, hv1, hv2, rfl, q8, q9⟩ | ⟨q8, q9⟩
  · obtain ⟨r9, r8, k9, k8, hh', hM'⟩ := h_keep (vM := (va_up vM.1 3 (nI 0), vM.2)) (hh.m rfl) m8 m9 o
    have n8 := m8.s_li (v := v)
    have n9 := m9.s_li (v := v) hG hU hR0
    have on : OkN T (upD D 0 2 v) := ⟨o.1.s_li hv2, alt_same o.2.1 rfl rfl (fun _ => ⟨rfl, rfl, rfl⟩) (fun _ _ => ⟨rfl, rfl⟩), hm⟩
    have e8 : F_L_setNoiseLimit vX vN vG vU vR vH vHV vO (nI v) = some (nI 0, va_up vN 2 (nI v), r8.1, r8.2, vp_updL vO 0 (Int32.toInt64 (nI D.li))) := by
      simp (disch := omega) only [F_L_setNoiseLimit, F_X8_setNoiseLimit, F_X9_setNoiseLimit, q8, q9, F_X9_sets, m8.li, m9.li, k9, k8, q_lit, q_neg, nI_add, pk_mul, q_sb, q_lt0, q_ck, q_cl, q_le, q_lt, q_eq, q_m1e, q_e1m, q_m1l, e10, e20, e30, e40, e21, e31, e41, e32, e42, e43, eq_self, if_true, if_false, q_cn0, q_cn1, F_X9_fails, F_X9_isFailed, e14, e12, e13, e24, e23, e34]
    have e9 : F_X9_setNoiseLimit vM vnow vearlier (nI v) = some (nI D.li, r9.1, upd vnow 2 (nI v), r9.2) := by
      simp (disch := omega) only [F_L_setNoiseLimit, F_X8_setNoiseLimit, F_X9_setNoiseLimit, q8, q9, F_X9_sets, m8.li, m9.li, k9, k8, q_lit, q_neg, nI_add, pk_mul, q_sb, q_lt0, q_ck, q_cl, q_le, q_lt, q_eq, q_m1e, q_e1m, q_m1l, e10, e20, e30, e40, e21, e31, e41, e32, e42, e43, eq_self, if_true, if_false, q_cn0, q_cn1, F_X9_fails, F_X9_isFailed, e14, e12, e13, e24, e23, e34]
    exact ⟨nI 0, va_up vN 2 (nI v), r8.1, r8.2, vp_updL vO 0 (Int32.toInt64 (nI D.li)), nI D.li, r9.1, upd vnow 2 (nI v), r9.2, e8, e9, hM' 3 (by decide), fun _ => rfl, ⟨upD D 0 2 v, on.mono hT0 hT, n8, n9, hh'.mono hT0 hT⟩, fun k h0 h3 => (hM' k h0).trans (va_up_ne _ _ h3)⟩
  · have e8 : F_L_setNoiseLimit vX vN vG vU vR vH vHV vO x1 = some (nI 1, vN, vH, vHV, vO) := by
      simp (disch := omega) only [F_L_setNoiseLimit, F_X8_setNoiseLimit, F_X9_setNoiseLimit, q8, q9, q_lit, q_neg, nI_add, pk_mul, q_sb, q_lt0, q_ck, q_cl, q_le, q_lt, q_eq, q_m1e, q_e1m, q_m1l, e10, e20, e30, e40, e21, e31, e41, e32, e42, e43, eq_self, if_true, if_false, q_cn0, q_cn1, F_X9_fails, F_X9_isFailed, e14, e12, e13, e24, e23, e34]
    have e9 : F_X9_setNoiseLimit vM vnow vearlier x1 = some (nI 0, (va_up (va_up vM.1 3 (nI 0)) 3 (nI 1), vM.2), vnow, vearlier) := by
      simp (disch := omega) only [F_L_setNoiseLimit, F_X8_setNoiseLimit, F_X9_setNoiseLimit, q8, q9, q_lit, q_neg, nI_add, pk_mul, q_sb, q_lt0, q_ck, q_cl, q_le, q_lt, q_eq, q_m1e, q_e1m, q_m1l, e10, e20, e30, e40, e21, e31, e41, e32, e42, e43, eq_self, if_true, if_false, q_cn0, q_cn1, F_X9_fails, F_X9_isFailed, e14, e12, e13, e24, e23, e34]
    exact ⟨nI 1, vN, vH, vHV, vO, nI 0, _, vnow, vearlier, e8, e9, rfl, fun h => absurd h (by decide), ⟨D, o.mono hT0 hT, m8, m9, HistOk.mono (HistOk.m (vM := vM) hh rfl) hT0 hT⟩, fun k _ h3 => (va_up_ne _ _ h3).trans (va_up_ne _ _ h3)⟩
theorem a_49 {vX : Nat → Int32} {vN : Nat → Int32} {vG : Nat → Nat → Int32} {vU : Nat → Nat → Int32} {vR : Nat → Nat → Int32} {vH : Nat → Int32} {vHV : Nat → NV} {vO : Nat → Int64} {vM : (Nat → Int32) × Int64} {vnow : Nat → Int32} {vearlier : Nat → Int32} {D : Dn} {T : Nat} (m8 : M8 vN vG vU vR D) (m9 : M9 vnow D) (o : OkN T D) (hh : HistOk T vM vearlier vH vHV) (hT : T + 1 ≤ 600) (x1 : Int32) (x2 : Int32) : ∃ (c : Int32) (U' : Nat → Nat → Int32) (H' : Nat → Int32) (HV' : Nat → NV) (O' : Nat → Int64) (b : Int32) (M' : (Nat → Int32) × Int64) (now' : Nat → Int32) (e' : Nat → Int32), F_L_addUmbrella vX vN vG vU vR vH vHV vO x1 x2 = some (c, U', H', HV', O') ∧ F_X9_addUmbrella vM vnow vearlier x1 x2 = some (b, M', now', e') ∧ M'.1 3 = c ∧ (c = 0 → O' 0 = Int32.toInt64 b) ∧ StOk (T + 1) vN vG U' vR H' HV' M' now' e' ∧ (∀ k, k ≠ 0 → k ≠ 3 → M'.1 k = vM.1 k) := by
  have hG := o.1.G
  have hU := o.1.U
  have hR0 := o.1.R
  have hm := o.2.2
  have hT0 : T ≤ T + 1 := Nat.le_succ T
  rcases gcase x1 D.G with ⟨g, hg, rfl⟩ | hb
  · rcases rcase x2 0 99 (by omega) (by omega) with ⟨v, hv1, hv2, rfl, q8, q9⟩ | ⟨q8, q9⟩
    · by_cases hU2 : D.U < 12
      · have hUn : ¬ D.U = 12 := by omega
        obtain ⟨r9, r8, k9, k8, hh', hM'⟩ := h_keep (vM := (va_up vM.1 3 (nI 0), vM.2)) (hh.m rfl) m8 m9 o
        obtain ⟨l9, f9, g9, n9⟩ := t_addU (a := g) (b := v) m9 o.1 hU2
        obtain ⟨l8, f8, g8, n8⟩ := u_addU (a := g) (b := v) m8 o.1 hU2
        have on := okn_addU o hU2 hg hv2
        have e8 : F_L_addUmbrella vX vN vG vU vR vH vHV vO (nI g) (nI v) = some (nI 0, l8.2, r8.1, r8.2, vp_updL vO 0 (Int32.toInt64 (nI D.U))) := by
          simp (disch := omega) only [F_L_addUmbrella, F_X8_addUmbrella, F_X9_addUmbrella, u_rG_ok m8 o.1 hg, t_isG_ok m9 o.1 hg, q8, q9, m8.U, m9.U, hU2, hUn, k9, k8, f9, g9, f8, g8, q_lit, q_neg, nI_add, pk_mul, q_sb, q_lt0, q_ck, q_cl, q_le, q_lt, q_eq, q_m1e, q_e1m, q_m1l, e10, e20, e30, e40, e21, e31, e41, e32, e42, e43, eq_self, if_true, if_false, q_cn0, q_cn1, F_X9_fails, F_X9_isFailed, e14, e12, e13, e24, e23, e34]
        have e9 : F_X9_addUmbrella vM vnow vearlier (nI g) (nI v) = some (nI D.U, r9.1, l9.2, r9.2) := by
          simp (disch := omega) only [F_L_addUmbrella, F_X8_addUmbrella, F_X9_addUmbrella, u_rG_ok m8 o.1 hg, t_isG_ok m9 o.1 hg, q8, q9, m8.U, m9.U, hU2, hUn, k9, k8, f9, g9, f8, g8, q_lit, q_neg, nI_add, pk_mul, q_sb, q_lt0, q_ck, q_cl, q_le, q_lt, q_eq, q_m1e, q_e1m, q_m1l, e10, e20, e30, e40, e21, e31, e41, e32, e42, e43, eq_self, if_true, if_false, q_cn0, q_cn1, F_X9_fails, F_X9_isFailed, e14, e12, e13, e24, e23, e34]
        exact ⟨nI 0, l8.2, r8.1, r8.2, vp_updL vO 0 (Int32.toInt64 (nI D.U)), nI D.U, r9.1, l9.2, r9.2, e8, e9, hM' 3 (by decide), fun _ => rfl, ⟨_, on.mono hT0 hT, n8, n9, hh'.mono hT0 hT⟩, fun k h0 h3 => (hM' k h0).trans (va_up_ne _ _ h3)⟩
      · have hUn : D.U = 12 := by omega
        have e8 : F_L_addUmbrella vX vN vG vU vR vH vHV vO (nI g) (nI v) = some (nI 3, vU, vH, vHV, vO) := by
          simp (disch := omega) only [F_L_addUmbrella, F_X8_addUmbrella, F_X9_addUmbrella, u_rG_ok m8 o.1 hg, t_isG_ok m9 o.1 hg, q8, q9, m8.U, m9.U, hUn, Nat.lt_irrefl, q_lit, q_neg, nI_add, pk_mul, q_sb, q_lt0, q_ck, q_cl, q_le, q_lt, q_eq, q_m1e, q_e1m, q_m1l, e10, e20, e30, e40, e21, e31, e41, e32, e42, e43, eq_self, if_true, if_false, q_cn0, q_cn1, F_X9_fails, F_X9_isFailed, e14, e12, e13, e24, e23, e34]
        have e9 : F_X9_addUmbrella vM vnow vearlier (nI g) (nI v) = some (nI 0, (va_up (va_up vM.1 3 (nI 0)) 3 (nI 3), vM.2), vnow, vearlier) := by
          simp (disch := omega) only [F_L_addUmbrella, F_X8_addUmbrella, F_X9_addUmbrella, u_rG_ok m8 o.1 hg, t_isG_ok m9 o.1 hg, q8, q9, m8.U, m9.U, hUn, Nat.lt_irrefl, q_lit, q_neg, nI_add, pk_mul, q_sb, q_lt0, q_ck, q_cl, q_le, q_lt, q_eq, q_m1e, q_e1m, q_m1l, e10, e20, e30, e40, e21, e31, e41, e32, e42, e43, eq_self, if_true, if_false, q_cn0, q_cn1, F_X9_fails, F_X9_isFailed, e14, e12, e13, e24, e23, e34]
        exact ⟨nI 3, vU, vH, vHV, vO, nI 0, _, vnow, vearlier, e8, e9, rfl, fun h => absurd h (by decide), ⟨D, o.mono hT0 hT, m8, m9, HistOk.mono (HistOk.m (vM := vM) hh rfl) hT0 hT⟩, fun k _ h3 => (va_up_ne _ _ h3).trans (va_up_ne _ _ h3)⟩
    · have e8 : F_L_addUmbrella vX vN vG vU vR vH vHV vO (nI g) x2 = some (nI 2, vU, vH, vHV, vO) := by
        simp (disch := omega) only [F_L_addUmbrella, F_X8_addUmbrella, F_X9_addUmbrella, u_rG_ok m8 o.1 hg, t_isG_ok m9 o.1 hg, q8, q9, q_lit, q_neg, nI_add, pk_mul, q_sb, q_lt0, q_ck, q_cl, q_le, q_lt, q_eq, q_m1e, q_e1m, q_m1l, e10, e20, e30, e40, e21, e31, e41, e32, e42, e43, eq_self, if_true, if_false, q_cn0, q_cn1, F_X9_fails, F_X9_isFailed, e14, e12, e13, e24, e23, e34]
      have e9 : F_X9_addUmbrella vM vnow vearlier (nI g) x2 = some (nI 0, (va_up (va_up vM.1 3 (nI 0)) 3 (nI 2), vM.2), vnow, vearlier) := by
        simp (disch := omega) only [F_L_addUmbrella, F_X8_addUmbrella, F_X9_addUmbrella, u_rG_ok m8 o.1 hg, t_isG_ok m9 o.1 hg, q8, q9, q_lit, q_neg, nI_add, pk_mul, q_sb, q_lt0, q_ck, q_cl, q_le, q_lt, q_eq, q_m1e, q_e1m, q_m1l, e10, e20, e30, e40, e21, e31, e41, e32, e42, e43, eq_self, if_true, if_false, q_cn0, q_cn1, F_X9_fails, F_X9_isFailed, e14, e12, e13, e24, e23, e34]
      exact ⟨nI 2, vU, vH, vHV, vO, nI 0, _, vnow, vearlier, e8, e9, rfl, fun h => absurd h (by decide), ⟨D, o.mono hT0 hT, m8, m9, HistOk.mono (HistOk.m (vM := vM) hh rfl) hT0 hT⟩, fun k _ h3 => (va_up_ne _ _ h3).trans (va_up_ne _ _ h3)⟩
  · have e8 : F_L_addUmbrella vX vN vG vU vR vH vHV vO x1 x2 = some (nI 1, vU, vH, vHV, vO) := by
      simp (disch := omega) only [F_L_addUmbrella, F_X8_addUmbrella, F_X9_addUmbrella, u_rG_bad m8 o.1 hb, t_isG_bad m9 o.1 hb, q_lit, q_neg, nI_add, pk_mul, q_sb, q_lt0, q_ck, q_cl, q_le, q_lt, q_eq, q_m1e, q_e1m, q_m1l, e10, e20, e30, e40, e21, e31, e41, e32, e42, e43, eq_self, if_true, if_false, q_cn0, q_cn1, F_X9_fails, F_X9_isFailed, e14, e12, e13, e24, e23, e34]
    have e9 : F_X9_addUmbrella vM vnow vearlier x1 x2 = some (nI 0, (va_up (va_up vM.1 3 (nI 0)) 3 (nI 1), vM.2), vnow, vearlier) := by
      simp (disch := omega) only [F_L_addUmbrella, F_X8_addUmbrella, F_X9_addUmbrella, u_rG_bad m8 o.1 hb, t_isG_bad m9 o.1 hb, q_lit, q_neg, nI_add, pk_mul, q_sb, q_lt0, q_ck, q_cl, q_le, q_lt, q_eq, q_m1e, q_e1m, q_m1l, e10, e20, e30, e40, e21, e31, e41, e32, e42, e43, eq_self, if_true, if_false, q_cn0, q_cn1, F_X9_fails, F_X9_isFailed, e14, e12, e13, e24, e23, e34]
    exact ⟨nI 1, vU, vH, vHV, vO, nI 0, _, vnow, vearlier, e8, e9, rfl, fun h => absurd h (by decide), ⟨D, o.mono hT0 hT, m8, m9, HistOk.mono (HistOk.m (vM := vM) hh rfl) hT0 hT⟩, fun k _ h3 => (va_up_ne _ _ h3).trans (va_up_ne _ _ h3)⟩
