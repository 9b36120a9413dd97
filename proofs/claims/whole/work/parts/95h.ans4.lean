/-! many minutes ahead, undo, snapshots, a guest's name -/
theorem a_47 {vX vN : Nat → Int32} {vG vU vR : Nat → Nat → Int32} {vM : (Nat → Int32) × Int64} {vnow vspare : Nat → Int32} {vO : Nat → Int64} {D : Dn} {T : Nat} (m8 : M8 vN vG vU vR D) (m9 : M9 vnow D) (o : OkN T D) (x1 : Int32) : ∃ (c : Int32) (O' : Nat → Int64) (b : Int32) (M' : (Nat → Int32) × Int64) (s' : Nat → Int32), F_L_complaintsAfter vX vN vG vO x1 = some (c, O') ∧ F_X9_complaintsAfter vM vnow vspare x1 = some (b, M', s') ∧ M'.1 3 = c ∧ (c = 0 → O' 0 = Int32.toInt64 b) ∧ ∀ k, k ≠ 3 → M'.1 k = vM.1 k := by
  rcases rcase x1 0 240 (by omega) (by omega) with ⟨v, hv1, hv2, rfl, q8, q9⟩ | ⟨q8, q9⟩
  · obtain ⟨w1, f1, m1'⟩ := t_spare (vM := (va_up vM.1 3 0, vM.2)) (s := vspare) m9 o.1
    obtain ⟨r, f2, g1, g2⟩ := t_many (vnow := vnow) (vM := (va_up vM.1 3 0, vM.2)) m1' o hv2
    obtain ⟨a1, a2, a3⟩ := r
    dsimp only at g1 g2
    subst g1 g2
    have f3 := u_fore m8 o hv2
    have e8 : F_L_complaintsAfter vX vN vG vO (nI v) = some (nI 0, vp_updL vO 0 (Int32.toInt64 (nI (passN D v).co))) := by
      simp (disch := omega) only [F_L_complaintsAfter, F_X8_complaintsAfter, q8, f3, q_lit, q_neg, nI_add, pk_mul, q_sb, q_lt0, q_ck, q_cl, q_le, q_lt, q_eq, q_m1e, q_e1m, q_m1l, e10, e20, e30, e40, e21, e31, e41, e32, e42, e43, eq_self, if_true, if_false, q_cn0, q_cn1, F_X9_fails, F_X9_isFailed, e14, e12, e13, e24, e23, e34]
    have e9 : F_X9_complaintsAfter vM vnow vspare (nI v) = some (nI (passN D v).co, (va_up vM.1 3 0, vM.2), a3) := by
      unfold F_X9_complaintsAfter
      rw [q_lt0, show F_X9_in (nI v) 0 240 = some (nI 1) from q9, q_sb, if_neg (show ¬ nI 1 = (0 : Int32) by decide), f1, q_sb]
      exact f2
    exact ⟨nI 0, _, _, _, a3, e8, e9, rfl, fun _ => rfl, fun _ hk => va_up_ne _ _ hk⟩
  · have e8 : F_L_complaintsAfter vX vN vG vO x1 = some (nI 1, vO) := by
      simp (disch := omega) only [F_L_complaintsAfter, F_X8_complaintsAfter, q8, q_lit, q_neg, nI_add, pk_mul, q_sb, q_lt0, q_ck, q_cl, q_le, q_lt, q_eq, q_m1e, q_e1m, q_m1l, e10, e20, e30, e40, e21, e31, e41, e32, e42, e43, eq_self, if_true, if_false, q_cn0, q_cn1, F_X9_fails, F_X9_isFailed, e14, e12, e13, e24, e23, e34]
    have e9 : F_X9_complaintsAfter vM vnow vspare x1 = some (nI 0, (va_up (va_up vM.1 3 (nI 0)) 3 (nI 1), vM.2), vspare) := by
      simp (disch := omega) only [F_X9_complaintsAfter, q9, q_lit, q_neg, nI_add, pk_mul, q_sb, q_lt0, q_ck, q_cl, q_le, q_lt, q_eq, q_m1e, q_e1m, q_m1l, e10, e20, e30, e40, e21, e31, e41, e32, e42, e43, eq_self, if_true, if_false, q_cn0, q_cn1, F_X9_fails, F_X9_isFailed, e14, e12, e13, e24, e23, e34]
    exact ⟨nI 1, vO, _, _, vspare, e8, e9, rfl, fun h => absurd h (by decide), fun _ h3 => (va_up_ne _ _ h3).trans (va_up_ne _ _ h3)⟩
theorem q_mod8 {a : Nat} (h : a < 1000) : nI a - nI (a / 8 * 8) = nI (a % 8) := by
  have hd : a / 8 * 8 ≤ a := Nat.div_mul_le_self _ _
  rw [q_sub hd]
  exact congrArg nI (by omega)
theorem u_back {vN vH : Nat → Int32} {vG vU vR : Nat → Nat → Int32} {vHV : Nat → NV} {E : Dn} {T n q : Nat} (hq : q < 8) (hn : 0 < n) (hn8 : n ≤ 8) (h0 : vH 0 = nI q) (h1 : vH 1 = nI n) (mE : M8v (vHV ((q + 7) % 8)) E) (oE : OkD T E) : ∃ r, F_X2_takeBack vN vG vU vR vH vHV = some r ∧ M8 r.1 r.2.1 r.2.2.1 r.2.2.2.1 E ∧ r.2.2.2.2 = va_up (va_up vH 0 (nI ((q + 7) % 8))) 1 (nI (n - 1)) := by
  obtain ⟨u, e1, e2⟩ := u_copy (vN := vN) (vG := vG) (vU := vU) (vR := vR) mE oE
  refine ⟨(u.1, u.2.1, u.2.2.1, u.2.2.2, va_up (va_up vH 0 (nI ((q + 7) % 8))) 1 (nI (n - 1))), ?_, e2, rfl⟩
  have h2 : va_up vH 0 (nI ((q + 7) % 8)) 1 = nI n := h1
  have h3 : va_up (va_up vH 0 (nI ((q + 7) % 8))) 1 (nI (n - 1)) 0 = nI ((q + 7) % 8) := rfl
  have h4 : q + 8 - 1 = q + 7 := by omega
  simp (disch := omega) only [F_X2_takeBack, q_lit, nI_add, q_lt0, h0, q_sub, h4, q_div, pk_mul]
  have hd : (q + 7) / 8 * 8 ≤ q + 7 := Nat.div_mul_le_self _ _
  have hm : q + 7 - (q + 7) / 8 * 8 = (q + 7) % 8 := by omega
  simp (disch := omega) only [q_sub, hm, h2, h3, q_ck, q_cl, e1, q_sb]
theorem a_56 {vX vN vH : Nat → Int32} {vG vU vR : Nat → Nat → Int32} {vHV : Nat → NV} {vO : Nat → Int64} {vM : (Nat → Int32) × Int64} {vnow vearlier : Nat → Int32} {D : Dn} {T : Nat} (m8 : M8 vN vG vU vR D) (m9 : M9 vnow D) (o : OkN T D) (hh : HistOk T vM vearlier vH vHV) (hT : T + 1 ≤ 600) : ∃ (c : Int32) (N' : Nat → Int32) (G' : Nat → Nat → Int32) (U' : Nat → Nat → Int32) (R' : Nat → Nat → Int32) (H' : Nat → Int32) (O' : Nat → Int64) (b : Int32) (M' : (Nat → Int32) × Int64) (now' : Nat → Int32), F_L_undo vX vN vG vU vR vH vHV vO = some (c, N', G', U', R', H', O') ∧ F_X9_undo vM vnow vearlier = some (b, M', now') ∧ M'.1 3 = c ∧ (c = 0 → O' 0 = Int32.toInt64 b) ∧ StOk (T + 1) N' G' U' R' H' vHV M' now' vearlier ∧ ∀ k, k ≠ 0 → k ≠ 3 → M'.1 k = vM.1 k := by
  have hT0 : T ≤ T + 1 := Nat.le_succ T
  obtain ⟨n, q, Hs, hn, hq, h0, h1, h2, hH⟩ := hh
  have h0' : va_up vM.1 3 (nI 0) 0 = nI n := h0
  by_cases hz : n = 0
  · have e8 : F_L_undo vX vN vG vU vR vH vHV vO = some (nI 1, vN, vG, vU, vR, vH, vO) := by
      simp (disch := omega) only [F_L_undo, F_X8_undo, h2, hz, q_lit, q_neg, nI_add, pk_mul, q_sb, q_lt0, q_ck, q_cl, q_le, q_lt, q_eq, q_m1e, q_e1m, q_m1l, e10, e20, e30, e40, e21, e31, e41, e32, e42, e43, eq_self, if_true, if_false, q_cn0, q_cn1, F_X9_fails, F_X9_isFailed, e14, e12, e13, e24, e23, e34]
    have e9 : F_X9_undo vM vnow vearlier = some (nI 0, (va_up (va_up vM.1 3 (nI 0)) 3 (nI 1), vM.2), vnow) := by
      simp (disch := omega) only [F_X9_undo, h0', hz, q_lit, q_neg, nI_add, pk_mul, q_sb, q_lt0, q_ck, q_cl, q_le, q_lt, q_eq, q_m1e, q_e1m, q_m1l, e10, e20, e30, e40, e21, e31, e41, e32, e42, e43, eq_self, if_true, if_false, q_cn0, q_cn1, F_X9_fails, F_X9_isFailed, e14, e12, e13, e24, e23, e34]
    exact ⟨nI 1, vN, vG, vU, vR, vH, vO, nI 0, _, vnow, e8, e9, rfl, fun h => absurd h (by decide), ⟨D, o.mono hT0 hT, m8, m9, HistOk.mono ⟨n, q, Hs, hn, hq, h0, h1, h2, hH⟩ hT0 hT⟩, fun k _ h3 => (va_up_ne _ _ h3).trans (va_up_ne _ _ h3)⟩
  · obtain ⟨oE, mE9, mE8⟩ := hH (n - 1) (by omega)
    rw [show (q + 8 - n + (n - 1)) % 8 = (q + 7) % 8 by omega] at mE8
    obtain ⟨r8, f8, n8, g8⟩ := u_back (vN := vN) (vG := vG) (vU := vU) (vR := vR) hq (by omega) hn h1 h2 mE8 oE.1
    obtain ⟨r9, f9, g9⟩ := lay_r (nS := 2448) (nT := 306) (b := 306 * (n - 1)) (p := 0) (vS := vearlier) (vT := vnow) (by omega) (by omega) (by omega) (by omega)
    have n9 : M9 r9 (Hs (n - 1)) := mE9.cong oE.1.G oE.1.U oE.1.R fun i hi => by
      rw [g9, if_pos (by omega)]
      exact congrArg vearlier (by omega)
    have hz' : ¬ nI n = nI 0 := by rw [q_eq (by omega) (by omega)]; exact hz
    have u1 : (va_up (va_up vH 0 (nI ((q + 7) % 8))) 1 (nI (n - 1))) 1 = nI (n - 1) := rfl
    have u0 : va_up (va_up vM.1 3 (nI 0)) 0 (nI (n - 1)) 0 = nI (n - 1) := rfl
    have e8 : F_L_undo vX vN vG vU vR vH vHV vO = some (nI 0, r8.1, r8.2.1, r8.2.2.1, r8.2.2.2.1, va_up (va_up vH 0 (nI ((q + 7) % 8))) 1 (nI (n - 1)), vp_updL vO 0 (Int32.toInt64 (nI (n - 1)))) := by
      simp (disch := omega) only [F_L_undo, F_X8_undo, h2, hz, f8, g8, u1, q_lit, q_neg, nI_add, pk_mul, q_sb, q_lt0, q_ck, q_cl, q_le, q_lt, q_eq, q_m1e, q_e1m, q_m1l, e10, e20, e30, e40, e21, e31, e41, e32, e42, e43, eq_self, if_true, if_false, q_cn0, q_cn1, F_X9_fails, F_X9_isFailed, e14, e12, e13, e24, e23, e34]
    have e9 : F_X9_undo vM vnow vearlier = some (nI (n - 1), (va_up (va_up vM.1 3 (nI 0)) 0 (nI (n - 1)), vM.2), r9) := by
      simp (disch := omega) only [F_X9_undo, h0', hz, q_sub, u0, f9, q_lit, q_neg, nI_add, pk_mul, q_sb, q_lt0, q_ck, q_cl, q_le, q_lt, q_eq, q_m1e, q_e1m, q_m1l, e10, e20, e30, e40, e21, e31, e41, e32, e42, e43, eq_self, if_true, if_false, q_cn0, q_cn1, F_X9_fails, F_X9_isFailed, e14, e12, e13, e24, e23, e34]
    refine ⟨nI 0, _, _, _, _, _, _, _, _, _, e8, e9, rfl, fun _ => rfl, ⟨Hs (n - 1), oE.mono hT0 hT, n8, n9, HistOk.mono ⟨n - 1, (q + 7) % 8, Hs, by omega, by omega, rfl, rfl, rfl, fun j hj => ?_⟩ hT0 hT⟩, fun k hk0 h3 => (va_up_ne _ _ hk0).trans (va_up_ne _ _ h3)⟩
    obtain ⟨a, b, c⟩ := hH j (by omega)
    refine ⟨a, b, ?_⟩
    rw [show ((q + 7) % 8 + 8 - (n - 1) + j) % 8 = (q + 8 - n + j) % 8 by omega]
    exact c
theorem scase (x : Int32) : (∃ s, s < 2 ∧ x = nI s ∧ F_X8_requireSlot x = some 0 ∧ F_X9_in x (nI 0) (nI 1) = some (nI 1)) ∨ (F_X8_requireSlot x = some 4 ∧ F_X9_in x (nI 0) (nI 1) = some (nI 0)) := by
  rcases gcase x 2 with ⟨s, hs, rfl⟩ | hb
  · left
    refine ⟨s, hs, rfl, ?_, ?_⟩
    · simp (disch := omega) only [F_X8_requireSlot, q_lit, q_lt, hs, Nat.not_lt_zero, if_false, if_true]
    · have c1 : ¬ 1 < s := by omega
      simp (disch := omega) only [F_X9_in, q_lit, q_lt, c1, Nat.not_lt_zero, if_false]
  · right
    rcases hb with h | ⟨n, h1, h2, rfl⟩
    · exact ⟨if_pos h, if_pos h⟩
    · have c1 : 1 < n := by omega
      have c2 : ¬ n < 2 := by omega
      constructor
      · simp (disch := omega) only [F_X8_requireSlot, q_lit, q_lt, c2, Nat.not_lt_zero, if_false]
      · simp (disch := omega) only [F_X9_in, q_lit, q_lt, c1, Nat.not_lt_zero, if_false, if_true]
def SnapOk (T : Nat) (vQF : Nat → Int32) (vQV : Nat → NV) (visKept vslots : Nat → Int32) : Prop := ∀ s, s < 2 → (vQF s = nI 0 ∧ visKept s = nI 0) ∨ (vQF s = nI 1 ∧ visKept s = nI 1 ∧ ∃ E, OkN T E ∧ M9 (rw9 vslots s) E ∧ M8v (vQV s) E)
theorem SnapOk.mono {T T' : Nat} {vQF : Nat → Int32} {vQV : Nat → NV} {visKept vslots : Nat → Int32} (h : SnapOk T vQF vQV visKept vslots) (hT : T ≤ T') (hT' : T' ≤ 600) : SnapOk T' vQF vQV visKept vslots := fun s hs => by
  rcases h s hs with a | ⟨a, b, E, c, d⟩
  · exact Or.inl a
  · exact Or.inr ⟨a, b, E, c.mono hT hT', d⟩
theorem a_57 {vX vN vQF : Nat → Int32} {vG vU vR : Nat → Nat → Int32} {vQV : Nat → NV} {vO : Nat → Int64} {vM : (Nat → Int32) × Int64} {vnow vslots visKept : Nat → Int32} {D : Dn} {T : Nat} (m8 : M8 vN vG vU vR D) (m9 : M9 vnow D) (o : OkN T D) (hs : SnapOk T vQF vQV visKept vslots) (hT : T + 1 ≤ 600) (x1 : Int32) : ∃ (c : Int32) (QF' : Nat → Int32) (QV' : Nat → NV) (O' : Nat → Int64) (b : Int32) (M' : (Nat → Int32) × Int64) (sl' ik' : Nat → Int32), F_L_saveSnapshot vX vN vG vU vR vQF vQV vO x1 = some (c, QF', QV', O') ∧ F_X9_saveSnapshot vM vnow vslots visKept x1 = some (b, M', sl', ik') ∧ M'.1 3 = c ∧ (c = 0 → O' 0 = Int32.toInt64 b) ∧ SnapOk (T + 1) QF' QV' ik' sl' ∧ ∀ k, k ≠ 3 → M'.1 k = vM.1 k := by
  have hT0 : T ≤ T + 1 := Nat.le_succ T
  rcases scase x1 with ⟨s, hs2, rfl, q8, q9⟩ | ⟨q8, q9⟩
  · obtain ⟨u, f8, n8⟩ := u_copyr (vN := (vQV s).1) (vG := (vQV s).2.1) (vU := (vQV s).2.2.1) (vR := (vQV s).2.2.2) m8 o.1
    obtain ⟨r9, f9, g9⟩ := lay_d (nS := 306) (nT := 612) (b := 0) (p := 306 * s) (vS := vnow) (vT := vslots) (by omega) (by omega) (by omega) (by omega)
    have e8 : F_L_saveSnapshot vX vN vG vU vR vQF vQV vO (nI s) = some (nI 0, upd vQF s (nI 1), va_up vQV s (u.1, u.2.1, u.2.2.1, u.2.2.2), vp_updL vO 0 (Int32.toInt64 (nI D.mi))) := by
      simp (disch := omega) only [F_L_saveSnapshot, F_X8_saveSnapshot, F_X6_put, q8, f8, m8.mi, q_lit, q_neg, nI_add, pk_mul, q_sb, q_lt0, q_ck, q_cl, q_le, q_lt, q_eq, q_m1e, q_e1m, q_m1l, e10, e20, e30, e40, e21, e31, e41, e32, e42, e43, eq_self, if_true, if_false, q_cn0, q_cn1, F_X9_fails, F_X9_isFailed, e14, e12, e13, e24, e23, e34]
    have e9 : F_X9_saveSnapshot vM vnow vslots visKept (nI s) = some (nI D.mi, (va_up vM.1 3 (nI 0), vM.2), r9, upd visKept s (nI 1)) := by
      simp (disch := omega) only [F_X9_saveSnapshot, q9, f9, m9.mi, q_lit, q_neg, nI_add, pk_mul, q_sb, q_lt0, q_ck, q_cl, q_le, q_lt, q_eq, q_m1e, q_e1m, q_m1l, e10, e20, e30, e40, e21, e31, e41, e32, e42, e43, eq_self, if_true, if_false, q_cn0, q_cn1, F_X9_fails, F_X9_isFailed, e14, e12, e13, e24, e23, e34]
    refine ⟨nI 0, _, _, _, _, _, _, _, e8, e9, rfl, fun _ => rfl, fun t ht => ?_, fun _ hk => va_up_ne _ _ hk⟩
    by_cases c : t = s
    · subst c
      refine Or.inr ⟨up_eq, up_eq, D, o.mono hT0 hT, m9.cong o.1.G o.1.U o.1.R fun i hi => ?_, ?_⟩
      · show r9 (306 * t + i) = vnow i
        rw [g9, if_pos (by omega)]
        exact congrArg vnow (by omega)
      · rw [va_eq]
        exact n8
    · rw [up_ne c, up_ne c]
      rcases hs t ht with a | ⟨a, b, E, oE, m1, m2⟩
      · exact Or.inl a
      · refine Or.inr ⟨a, b, E, oE.mono hT0 hT, m1.cong oE.1.G oE.1.U oE.1.R fun i hi => ?_, ?_⟩
        · show r9 (306 * t + i) = vslots (306 * t + i)
          rw [g9, if_neg (by omega)]
        · rw [va_up_ne _ _ c]
          exact m2
  · have e8 : F_L_saveSnapshot vX vN vG vU vR vQF vQV vO x1 = some (nI 1, vQF, vQV, vO) := by
      simp (disch := omega) only [F_L_saveSnapshot, F_X8_saveSnapshot, q8, q_lit, q_neg, nI_add, pk_mul, q_sb, q_lt0, q_ck, q_cl, q_le, q_lt, q_eq, q_m1e, q_e1m, q_m1l, e10, e20, e30, e40, e21, e31, e41, e32, e42, e43, eq_self, if_true, if_false, q_cn0, q_cn1, F_X9_fails, F_X9_isFailed, e14, e12, e13, e24, e23, e34]
    have e9 : F_X9_saveSnapshot vM vnow vslots visKept x1 = some (nI 0, (va_up (va_up vM.1 3 (nI 0)) 3 (nI 1), vM.2), vslots, visKept) := by
      simp (disch := omega) only [F_X9_saveSnapshot, q9, q_lit, q_neg, nI_add, pk_mul, q_sb, q_lt0, q_ck, q_cl, q_le, q_lt, q_eq, q_m1e, q_e1m, q_m1l, e10, e20, e30, e40, e21, e31, e41, e32, e42, e43, eq_self, if_true, if_false, q_cn0, q_cn1, F_X9_fails, F_X9_isFailed, e14, e12, e13, e24, e23, e34]
    exact ⟨nI 1, vQF, vQV, vO, _, _, vslots, visKept, e8, e9, rfl, fun h => absurd h (by decide), hs.mono hT0 hT, fun _ h3 => (va_up_ne _ _ h3).trans (va_up_ne _ _ h3)⟩
theorem a_58 {vX : Nat → Int32} {vN : Nat → Int32} {vG : Nat → Nat → Int32} {vU : Nat → Nat → Int32} {vR : Nat → Nat → Int32} {vH : Nat → Int32} {vHV : Nat → NV} {vO : Nat → Int64} {vM : (Nat → Int32) × Int64} {vnow : Nat → Int32} {vearlier : Nat → Int32} {vQF : Nat → Int32} {vQV : Nat → NV} {vslots : Nat → Int32} {visKept : Nat → Int32} {D : Dn} {T : Nat} (m8 : M8 vN vG vU vR D) (m9 : M9 vnow D) (o : OkN T D) (hh : HistOk T vM vearlier vH vHV) (hT : T + 1 ≤ 600) (hs : SnapOk T vQF vQV visKept vslots) (x1 : Int32) : ∃ (c : Int32) (N' : Nat → Int32) (G' : Nat → Nat → Int32) (U' : Nat → Nat → Int32) (R' : Nat → Nat → Int32) (H' : Nat → Int32) (HV' : Nat → NV) (O' : Nat → Int64) (b : Int32) (M' : (Nat → Int32) × Int64) (now' : Nat → Int32) (e' : Nat → Int32), F_L_restoreSnapshot vX vN vG vU vR vH vHV vQF vQV vO x1 = some (c, N', G', U', R', H', HV', O') ∧ F_X9_restoreSnapshot vM vnow vearlier vslots visKept x1 = some (b, M', now', e') ∧ M'.1 3 = c ∧ (c = 0 → O' 0 = Int32.toInt64 b) ∧ StOk (T + 1) N' G' U' R' H' HV' M' now' e' ∧ (∀ k, k ≠ 0 → k ≠ 3 → M'.1 k = vM.1 k) := by
  have hG := o.1.G
  have hU := o.1.U
  have hR0 := o.1.R
  have hm := o.2.2
  have hT0 : T ≤ T + 1 := Nat.le_succ T
  rcases scase x1 with ⟨s, hs2, rfl, q8, q9⟩ | ⟨q8, q9⟩
  · rcases hs s hs2 with ⟨a1, a2⟩ | ⟨a1, a2, E, oE, mE9, mE8⟩
    · have e8 : F_L_restoreSnapshot vX vN vG vU vR vH vHV vQF vQV vO (nI s) = some (nI 2, vN, vG, vU, vR, vH, vHV, vO) := by
        simp (disch := omega) only [F_L_restoreSnapshot, F_X8_restoreSnapshot, F_X9_restoreSnapshot, q8, q9, a1, a2, q_lit, q_neg, nI_add, pk_mul, q_sb, q_lt0, q_ck, q_cl, q_le, q_lt, q_eq, q_m1e, q_e1m, q_m1l, e10, e20, e30, e40, e21, e31, e41, e32, e42, e43, eq_self, if_true, if_false, q_cn0, q_cn1, F_X9_fails, F_X9_isFailed, e14, e12, e13, e24, e23, e34]
      have e9 : F_X9_restoreSnapshot vM vnow vearlier vslots visKept (nI s) = some (nI 0, (va_up (va_up vM.1 3 (nI 0)) 3 (nI 2), vM.2), vnow, vearlier) := by
        simp (disch := omega) only [F_L_restoreSnapshot, F_X8_restoreSnapshot, F_X9_restoreSnapshot, q8, q9, a1, a2, q_lit, q_neg, nI_add, pk_mul, q_sb, q_lt0, q_ck, q_cl, q_le, q_lt, q_eq, q_m1e, q_e1m, q_m1l, e10, e20, e30, e40, e21, e31, e41, e32, e42, e43, eq_self, if_true, if_false, q_cn0, q_cn1, F_X9_fails, F_X9_isFailed, e14, e12, e13, e24, e23, e34]
      exact ⟨nI 2, vN, vG, vU, vR, vH, vHV, vO, nI 0, _, vnow, vearlier, e8, e9, rfl, fun h => absurd h (by decide), ⟨D, o.mono hT0 hT, m8, m9, HistOk.mono (HistOk.m (vM := vM) hh rfl) hT0 hT⟩, fun k _ h3 => (va_up_ne _ _ h3).trans (va_up_ne _ _ h3)⟩
    · obtain ⟨r9, r8, k9, k8, hh', hM'⟩ := h_keep (vM := (va_up vM.1 3 (nI 0), vM.2)) (hh.m rfl) m8 m9 o
      obtain ⟨l8, f8, n8⟩ := u_copy (vN := vN) (vG := vG) (vU := vU) (vR := vR) mE8 oE.1
      obtain ⟨l9, f9, g9⟩ := lay_r (nS := 612) (nT := 306) (b := 306 * s) (p := 0) (vS := vslots) (vT := vnow) (by omega) (by omega) (by omega) (by omega)
      have n9 : M9 l9 E := mE9.cong oE.1.G oE.1.U oE.1.R fun i hi => by
        rw [g9, if_pos (by omega)]
        exact congrArg vslots (by omega)
      have u8 : l8.1 0 = nI E.mi := n8.mi
      have u9 : l9 0 = nI E.mi := n9.mi
      have e8 : F_L_restoreSnapshot vX vN vG vU vR vH vHV vQF vQV vO (nI s) = some (nI 0, l8.1, l8.2.1, l8.2.2.1, l8.2.2.2, r8.1, r8.2, vp_updL vO 0 (Int32.toInt64 (nI E.mi))) := by
        simp (disch := omega) only [F_L_restoreSnapshot, F_X8_restoreSnapshot, F_X9_restoreSnapshot, q8, q9, a1, a2, k9, k8, f8, f9, u8, u9, q_lit, q_neg, nI_add, pk_mul, q_sb, q_lt0, q_ck, q_cl, q_le, q_lt, q_eq, q_m1e, q_e1m, q_m1l, e10, e20, e30, e40, e21, e31, e41, e32, e42, e43, eq_self, if_true, if_false, q_cn0, q_cn1, F_X9_fails, F_X9_isFailed, e14, e12, e13, e24, e23, e34]
      have e9 : F_X9_restoreSnapshot vM vnow vearlier vslots visKept (nI s) = some (nI E.mi, r9.1, l9, r9.2) := by
        simp (disch := omega) only [F_L_restoreSnapshot, F_X8_restoreSnapshot, F_X9_restoreSnapshot, q8, q9, a1, a2, k9, k8, f8, f9, u8, u9, q_lit, q_neg, nI_add, pk_mul, q_sb, q_lt0, q_ck, q_cl, q_le, q_lt, q_eq, q_m1e, q_e1m, q_m1l, e10, e20, e30, e40, e21, e31, e41, e32, e42, e43, eq_self, if_true, if_false, q_cn0, q_cn1, F_X9_fails, F_X9_isFailed, e14, e12, e13, e24, e23, e34]
      exact ⟨nI 0, l8.1, l8.2.1, l8.2.2.1, l8.2.2.2, r8.1, r8.2, vp_updL vO 0 (Int32.toInt64 (nI E.mi)), nI E.mi, r9.1, l9, r9.2, e8, e9, hM' 3 (by decide), fun _ => rfl, ⟨E, oE.mono hT0 hT, n8, n9, hh'.mono hT0 hT⟩, fun k h0 h3 => (hM' k h0).trans (va_up_ne _ _ h3)⟩
  · have e8 : F_L_restoreSnapshot vX vN vG vU vR vH vHV vQF vQV vO x1 = some (nI 1, vN, vG, vU, vR, vH, vHV, vO) := by
      simp (disch := omega) only [F_L_restoreSnapshot, F_X8_restoreSnapshot, F_X9_restoreSnapshot, q8, q9, q_lit, q_neg, nI_add, pk_mul, q_sb, q_lt0, q_ck, q_cl, q_le, q_lt, q_eq, q_m1e, q_e1m, q_m1l, e10, e20, e30, e40, e21, e31, e41, e32, e42, e43, eq_self, if_true, if_false, q_cn0, q_cn1, F_X9_fails, F_X9_isFailed, e14, e12, e13, e24, e23, e34]
    have e9 : F_X9_restoreSnapshot vM vnow vearlier vslots visKept x1 = some (nI 0, (va_up (va_up vM.1 3 (nI 0)) 3 (nI 1), vM.2), vnow, vearlier) := by
      simp (disch := omega) only [F_L_restoreSnapshot, F_X8_restoreSnapshot, F_X9_restoreSnapshot, q8, q9, q_lit, q_neg, nI_add, pk_mul, q_sb, q_lt0, q_ck, q_cl, q_le, q_lt, q_eq, q_m1e, q_e1m, q_m1l, e10, e20, e30, e40, e21, e31, e41, e32, e42, e43, eq_self, if_true, if_false, q_cn0, q_cn1, F_X9_fails, F_X9_isFailed, e14, e12, e13, e24, e23, e34]
    exact ⟨nI 1, vN, vG, vU, vR, vH, vHV, vO, nI 0, _, vnow, vearlier, e8, e9, rfl, fun h => absurd h (by decide), ⟨D, o.mono hT0 hT, m8, m9, HistOk.mono (HistOk.m (vM := vM) hh rfl) hT0 hT⟩, fun k _ h3 => (va_up_ne _ _ h3).trans (va_up_ne _ _ h3)⟩
theorem a_48 {vX : Nat → Int32} {vN : Nat → Int32} {vG : Nat → Nat → Int32} {vU : Nat → Nat → Int32} {vR : Nat → Nat → Int32} {vH : Nat → Int32} {vHV : Nat → NV} {vO : Nat → Int64} {vM : (Nat → Int32) × Int64} {vnow : Nat → Int32} {vearlier : Nat → Int32} {vB : Nat → Nat → Int32} {vbuffer : Nat → Int32} {D : Dn} {T : Nat} (m8 : M8 vN vG vU vR D) (m9 : M9 vnow D) (o : OkN T D) (hh : HistOk T vM vearlier vH vHV) (hT : T + 1 ≤ 600) {l : Nat → Nat} {n : Nat} (bo : BufOk vB vM vbuffer l n) (x1 : Int32) (x2 : Int32) : ∃ (c : Int32) (G' : Nat → Nat → Int32) (H' : Nat → Int32) (HV' : Nat → NV) (B' : Nat → Nat → Int32) (O' : Nat → Int64) (b : Int32) (M' : (Nat → Int32) × Int64) (now' : Nat → Int32) (e' : Nat → Int32), F_L_addGuest vX vN vG vU vR vH vHV vB vO x1 x2 = some (c, G', H', HV', B', O') ∧ F_X9_addGuest vM vnow vearlier vbuffer x1 x2 = some (b, M', now', e') ∧ M'.1 3 = c ∧ (c = 0 → O' 0 = Int32.toInt64 b) ∧ StOk (T + 1) vN G' vU vR H' HV' M' now' e' ∧ (∀ k, k ≠ 0 → k ≠ 1 → k ≠ 3 → M'.1 k = vM.1 k) ∧ ∃ n', BufOk B' M' vbuffer l n' := by
  have hG := o.1.G
  have hU := o.1.U
  have hR0 := o.1.R
  have hm := o.2.2
  have hT0 : T ≤ T + 1 := Nat.le_succ T
  have hbn := t_bufN (bo.m3 (nI 0))
  have hin := u_isName bo
  have hb0 := bo.2.1
  rcases rcase x1 0 9 (by omega) (by omega) with ⟨a, ha1, ha2, rfl, q8, q9⟩ | ⟨q8, q9⟩
  · rcases rcase x2 0 9 (by omega) (by omega) with ⟨b, hb1, hb2, rfl, p8, p9⟩ | ⟨p8, p9⟩
    · cases hn : isNm l n
      · rw [hn, if_neg (by decide)] at hbn hin
        have e8 : F_L_addGuest vX vN vG vU vR vH vHV vB vO (nI a) (nI b) = some (nI 1, vG, vH, vHV, vB, vO) := by
          simp (disch := omega) only [F_L_addGuest, F_X8_addGuest, F_X9_addGuest, q8, q9, p8, p9, hbn, hin, q_0m1, q_lit, q_neg, nI_add, pk_mul, q_sb, q_lt0, q_ck, q_cl, q_le, q_lt, q_eq, q_m1e, q_e1m, q_m1l, e10, e20, e30, e40, e21, e31, e41, e32, e42, e43, eq_self, if_true, if_false, q_cn0, q_cn1, F_X9_fails, F_X9_isFailed, e14, e12, e13, e24, e23, e34]
        have e9 : F_X9_addGuest vM vnow vearlier vbuffer (nI a) (nI b) = some (nI 0, (va_up (va_up vM.1 3 (nI 0)) 3 (nI 1), vM.2), vnow, vearlier) := by
          simp (disch := omega) only [F_L_addGuest, F_X8_addGuest, F_X9_addGuest, q8, q9, p8, p9, hbn, hin, q_0m1, q_lit, q_neg, nI_add, pk_mul, q_sb, q_lt0, q_ck, q_cl, q_le, q_lt, q_eq, q_m1e, q_e1m, q_m1l, e10, e20, e30, e40, e21, e31, e41, e32, e42, e43, eq_self, if_true, if_false, q_cn0, q_cn1, F_X9_fails, F_X9_isFailed, e14, e12, e13, e24, e23, e34]
        exact ⟨nI 1, vG, vH, vHV, vB, vO, nI 0, _, vnow, vearlier, e8, e9, rfl, fun h => absurd h (by decide), ⟨D, o.mono hT0 hT, m8, m9, HistOk.mono (HistOk.m (vM := vM) hh rfl) hT0 hT⟩, fun k h0 h1 h3 => (va_up_ne _ _ h3).trans (va_up_ne _ _ h3), ⟨n, (bo.m3 (nI 0)).m3 _⟩⟩
      · rw [hn, if_pos rfl] at hbn hin
        obtain ⟨h5, h6⟩ := (isNm_iff l n).mp hn
        have h7 := code_bd h6 h5.2
        by_cases hG2 : D.G < 10
        · have hGn : ¬ D.G = 10 := by omega
          have h2 := u_find (s := 0) (n := n) m8 o.1 (by omega) (fun i hi => by rw [Nat.zero_add]; exact ⟨(bo.2.2.2 i hi).1, (bo.2.2.2 i hi).2.2⟩)
          have h10 := t_by m9 o.1 h5.2 h6
          have h3 := find_le D l n
          cases hf : findD D l n with
          | zero =>
            rw [hf, nz_0] at h2 h10
            obtain ⟨r9, r8, k9, k8, hh', hM'⟩ := h_keep (vM := (va_up vM.1 3 (nI 0), vM.2)) (hh.m rfl) m8 m9 o
            obtain ⟨l9, f9, g9, n9⟩ := t_addG (l := l) (n := n) (a := a) (b := b) m9 o.1 hG2
            obtain ⟨l8, f8, g8, n8⟩ := u_addG (l := l) (s := 0) (n := n) (a := a) (b := b) m8 o.1 hG2 h5.2 (by omega) (fun i hi => by rw [Nat.zero_add]; exact (bo.2.2.2 i hi).1)
            have on := okn_gst o hG2 h5 h6 ha2 hb2
            have e8 : F_L_addGuest vX vN vG vU vR vH vHV vB vO (nI a) (nI b) = some (nI 0, l8.2, r8.1, r8.2, va_up vB 0 (fun _ => nI 0), vp_updL vO 0 (Int32.toInt64 (nI D.G))) := by
              simp (disch := omega) only [F_L_addGuest, F_X8_addGuest, F_X9_addGuest, q8, q9, p8, p9, hbn, hin, hb0, m8.G, m9.G, hG2, hGn, h2, h10, q_m10, Nat.zero_le, k9, k8, f9, g9, f8, g8, q_lit, q_neg, nI_add, pk_mul, q_sb, q_lt0, q_ck, q_cl, q_le, q_lt, q_eq, q_m1e, q_e1m, q_m1l, e10, e20, e30, e40, e21, e31, e41, e32, e42, e43, eq_self, if_true, if_false, q_cn0, q_cn1, F_X9_fails, F_X9_isFailed, e14, e12, e13, e24, e23, e34]
            have e9 : F_X9_addGuest vM vnow vearlier vbuffer (nI a) (nI b) = some (nI D.G, (va_up r9.1.1 1 (nI 0), r9.1.2), l9.2, r9.2) := by
              simp (disch := omega) only [F_L_addGuest, F_X8_addGuest, F_X9_addGuest, q8, q9, p8, p9, hbn, hin, hb0, m8.G, m9.G, hG2, hGn, h2, h10, q_m10, Nat.zero_le, k9, k8, f9, g9, f8, g8, q_lit, q_neg, nI_add, pk_mul, q_sb, q_lt0, q_ck, q_cl, q_le, q_lt, q_eq, q_m1e, q_e1m, q_m1l, e10, e20, e30, e40, e21, e31, e41, e32, e42, e43, eq_self, if_true, if_false, q_cn0, q_cn1, F_X9_fails, F_X9_isFailed, e14, e12, e13, e24, e23, e34]
            exact ⟨nI 0, l8.2, r8.1, r8.2, va_up vB 0 (fun _ => nI 0), vp_updL vO 0 (Int32.toInt64 (nI D.G)), nI D.G, (va_up r9.1.1 1 (nI 0), r9.1.2), l9.2, r9.2, e8, e9, hM' 3 (by decide), fun _ => rfl, ⟨_, on.mono hT0 hT, n8, n9, (hh'.m (M' := (va_up r9.1.1 1 (nI 0), r9.1.2)) rfl).mono hT0 hT⟩, fun k h0 h1 h3 => (va_up_ne _ _ h1).trans ((hM' k h0).trans (va_up_ne _ _ h3)), ⟨0, Nat.zero_le _, rfl, rfl, fun i hi => absurd hi (Nat.not_lt_zero i)⟩⟩
          | succ j =>
            rw [hf, nz_s] at h2 h10
            have h11 : D.G ≤ 10 := hG
            have e8 : F_L_addGuest vX vN vG vU vR vH vHV vB vO (nI a) (nI b) = some (nI 2, vG, vH, vHV, vB, vO) := by
              simp (disch := omega) only [F_L_addGuest, F_X8_addGuest, F_X9_addGuest, q8, q9, p8, p9, hbn, hin, hb0, m8.G, m9.G, hG2, hGn, h2, h10, Nat.zero_le, Nat.not_lt_zero, q_lit, q_neg, nI_add, pk_mul, q_sb, q_lt0, q_ck, q_cl, q_le, q_lt, q_eq, q_m1e, q_e1m, q_m1l, e10, e20, e30, e40, e21, e31, e41, e32, e42, e43, eq_self, if_true, if_false, q_cn0, q_cn1, F_X9_fails, F_X9_isFailed, e14, e12, e13, e24, e23, e34]
            have e9 : F_X9_addGuest vM vnow vearlier vbuffer (nI a) (nI b) = some (nI 0, (va_up (va_up vM.1 3 (nI 0)) 3 (nI 2), vM.2), vnow, vearlier) := by
              simp (disch := omega) only [F_L_addGuest, F_X8_addGuest, F_X9_addGuest, q8, q9, p8, p9, hbn, hin, hb0, m8.G, m9.G, hG2, hGn, h2, h10, Nat.zero_le, Nat.not_lt_zero, q_lit, q_neg, nI_add, pk_mul, q_sb, q_lt0, q_ck, q_cl, q_le, q_lt, q_eq, q_m1e, q_e1m, q_m1l, e10, e20, e30, e40, e21, e31, e41, e32, e42, e43, eq_self, if_true, if_false, q_cn0, q_cn1, F_X9_fails, F_X9_isFailed, e14, e12, e13, e24, e23, e34]
            exact ⟨nI 2, vG, vH, vHV, vB, vO, nI 0, _, vnow, vearlier, e8, e9, rfl, fun h => absurd h (by decide), ⟨D, o.mono hT0 hT, m8, m9, HistOk.mono (HistOk.m (vM := vM) hh rfl) hT0 hT⟩, fun k h0 h1 h3 => (va_up_ne _ _ h3).trans (va_up_ne _ _ h3), ⟨n, (bo.m3 (nI 0)).m3 _⟩⟩
        · have hGn : D.G = 10 := by omega
          have e8 : F_L_addGuest vX vN vG vU vR vH vHV vB vO (nI a) (nI b) = some (nI 2, vG, vH, vHV, vB, vO) := by
            simp (disch := omega) only [F_L_addGuest, F_X8_addGuest, F_X9_addGuest, q8, q9, p8, p9, hbn, hin, m8.G, m9.G, hGn, Nat.lt_irrefl, Nat.zero_le, q_lit, q_neg, nI_add, pk_mul, q_sb, q_lt0, q_ck, q_cl, q_le, q_lt, q_eq, q_m1e, q_e1m, q_m1l, e10, e20, e30, e40, e21, e31, e41, e32, e42, e43, eq_self, if_true, if_false, q_cn0, q_cn1, F_X9_fails, F_X9_isFailed, e14, e12, e13, e24, e23, e34]
          have e9 : F_X9_addGuest vM vnow vearlier vbuffer (nI a) (nI b) = some (nI 0, (va_up (va_up vM.1 3 (nI 0)) 3 (nI 2), vM.2), vnow, vearlier) := by
            simp (disch := omega) only [F_L_addGuest, F_X8_addGuest, F_X9_addGuest, q8, q9, p8, p9, hbn, hin, m8.G, m9.G, hGn, Nat.lt_irrefl, Nat.zero_le, q_lit, q_neg, nI_add, pk_mul, q_sb, q_lt0, q_ck, q_cl, q_le, q_lt, q_eq, q_m1e, q_e1m, q_m1l, e10, e20, e30, e40, e21, e31, e41, e32, e42, e43, eq_self, if_true, if_false, q_cn0, q_cn1, F_X9_fails, F_X9_isFailed, e14, e12, e13, e24, e23, e34]
          exact ⟨nI 2, vG, vH, vHV, vB, vO, nI 0, _, vnow, vearlier, e8, e9, rfl, fun h => absurd h (by decide), ⟨D, o.mono hT0 hT, m8, m9, HistOk.mono (HistOk.m (vM := vM) hh rfl) hT0 hT⟩, fun k h0 h1 h3 => (va_up_ne _ _ h3).trans (va_up_ne _ _ h3), ⟨n, (bo.m3 (nI 0)).m3 _⟩⟩
    · have e8 : F_L_addGuest vX vN vG vU vR vH vHV vB vO (nI a) x2 = some (nI 1, vG, vH, vHV, vB, vO) := by
        simp (disch := omega) only [F_L_addGuest, F_X8_addGuest, F_X9_addGuest, q8, q9, p8, p9, hbn, q_lit, q_neg, nI_add, pk_mul, q_sb, q_lt0, q_ck, q_cl, q_le, q_lt, q_eq, q_m1e, q_e1m, q_m1l, e10, e20, e30, e40, e21, e31, e41, e32, e42, e43, eq_self, if_true, if_false, q_cn0, q_cn1, F_X9_fails, F_X9_isFailed, e14, e12, e13, e24, e23, e34]
      have e9 : F_X9_addGuest vM vnow vearlier vbuffer (nI a) x2 = some (nI 0, (va_up (va_up vM.1 3 (nI 0)) 3 (nI 1), vM.2), vnow, vearlier) := by
        simp (disch := omega) only [F_L_addGuest, F_X8_addGuest, F_X9_addGuest, q8, q9, p8, p9, hbn, q_lit, q_neg, nI_add, pk_mul, q_sb, q_lt0, q_ck, q_cl, q_le, q_lt, q_eq, q_m1e, q_e1m, q_m1l, e10, e20, e30, e40, e21, e31, e41, e32, e42, e43, eq_self, if_true, if_false, q_cn0, q_cn1, F_X9_fails, F_X9_isFailed, e14, e12, e13, e24, e23, e34]
      exact ⟨nI 1, vG, vH, vHV, vB, vO, nI 0, _, vnow, vearlier, e8, e9, rfl, fun h => absurd h (by decide), ⟨D, o.mono hT0 hT, m8, m9, HistOk.mono (HistOk.m (vM := vM) hh rfl) hT0 hT⟩, fun k h0 h1 h3 => (va_up_ne _ _ h3).trans (va_up_ne _ _ h3), ⟨n, (bo.m3 (nI 0)).m3 _⟩⟩
  · have e8 : F_L_addGuest vX vN vG vU vR vH vHV vB vO x1 x2 = some (nI 1, vG, vH, vHV, vB, vO) := by
      simp (disch := omega) only [F_L_addGuest, F_X8_addGuest, F_X9_addGuest, q8, q9, hbn, q_lit, q_neg, nI_add, pk_mul, q_sb, q_lt0, q_ck, q_cl, q_le, q_lt, q_eq, q_m1e, q_e1m, q_m1l, e10, e20, e30, e40, e21, e31, e41, e32, e42, e43, eq_self, if_true, if_false, q_cn0, q_cn1, F_X9_fails, F_X9_isFailed, e14, e12, e13, e24, e23, e34]
    have e9 : F_X9_addGuest vM vnow vearlier vbuffer x1 x2 = some (nI 0, (va_up (va_up vM.1 3 (nI 0)) 3 (nI 1), vM.2), vnow, vearlier) := by
      simp (disch := omega) only [F_L_addGuest, F_X8_addGuest, F_X9_addGuest, q8, q9, hbn, q_lit, q_neg, nI_add, pk_mul, q_sb, q_lt0, q_ck, q_cl, q_le, q_lt, q_eq, q_m1e, q_e1m, q_m1l, e10, e20, e30, e40, e21, e31, e41, e32, e42, e43, eq_self, if_true, if_false, q_cn0, q_cn1, F_X9_fails, F_X9_isFailed, e14, e12, e13, e24, e23, e34]
    exact ⟨nI 1, vG, vH, vHV, vB, vO, nI 0, _, vnow, vearlier, e8, e9, rfl, fun h => absurd h (by decide), ⟨D, o.mono hT0 hT, m8, m9, HistOk.mono (HistOk.m (vM := vM) hh rfl) hT0 hT⟩, fun k h0 h1 h3 => (va_up_ne _ _ h3).trans (va_up_ne _ _ h3), ⟨n, (bo.m3 (nI 0)).m3 _⟩⟩
