/-! what a call changes, by naturals -/
def HO (T : Nat) (vH : Nat → Int32) (vHV : Nat → NV) (n : Nat) (Hs : Nat → Dn) : Prop := ∃ q, n ≤ 8 ∧ q < 8 ∧ vH 0 = nI q ∧ vH 1 = nI n ∧ ∀ j, j < n → OkC T (Hs j) ∧ M8v (vHV ((q + 8 - n + j) % 8)) (Hs j)
def SO (T : Nat) (vQF : Nat → Int32) (vQV : Nat → NV) : Prop := ∀ s, s < 2 → vQF s = nI 0 ∨ (vQF s = nI 1 ∧ ∃ E, OkC T E ∧ M8v (vQV s) E)
/-- the object holds the night D, n nights to go back to (Hs), an empty buffer -/
def S8 (T : Nat) (v : KV) (D : Dn) (n : Nat) (Hs : Nat → Dn) : Prop := (S7 T v D ∧ Car D) ∧ HO T (v.2.2.2.2.2.2.2.2.2.2.1) (v.2.2.2.2.2.2.2.2.2.2.2.1) n Hs ∧ SO T (v.2.2.2.2.2.2.2.2.2.2.2.2.1) (v.2.2.2.2.2.2.2.2.2.2.2.2.2.1) ∧ v.2.2.2.2.2.2.2.2.2.2.2.2.2.2.1 0 0 = nI 0 ∧ T ≤ 600
theorem HO.mono {T T' : Nat} {vH : Nat → Int32} {vHV : Nat → NV} {n : Nat} {Hs : Nat → Dn} (h : HO T vH vHV n Hs) (hT : T ≤ T') (hT' : T' ≤ 600) : HO T' vH vHV n Hs := by
  obtain ⟨q, a, b, c, d, e⟩ := h
  exact ⟨q, a, b, c, d, fun j hj => ⟨(e j hj).1.mono hT hT', (e j hj).2⟩⟩
theorem SO.mono {T T' : Nat} {vQF : Nat → Int32} {vQV : Nat → NV} (h : SO T vQF vQV) (hT : T ≤ T') (hT' : T' ≤ 600) : SO T' vQF vQV := fun s hs => by
  rcases h s hs with a | ⟨a, E, c, d⟩
  · exact Or.inl a
  · exact Or.inr ⟨a, E, c.mono hT hT', d⟩
theorem HO.keep {vN vH : Nat → Int32} {vG vU vR : Nat → Nat → Int32} {vHV : Nat → NV} {D : Dn} {T n : Nat} {Hs : Nat → Dn} (h : HO T vH vHV n Hs) (m8 : M8 vN vG vU vR D) (o : OkC T D) : ∃ r8, F_X2_remember vN vG vU vR vH vHV = some r8 ∧ HO T r8.1 r8.2 (keepN n) (keepH Hs n D) := by
  obtain ⟨q, hn, hq, h1, h2, hH⟩ := h
  obtain ⟨r8, f1, f2, f3, f4, f5⟩ := u_rem (vHV := vHV) m8 o.1.1 hn hq h1 h2
  refine ⟨r8, f1, (q + 1) % 8, by unfold keepN; split <;> omega, by omega, f2, f3, fun j hj => ?_⟩
  refine ⟨?_, ?_⟩
  · unfold keepN at hj
    unfold keepH
    by_cases c : n = 8
    · rw [if_pos c] at hj ⊢
      split
      · exact (hH (j + 1) (by omega)).1
      · exact o
    · rw [if_neg c] at hj ⊢
      split
      · exact (hH j (by omega)).1
      · exact o
  · unfold keepN at hj ⊢
    unfold keepH
    by_cases c : n = 8
    · rw [if_pos c] at hj ⊢
      rw [if_pos c]
      by_cases cj : j < 7
      · rw [if_pos cj]
        have := (hH (j + 1) (by omega)).2
        rw [f4 _ (by omega)]
        rw [show ((q + 1) % 8 + 8 - 8 + j) % 8 = (q + 8 - n + (j + 1)) % 8 by omega]
        exact this
      · rw [if_neg cj, show ((q + 1) % 8 + 8 - 8 + j) % 8 = q by omega]
        exact f5
    · rw [if_neg c] at hj ⊢
      rw [if_neg c]
      by_cases cj : j < n
      · rw [if_pos cj]
        have := (hH j cj).2
        rw [f4 _ (by omega)]
        rw [show ((q + 1) % 8 + 8 - (n + 1) + j) % 8 = (q + 8 - n + j) % 8 by omega]
        exact this
      · rw [if_neg cj, show ((q + 1) % 8 + 8 - (n + 1) + j) % 8 = q by omega]
        exact f5
theorem slot_ok {s : Nat} (h : s < 2) : F_X8_requireSlot (nI s) = some 0 := by
  simp (disch := omega) only [F_X8_requireSlot, q_lit, q_lt, h, Nat.not_lt_zero, if_false, if_true]
theorem mu2 {T : Nat} {v : KV} {D : Dn} {n : Nat} {Hs : Nat → Dn} (h : S8 T v D n Hs) {g : Nat} (hg : g < D.G) (ho : D.ou g = 0) (hR : D.R < 60) : ∃ v2, F_K_call__ v (nI 2) (nI g) = some (nI (smF (leaveD D g).ou D.G), v2) ∧ S8 (T) v2 (leaveD D g) (keepN n) (keepH Hs n D) := by
  obtain ⟨⟨⟨m, o⟩, cr⟩, hh, hs, hB, hT⟩ := h
  have hG := o.1.G
  have hU := o.1.U
  have hR0 := o.1.R
  have hm := o.2.2
  obtain ⟨r8, k8, hh2⟩ := hh.keep m ⟨o, cr⟩
  obtain ⟨l8, f8, n8⟩ := u_leave m o.1 hg hR
  have on := okn_leave o hg ho hR
  have hGl : (leaveD D g).G = D.G := takeE_o D g 0 7 (by decide)
  have cA : F_X1_countAway l8.1 = some (nI (smF (leaveD D g).ou D.G)) := by
    rw [← hGl]
    exact u_away_n n8 on.1
  refine ⟨(v.1, v.2.1, v.2.2.1, l8.1, l8.2.1, l8.2.2, v.2.2.2.2.2.2.1, v.2.2.2.2.2.2.2.1, v.2.2.2.2.2.2.2.2.1, v.2.2.2.2.2.2.2.2.2.1, r8.1, r8.2, v.2.2.2.2.2.2.2.2.2.2.2.2.1, v.2.2.2.2.2.2.2.2.2.2.2.2.2.1, v.2.2.2.2.2.2.2.2.2.2.2.2.2.2.1, v.2.2.2.2.2.2.2.2.2.2.2.2.2.2.2), ?_, ⟨⟨n8, on⟩, car_leave cr ho⟩, hh2, hs, hB, hT⟩
  rw [kc1_2]
  simp (disch := omega) only [F_arm_leave, F_X8_leave, u_rG_ok m o.1 hg, u_isAway m o.1 hg, ho, F_X8_requireRoomForEntry, m.R, hR, f8, cA, k8, q_lit, q_neg, nI_add, pk_mul, q_sb, q_lt0, q_ck, q_cl, q_le, q_lt, q_eq, q_m1e, q_e1m, q_m1l, e10, e20, e30, e40, e21, e31, e41, e32, e42, e43, eq_self, if_true, if_false, q_cn0, q_cn1, e14, e12, e13, e24, e23, e34, x1o, x2o, x3o, x4o]
theorem mu2f {T : Nat} {v : KV} {D : Dn} {n : Nat} {Hs : Nat → Dn} (h : S8 T v D n Hs) {g : Nat} (hg : g < D.G) (ho : D.ou g = 0) (hR : D.R = 60) : F_K_call__ v (nI 2) (nI g) = some (kS, v) := by
  obtain ⟨⟨⟨m, o⟩, cr⟩, hh, hs, hB, hT⟩ := h
  have hG := o.1.G
  have hU := o.1.U
  have hR0 := o.1.R
  have hm := o.2.2
  rw [kc1_2]
  simp (disch := omega) only [F_arm_leave, F_X8_leave, u_rG_ok m o.1 hg, u_isAway m o.1 hg, ho, F_X8_requireRoomForEntry, m.R, hR, Nat.lt_irrefl, q_lit, q_neg, nI_add, pk_mul, q_sb, q_lt0, q_ck, q_cl, q_le, q_lt, q_eq, q_m1e, q_e1m, q_m1l, e10, e20, e30, e40, e21, e31, e41, e32, e42, e43, eq_self, if_true, if_false, q_cn0, q_cn1, e14, e12, e13, e24, e23, e34, x1o, x2o, x3o, x4o]
theorem mu2o {T : Nat} {v : KV} {D : Dn} {n : Nat} {Hs : Nat → Dn} (h : S8 T v D n Hs) {g : Nat} (hg : g < D.G) (ho : D.ou g = 1) : F_K_call__ v (nI 2) (nI g) = some (kS, v) := by
  obtain ⟨⟨⟨m, o⟩, cr⟩, hh, hs, hB, hT⟩ := h
  have hG := o.1.G
  have hU := o.1.U
  have hR0 := o.1.R
  have hm := o.2.2
  rw [kc1_2]
  simp (disch := omega) only [F_arm_leave, F_X8_leave, u_rG_ok m o.1 hg, u_isAway m o.1 hg, ho, q_lit, q_neg, nI_add, pk_mul, q_sb, q_lt0, q_ck, q_cl, q_le, q_lt, q_eq, q_m1e, q_e1m, q_m1l, e10, e20, e30, e40, e21, e31, e41, e32, e42, e43, eq_self, if_true, if_false, q_cn0, q_cn1, e14, e12, e13, e24, e23, e34, x1o, x2o, x3o, x4o]
theorem mu3 {T : Nat} {v : KV} {D : Dn} {n : Nat} {Hs : Nat → Dn} (h : S8 T v D n Hs) {g : Nat} (hg : g < D.G) (ho : D.ou g = 1) (hR : D.R < 60) : ∃ v2, F_K_call__ v (nI 3) (nI g) = some (nI (tipD D g), v2) ∧ S8 (T) v2 (retD D g) (keepN n) (keepH Hs n D) := by
  obtain ⟨⟨⟨m, o⟩, cr⟩, hh, hs, hB, hT⟩ := h
  have hG := o.1.G
  have hU := o.1.U
  have hR0 := o.1.R
  have hm := o.2.2
  obtain ⟨r8, k8, hh2⟩ := hh.keep m ⟨o, cr⟩
  obtain ⟨l8, f8, g8, n8⟩ := u_ret m o.1 hg hR
  have on := okn_ret o hg ho hR
  refine ⟨(v.1, v.2.1, l8.2.1, l8.2.2.1, l8.2.2.2.1, l8.2.2.2.2, v.2.2.2.2.2.2.1, v.2.2.2.2.2.2.2.1, v.2.2.2.2.2.2.2.2.1, v.2.2.2.2.2.2.2.2.2.1, r8.1, r8.2, v.2.2.2.2.2.2.2.2.2.2.2.2.1, v.2.2.2.2.2.2.2.2.2.2.2.2.2.1, v.2.2.2.2.2.2.2.2.2.2.2.2.2.2.1, v.2.2.2.2.2.2.2.2.2.2.2.2.2.2.2), ?_, ⟨⟨n8, on⟩, car_ret cr⟩, hh2, hs, hB, hT⟩
  rw [kc1_3]
  simp (disch := omega) only [F_arm_comeBack, F_X8_comeBack, u_rG_ok m o.1 hg, u_isAway m o.1 hg, ho, F_X8_requireRoomForEntry, m.R, hR, f8, g8, k8, q_lit, q_neg, nI_add, pk_mul, q_sb, q_lt0, q_ck, q_cl, q_le, q_lt, q_eq, q_m1e, q_e1m, q_m1l, e10, e20, e30, e40, e21, e31, e41, e32, e42, e43, eq_self, if_true, if_false, q_cn0, q_cn1, e14, e12, e13, e24, e23, e34, x1o, x2o, x3o, x4o]
theorem mu3f {T : Nat} {v : KV} {D : Dn} {n : Nat} {Hs : Nat → Dn} (h : S8 T v D n Hs) {g : Nat} (hg : g < D.G) (ho : D.ou g = 1) (hR : D.R = 60) : F_K_call__ v (nI 3) (nI g) = some (kS, v) := by
  obtain ⟨⟨⟨m, o⟩, cr⟩, hh, hs, hB, hT⟩ := h
  have hG := o.1.G
  have hU := o.1.U
  have hR0 := o.1.R
  have hm := o.2.2
  rw [kc1_3]
  simp (disch := omega) only [F_arm_comeBack, F_X8_comeBack, u_rG_ok m o.1 hg, u_isAway m o.1 hg, ho, F_X8_requireRoomForEntry, m.R, hR, Nat.lt_irrefl, q_lit, q_neg, nI_add, pk_mul, q_sb, q_lt0, q_ck, q_cl, q_le, q_lt, q_eq, q_m1e, q_e1m, q_m1l, e10, e20, e30, e40, e21, e31, e41, e32, e42, e43, eq_self, if_true, if_false, q_cn0, q_cn1, e14, e12, e13, e24, e23, e34, x1o, x2o, x3o, x4o]
theorem mu3o {T : Nat} {v : KV} {D : Dn} {n : Nat} {Hs : Nat → Dn} (h : S8 T v D n Hs) {g : Nat} (hg : g < D.G) (ho : D.ou g = 0) : F_K_call__ v (nI 3) (nI g) = some (kS, v) := by
  obtain ⟨⟨⟨m, o⟩, cr⟩, hh, hs, hB, hT⟩ := h
  have hG := o.1.G
  have hU := o.1.U
  have hR0 := o.1.R
  have hm := o.2.2
  rw [kc1_3]
  simp (disch := omega) only [F_arm_comeBack, F_X8_comeBack, u_rG_ok m o.1 hg, u_isAway m o.1 hg, ho, q_lit, q_neg, nI_add, pk_mul, q_sb, q_lt0, q_ck, q_cl, q_le, q_lt, q_eq, q_m1e, q_e1m, q_m1l, e10, e20, e30, e40, e21, e31, e41, e32, e42, e43, eq_self, if_true, if_false, q_cn0, q_cn1, e14, e12, e13, e24, e23, e34, x1o, x2o, x3o, x4o]
theorem mu4 {T : Nat} {v : KV} {D : Dn} {n : Nat} {Hs : Nat → Dn} (h : S8 T v D n Hs) {c : Nat} (hc1 : 1 ≤ c) (hc2 : c ≤ 240) (hc : D.mi + c ≤ 720) : ∃ v2, F_K_call__ v (nI 4) (nI c) = some (nI (passN D c).co - nI D.co, v2) ∧ S8 (T) v2 (passN D c) (keepN n) (keepH Hs n D) := by
  obtain ⟨⟨⟨m, o⟩, cr⟩, hh, hs, hB, hT⟩ := h
  have hG := o.1.G
  have hU := o.1.U
  have hR0 := o.1.R
  have hm := o.2.2
  obtain ⟨r8, k8, hh2⟩ := hh.keep m ⟨o, cr⟩
  obtain ⟨p8, f8, g8, g8b, n8, g8c, g8d⟩ := u_passM (vX := v.1) (vH := r8.1) (vHV := r8.2) m o hc
  obtain ⟨b1, b2, b3, b4, b5, b6, b7⟩ := p8
  dsimp only at g8 g8b n8 g8c g8d
  subst g8 g8b g8c g8d
  have f8' : L_X8_passMinutes_56 v.1 v.2.2.2.2.2.1 (nI c) FU (nI D.co) (nI 0) v.2.2.1 v.2.2.2.1 v.2.2.2.2.1 r8.1 r8.2 = _ := f8
  have q8 := rng_ok hc1 hc2 (by omega)
  have hv' : c ≤ 720 - D.mi := by omega
  refine ⟨(v.1, v.2.1, b3, b4, b5, v.2.2.2.2.2.1, v.2.2.2.2.2.2.1, v.2.2.2.2.2.2.2.1, v.2.2.2.2.2.2.2.2.1, v.2.2.2.2.2.2.2.2.2.1, r8.1, r8.2, v.2.2.2.2.2.2.2.2.2.2.2.2.1, v.2.2.2.2.2.2.2.2.2.2.2.2.2.1, v.2.2.2.2.2.2.2.2.2.2.2.2.2.2.1, v.2.2.2.2.2.2.2.2.2.2.2.2.2.2.2), ?_, ⟨⟨n8, okn_passN o c hc⟩, car_passN cr _⟩, hh2, hs, hB, hT⟩
  rw [kc1_4]
  simp (disch := omega) only [F_arm_passMinutes, F_X8_passMinutes, q8, m.mi, m.co, hv', q_sub, f8', k8, q_lit, q_neg, nI_add, pk_mul, q_sb, q_lt0, q_ck, q_cl, q_le, q_lt, q_eq, q_m1e, q_e1m, q_m1l, e10, e20, e30, e40, e21, e31, e41, e32, e42, e43, eq_self, if_true, if_false, q_cn0, q_cn1, e14, e12, e13, e24, e23, e34, x1o, x2o, x3o, x4o]
theorem mu4f {T : Nat} {v : KV} {D : Dn} {n : Nat} {Hs : Nat → Dn} (h : S8 T v D n Hs) {c : Nat} (hc1 : 1 ≤ c) (hc2 : c ≤ 240) (hc : 720 < D.mi + c) : F_K_call__ v (nI 4) (nI c) = some (kS, v) := by
  obtain ⟨⟨⟨m, o⟩, cr⟩, hh, hs, hB, hT⟩ := h
  have hG := o.1.G
  have hU := o.1.U
  have hR0 := o.1.R
  have hm := o.2.2
  have q8 := rng_ok hc1 hc2 (by omega)
  have hv' : ¬ c ≤ 720 - D.mi := by omega
  rw [kc1_4]
  simp (disch := omega) only [F_arm_passMinutes, F_X8_passMinutes, q8, m.mi, hv', q_sub, q_lit, q_neg, nI_add, pk_mul, q_sb, q_lt0, q_ck, q_cl, q_le, q_lt, q_eq, q_m1e, q_e1m, q_m1l, e10, e20, e30, e40, e21, e31, e41, e32, e42, e43, eq_self, if_true, if_false, q_cn0, q_cn1, e14, e12, e13, e24, e23, e34, x1o, x2o, x3o, x4o]
theorem mu4r {T : Nat} {v : KV} {D : Dn} {n : Nat} {Hs : Nat → Dn} (h : S8 T v D n Hs) {c : Nat} (hc : c < 1 ∨ 240 < c) (hc2 : c < 1000) : F_K_call__ v (nI 4) (nI c) = some (kA, v) := by
  obtain ⟨⟨⟨m, o⟩, cr⟩, hh, hs, hB, hT⟩ := h
  have hG := o.1.G
  have hU := o.1.U
  have hR0 := o.1.R
  have hm := o.2.2
  have q8 := rng_bad hc (by omega) (by omega) (by omega)
  rw [kc1_4]
  simp (disch := omega) only [F_arm_passMinutes, F_X8_passMinutes, q8, q_lit, q_neg, nI_add, pk_mul, q_sb, q_lt0, q_ck, q_cl, q_le, q_lt, q_eq, q_m1e, q_e1m, q_m1l, e10, e20, e30, e40, e21, e31, e41, e32, e42, e43, eq_self, if_true, if_false, q_cn0, q_cn1, e14, e12, e13, e24, e23, e34, x1o, x2o, x3o, x4o]
theorem mu5 {T : Nat} {v : KV} {D : Dn} {n : Nat} {Hs : Nat → Dn} (h : S8 T v D n Hs) {g : Nat} (hg : g < D.G) (ho : D.ou g = 1) (hz : D.ba g ≠ 0) (hT1 : T + 1 ≤ 600) : ∃ v2, F_K_call__ v (nI 5) (nI g) = some (nI (D.wk g + 1), v2) ∧ S8 (T + 1) v2 (upD (upD D 9 g D.mi) 8 g (D.wk g + 1)) (keepN n) (keepH Hs n D) := by
  obtain ⟨⟨⟨m, o⟩, cr⟩, hh, hs, hB, hT⟩ := h
  have hG := o.1.G
  have hU := o.1.U
  have hR0 := o.1.R
  have hm := o.2.2
  obtain ⟨r8, k8, hh2⟩ := hh.keep m ⟨o, cr⟩
  obtain ⟨l8, f8, g8, n8⟩ := u_walk m o.1 hg
  have hba := o.1.ba g hg
  refine ⟨(v.1, v.2.1, v.2.2.1, l8.2, v.2.2.2.2.1, v.2.2.2.2.2.1, v.2.2.2.2.2.2.1, v.2.2.2.2.2.2.2.1, v.2.2.2.2.2.2.2.2.1, v.2.2.2.2.2.2.2.2.2.1, r8.1, r8.2, v.2.2.2.2.2.2.2.2.2.2.2.2.1, v.2.2.2.2.2.2.2.2.2.2.2.2.2.1, v.2.2.2.2.2.2.2.2.2.2.2.2.2.2.1, v.2.2.2.2.2.2.2.2.2.2.2.2.2.2.2), ?_, ⟨⟨n8, okn_walk o hg hT1⟩, car_same cr rfl (fun _ => rfl) (fun _ => rfl)⟩, hh2.mono (Nat.le_succ T) hT1, hs.mono (Nat.le_succ T) hT1, hB, hT1⟩
  rw [kc1_5]
  simp (disch := omega) only [F_arm_walkDog, F_X8_walkDog, u_rG_ok m o.1 hg, u_isAway m o.1 hg, ho, m.ba, hz, m.mi, f8, g8, k8, q_lit, q_neg, nI_add, pk_mul, q_sb, q_lt0, q_ck, q_cl, q_le, q_lt, q_eq, q_m1e, q_e1m, q_m1l, e10, e20, e30, e40, e21, e31, e41, e32, e42, e43, eq_self, if_true, if_false, q_cn0, q_cn1, e14, e12, e13, e24, e23, e34, x1o, x2o, x3o, x4o]
theorem mu5o {T : Nat} {v : KV} {D : Dn} {n : Nat} {Hs : Nat → Dn} (h : S8 T v D n Hs) {g : Nat} (hg : g < D.G) (ho : D.ou g = 0) : F_K_call__ v (nI 5) (nI g) = some (kS, v) := by
  obtain ⟨⟨⟨m, o⟩, cr⟩, hh, hs, hB, hT⟩ := h
  have hG := o.1.G
  have hU := o.1.U
  have hR0 := o.1.R
  have hm := o.2.2
  rw [kc1_5]
  simp (disch := omega) only [F_arm_walkDog, F_X8_walkDog, u_rG_ok m o.1 hg, u_isAway m o.1 hg, ho, q_lit, q_neg, nI_add, pk_mul, q_sb, q_lt0, q_ck, q_cl, q_le, q_lt, q_eq, q_m1e, q_e1m, q_m1l, e10, e20, e30, e40, e21, e31, e41, e32, e42, e43, eq_self, if_true, if_false, q_cn0, q_cn1, e14, e12, e13, e24, e23, e34, x1o, x2o, x3o, x4o]
theorem mu5z {T : Nat} {v : KV} {D : Dn} {n : Nat} {Hs : Nat → Dn} (h : S8 T v D n Hs) {g : Nat} (hg : g < D.G) (ho : D.ou g = 1) (hz : D.ba g = 0) : F_K_call__ v (nI 5) (nI g) = some (kS, v) := by
  obtain ⟨⟨⟨m, o⟩, cr⟩, hh, hs, hB, hT⟩ := h
  have hG := o.1.G
  have hU := o.1.U
  have hR0 := o.1.R
  have hm := o.2.2
  rw [kc1_5]
  simp (disch := omega) only [F_arm_walkDog, F_X8_walkDog, u_rG_ok m o.1 hg, u_isAway m o.1 hg, ho, m.ba, hz, q_lit, q_neg, nI_add, pk_mul, q_sb, q_lt0, q_ck, q_cl, q_le, q_lt, q_eq, q_m1e, q_e1m, q_m1l, e10, e20, e30, e40, e21, e31, e41, e32, e42, e43, eq_self, if_true, if_false, q_cn0, q_cn1, e14, e12, e13, e24, e23, e34, x1o, x2o, x3o, x4o]
theorem mu6 {T : Nat} {v : KV} {D : Dn} {n : Nat} {Hs : Nat → Dn} (h : S8 T v D n Hs) {c : Nat} (hc : c ≤ 9) : ∃ v2, F_K_call__ v (nI 6) (nI c) = some (nI D.ra, v2) ∧ S8 (T) v2 (upD D 0 1 c) (keepN n) (keepH Hs n D) := by
  obtain ⟨⟨⟨m, o⟩, cr⟩, hh, hs, hB, hT⟩ := h
  have hG := o.1.G
  have hU := o.1.U
  have hR0 := o.1.R
  have hm := o.2.2
  obtain ⟨r8, k8, hh2⟩ := hh.keep m ⟨o, cr⟩
  have n8 := m.s_ra (v := c)
  have on : OkN T (upD D 0 1 c) := ⟨o.1.s_ra hc, alt_same o.2.1 rfl rfl (fun _ => ⟨rfl, rfl, rfl⟩) (fun _ _ => ⟨rfl, rfl⟩), hm⟩
  have q8 := rng_ok (Nat.zero_le c) hc (by omega)
  refine ⟨(v.1, v.2.1, va_up v.2.2.1 1 (nI c), v.2.2.2.1, v.2.2.2.2.1, v.2.2.2.2.2.1, v.2.2.2.2.2.2.1, v.2.2.2.2.2.2.2.1, v.2.2.2.2.2.2.2.2.1, v.2.2.2.2.2.2.2.2.2.1, r8.1, r8.2, v.2.2.2.2.2.2.2.2.2.2.2.2.1, v.2.2.2.2.2.2.2.2.2.2.2.2.2.1, v.2.2.2.2.2.2.2.2.2.2.2.2.2.2.1, v.2.2.2.2.2.2.2.2.2.2.2.2.2.2.2), ?_, ⟨⟨n8, on⟩, car_same cr rfl (fun _ => rfl) (fun _ => rfl)⟩, hh2, hs, hB, hT⟩
  rw [kc1_6]
  simp (disch := omega) only [F_arm_setRain, F_X8_setRain, q8, m.ra, k8, q_lit, q_neg, nI_add, pk_mul, q_sb, q_lt0, q_ck, q_cl, q_le, q_lt, q_eq, q_m1e, q_e1m, q_m1l, e10, e20, e30, e40, e21, e31, e41, e32, e42, e43, eq_self, if_true, if_false, q_cn0, q_cn1, e14, e12, e13, e24, e23, e34, x1o, x2o, x3o, x4o]
theorem mu6r {T : Nat} {v : KV} {D : Dn} {n : Nat} {Hs : Nat → Dn} (h : S8 T v D n Hs) {c : Nat} (hc : 9 < c) (hc2 : c < 100000) : F_K_call__ v (nI 6) (nI c) = some (kA, v) := by
  obtain ⟨⟨⟨m, o⟩, cr⟩, hh, hs, hB, hT⟩ := h
  have hG := o.1.G
  have hU := o.1.U
  have hR0 := o.1.R
  have hm := o.2.2
  have q8 := rng_bad (lo := 0) (Or.inr hc) hc2 (by omega) (by omega)
  rw [kc1_6]
  simp (disch := omega) only [F_arm_setRain, F_X8_setRain, q8, q_lit, q_neg, nI_add, pk_mul, q_sb, q_lt0, q_ck, q_cl, q_le, q_lt, q_eq, q_m1e, q_e1m, q_m1l, e10, e20, e30, e40, e21, e31, e41, e32, e42, e43, eq_self, if_true, if_false, q_cn0, q_cn1, e14, e12, e13, e24, e23, e34, x1o, x2o, x3o, x4o]
theorem mu7 {T : Nat} {v : KV} {D : Dn} {n : Nat} {Hs : Nat → Dn} (h : S8 T v D n Hs) {c : Nat} (hc : c ≤ 999) : ∃ v2, F_K_call__ v (nI 7) (nI c) = some (nI D.li, v2) ∧ S8 (T) v2 (upD D 0 2 c) (keepN n) (keepH Hs n D) := by
  obtain ⟨⟨⟨m, o⟩, cr⟩, hh, hs, hB, hT⟩ := h
  have hG := o.1.G
  have hU := o.1.U
  have hR0 := o.1.R
  have hm := o.2.2
  obtain ⟨r8, k8, hh2⟩ := hh.keep m ⟨o, cr⟩
  have n8 := m.s_li (v := c)
  have on : OkN T (upD D 0 2 c) := ⟨o.1.s_li hc, alt_same o.2.1 rfl rfl (fun _ => ⟨rfl, rfl, rfl⟩) (fun _ _ => ⟨rfl, rfl⟩), hm⟩
  have q8 := rng_ok (Nat.zero_le c) hc (by omega)
  refine ⟨(v.1, v.2.1, va_up v.2.2.1 2 (nI c), v.2.2.2.1, v.2.2.2.2.1, v.2.2.2.2.2.1, v.2.2.2.2.2.2.1, v.2.2.2.2.2.2.2.1, v.2.2.2.2.2.2.2.2.1, v.2.2.2.2.2.2.2.2.2.1, r8.1, r8.2, v.2.2.2.2.2.2.2.2.2.2.2.2.1, v.2.2.2.2.2.2.2.2.2.2.2.2.2.1, v.2.2.2.2.2.2.2.2.2.2.2.2.2.2.1, v.2.2.2.2.2.2.2.2.2.2.2.2.2.2.2), ?_, ⟨⟨n8, on⟩, car_same cr rfl (fun _ => rfl) (fun _ => rfl)⟩, hh2, hs, hB, hT⟩
  rw [kc1_7]
  simp (disch := omega) only [F_arm_setNoiseLimit, F_X8_setNoiseLimit, q8, m.li, k8, q_lit, q_neg, nI_add, pk_mul, q_sb, q_lt0, q_ck, q_cl, q_le, q_lt, q_eq, q_m1e, q_e1m, q_m1l, e10, e20, e30, e40, e21, e31, e41, e32, e42, e43, eq_self, if_true, if_false, q_cn0, q_cn1, e14, e12, e13, e24, e23, e34, x1o, x2o, x3o, x4o]
theorem mu7r {T : Nat} {v : KV} {D : Dn} {n : Nat} {Hs : Nat → Dn} (h : S8 T v D n Hs) {c : Nat} (hc : 999 < c) (hc2 : c < 100000) : F_K_call__ v (nI 7) (nI c) = some (kA, v) := by
  obtain ⟨⟨⟨m, o⟩, cr⟩, hh, hs, hB, hT⟩ := h
  have hG := o.1.G
  have hU := o.1.U
  have hR0 := o.1.R
  have hm := o.2.2
  have q8 := rng_bad (lo := 0) (Or.inr hc) hc2 (by omega) (by omega)
  rw [kc1_7]
  simp (disch := omega) only [F_arm_setNoiseLimit, F_X8_setNoiseLimit, q8, q_lit, q_neg, nI_add, pk_mul, q_sb, q_lt0, q_ck, q_cl, q_le, q_lt, q_eq, q_m1e, q_e1m, q_m1l, e10, e20, e30, e40, e21, e31, e41, e32, e42, e43, eq_self, if_true, if_false, q_cn0, q_cn1, e14, e12, e13, e24, e23, e34, x1o, x2o, x3o, x4o]
theorem mu1 {T : Nat} {v : KV} {D : Dn} {n : Nat} {Hs : Nat → Dn} (h : S8 T v D n Hs) {g : Nat} (hg : g < D.G) {c : Nat} (hc : c ≤ 99) (hU2 : D.U < 12) : ∃ v2, F_K_call_ v (nI 1) (nI g) (nI c) = some (nI D.U, v2) ∧ S8 (T) v2 (upD (upD (upD (upD D 10 D.U g) 11 D.U c) 12 D.U 0) 0 8 (D.U + 1)) (keepN n) (keepH Hs n D) := by
  obtain ⟨⟨⟨m, o⟩, cr⟩, hh, hs, hB, hT⟩ := h
  have hG := o.1.G
  have hU := o.1.U
  have hR0 := o.1.R
  have hm := o.2.2
  obtain ⟨r8, k8, hh2⟩ := hh.keep m ⟨o, cr⟩
  obtain ⟨l8, f8, g8, n8⟩ := u_addU (a := g) (b := c) m o.1 hU2
  have on := okn_addU o hU2 hg hc
  have q8 := rng_ok (Nat.zero_le c) hc (by omega)
  refine ⟨(v.1, v.2.1, v.2.2.1, v.2.2.2.1, l8.2, v.2.2.2.2.2.1, v.2.2.2.2.2.2.1, v.2.2.2.2.2.2.2.1, v.2.2.2.2.2.2.2.2.1, v.2.2.2.2.2.2.2.2.2.1, r8.1, r8.2, v.2.2.2.2.2.2.2.2.2.2.2.2.1, v.2.2.2.2.2.2.2.2.2.2.2.2.2.1, v.2.2.2.2.2.2.2.2.2.2.2.2.2.2.1, v.2.2.2.2.2.2.2.2.2.2.2.2.2.2.2), ?_, ⟨⟨n8, on⟩, car_umb cr g _⟩, hh2, hs, hB, hT⟩
  rw [kc2_1]
  simp (disch := omega) only [F_arm_addUmbrella, F_X8_addUmbrella, u_rG_ok m o.1 hg, q8, m.U, hU2, f8, g8, k8, q_lit, q_neg, nI_add, pk_mul, q_sb, q_lt0, q_ck, q_cl, q_le, q_lt, q_eq, q_m1e, q_e1m, q_m1l, e10, e20, e30, e40, e21, e31, e41, e32, e42, e43, eq_self, if_true, if_false, q_cn0, q_cn1, e14, e12, e13, e24, e23, e34, x1o, x2o, x3o, x4o]
theorem mu1f {T : Nat} {v : KV} {D : Dn} {n : Nat} {Hs : Nat → Dn} (h : S8 T v D n Hs) {g : Nat} (hg : g < D.G) {c : Nat} (hc : c ≤ 99) (hU2 : D.U = 12) : F_K_call_ v (nI 1) (nI g) (nI c) = some (kS, v) := by
  obtain ⟨⟨⟨m, o⟩, cr⟩, hh, hs, hB, hT⟩ := h
  have hG := o.1.G
  have hU := o.1.U
  have hR0 := o.1.R
  have hm := o.2.2
  have q8 := rng_ok (Nat.zero_le c) hc (by omega)
  rw [kc2_1]
  simp (disch := omega) only [F_arm_addUmbrella, F_X8_addUmbrella, u_rG_ok m o.1 hg, q8, m.U, hU2, Nat.lt_irrefl, q_lit, q_neg, nI_add, pk_mul, q_sb, q_lt0, q_ck, q_cl, q_le, q_lt, q_eq, q_m1e, q_e1m, q_m1l, e10, e20, e30, e40, e21, e31, e41, e32, e42, e43, eq_self, if_true, if_false, q_cn0, q_cn1, e14, e12, e13, e24, e23, e34, x1o, x2o, x3o, x4o]
theorem mu1r {T : Nat} {v : KV} {D : Dn} {n : Nat} {Hs : Nat → Dn} (h : S8 T v D n Hs) {g : Nat} (hg : g < D.G) {c : Nat} (hc : 99 < c) (hc2 : c < 100000) : F_K_call_ v (nI 1) (nI g) (nI c) = some (kA, v) := by
  obtain ⟨⟨⟨m, o⟩, cr⟩, hh, hs, hB, hT⟩ := h
  have hG := o.1.G
  have hU := o.1.U
  have hR0 := o.1.R
  have hm := o.2.2
  have q8 := rng_bad (lo := 0) (Or.inr hc) hc2 (by omega) (by omega)
  rw [kc2_1]
  simp (disch := omega) only [F_arm_addUmbrella, F_X8_addUmbrella, u_rG_ok m o.1 hg, q8, q_lit, q_neg, nI_add, pk_mul, q_sb, q_lt0, q_ck, q_cl, q_le, q_lt, q_eq, q_m1e, q_e1m, q_m1l, e10, e20, e30, e40, e21, e31, e41, e32, e42, e43, eq_self, if_true, if_false, q_cn0, q_cn1, e14, e12, e13, e24, e23, e34, x1o, x2o, x3o, x4o]
theorem mu1b {T : Nat} {v : KV} {D : Dn} {n : Nat} {Hs : Nat → Dn} (h : S8 T v D n Hs) {g : Nat} {xb : Int32} (hg : D.G ≤ g) (hg2 : g < 100000) : F_K_call_ v (nI 1) (nI g) xb = some (kI, v) := by
  obtain ⟨⟨⟨m, o⟩, cr⟩, hh, hs, hB, hT⟩ := h
  have hG := o.1.G
  have hU := o.1.U
  have hR0 := o.1.R
  have hm := o.2.2
  rw [kc2_1]
  simp (disch := omega) only [F_arm_addUmbrella, F_X8_addUmbrella, u_rG_bad m o.1 (show badI (nI g) D.G from Or.inr ⟨g, hg, by omega, rfl⟩), q_lit, q_neg, nI_add, pk_mul, q_sb, q_lt0, q_ck, q_cl, q_le, q_lt, q_eq, q_m1e, q_e1m, q_m1l, e10, e20, e30, e40, e21, e31, e41, e32, e42, e43, eq_self, if_true, if_false, q_cn0, q_cn1, e14, e12, e13, e24, e23, e34, x1o, x2o, x3o, x4o]
theorem mu2b {T : Nat} {v : KV} {D : Dn} {n : Nat} {Hs : Nat → Dn} (h : S8 T v D n Hs) {g : Nat} (hg : D.G ≤ g) (hg2 : g < 100000) : F_K_call__ v (nI 2) (nI g) = some (kI, v) := by
  obtain ⟨⟨⟨m, o⟩, cr⟩, hh, hs, hB, hT⟩ := h
  have hG := o.1.G
  have hU := o.1.U
  have hR0 := o.1.R
  have hm := o.2.2
  rw [kc1_2]
  simp (disch := omega) only [F_arm_leave, F_X8_leave, u_rG_bad m o.1 (show badI (nI g) D.G from Or.inr ⟨g, hg, by omega, rfl⟩), q_lit, q_neg, nI_add, pk_mul, q_sb, q_lt0, q_ck, q_cl, q_le, q_lt, q_eq, q_m1e, q_e1m, q_m1l, e10, e20, e30, e40, e21, e31, e41, e32, e42, e43, eq_self, if_true, if_false, q_cn0, q_cn1, e14, e12, e13, e24, e23, e34, x1o, x2o, x3o, x4o]
theorem mu3b {T : Nat} {v : KV} {D : Dn} {n : Nat} {Hs : Nat → Dn} (h : S8 T v D n Hs) {g : Nat} (hg : D.G ≤ g) (hg2 : g < 100000) : F_K_call__ v (nI 3) (nI g) = some (kI, v) := by
  obtain ⟨⟨⟨m, o⟩, cr⟩, hh, hs, hB, hT⟩ := h
  have hG := o.1.G
  have hU := o.1.U
  have hR0 := o.1.R
  have hm := o.2.2
  rw [kc1_3]
  simp (disch := omega) only [F_arm_comeBack, F_X8_comeBack, u_rG_bad m o.1 (show badI (nI g) D.G from Or.inr ⟨g, hg, by omega, rfl⟩), q_lit, q_neg, nI_add, pk_mul, q_sb, q_lt0, q_ck, q_cl, q_le, q_lt, q_eq, q_m1e, q_e1m, q_m1l, e10, e20, e30, e40, e21, e31, e41, e32, e42, e43, eq_self, if_true, if_false, q_cn0, q_cn1, e14, e12, e13, e24, e23, e34, x1o, x2o, x3o, x4o]
theorem mu5b {T : Nat} {v : KV} {D : Dn} {n : Nat} {Hs : Nat → Dn} (h : S8 T v D n Hs) {g : Nat} (hg : D.G ≤ g) (hg2 : g < 100000) : F_K_call__ v (nI 5) (nI g) = some (kI, v) := by
  obtain ⟨⟨⟨m, o⟩, cr⟩, hh, hs, hB, hT⟩ := h
  have hG := o.1.G
  have hU := o.1.U
  have hR0 := o.1.R
  have hm := o.2.2
  rw [kc1_5]
  simp (disch := omega) only [F_arm_walkDog, F_X8_walkDog, u_rG_bad m o.1 (show badI (nI g) D.G from Or.inr ⟨g, hg, by omega, rfl⟩), q_lit, q_neg, nI_add, pk_mul, q_sb, q_lt0, q_ck, q_cl, q_le, q_lt, q_eq, q_m1e, q_e1m, q_m1l, e10, e20, e30, e40, e21, e31, e41, e32, e42, e43, eq_self, if_true, if_false, q_cn0, q_cn1, e14, e12, e13, e24, e23, e34, x1o, x2o, x3o, x4o]
theorem mu8 {T : Nat} {v : KV} {D : Dn} {n : Nat} {Hs : Nat → Dn} (h : S8 T v D n Hs) {xa : Int32} (hn : 0 < n) : ∃ v2, F_K_call__ v (nI 8) xa = some (nI (n - 1), v2) ∧ S8 T v2 (Hs (n - 1)) (n - 1) Hs ∧ v2.1 = v.1 := by
  obtain ⟨⟨⟨m, o⟩, cr⟩, hh, hs, hB, hT⟩ := h
  have hG := o.1.G
  have hU := o.1.U
  have hR0 := o.1.R
  have hm := o.2.2
  obtain ⟨q, hn8, hq, h1, h2, hH⟩ := hh
  obtain ⟨oE, mE8⟩ := hH (n - 1) (by omega)
  rw [show (q + 8 - n + (n - 1)) % 8 = (q + 7) % 8 by omega] at mE8
  obtain ⟨r8, f8, n8, g8⟩ := u_back (vN := v.2.2.1) (vG := v.2.2.2.1) (vU := v.2.2.2.2.1) (vR := v.2.2.2.2.2.1) hq hn hn8 h1 h2 mE8 oE.1.1
  have u1 : (va_up (va_up (v.2.2.2.2.2.2.2.2.2.2.1) 0 (nI ((q + 7) % 8))) 1 (nI (n - 1))) 1 = nI (n - 1) := rfl
  have hz : ¬ n = 0 := by omega
  refine ⟨(v.1, v.2.1, r8.1, r8.2.1, r8.2.2.1, r8.2.2.2.1, v.2.2.2.2.2.2.1, v.2.2.2.2.2.2.2.1, v.2.2.2.2.2.2.2.2.1, v.2.2.2.2.2.2.2.2.2.1, va_up (va_up (v.2.2.2.2.2.2.2.2.2.2.1) 0 (nI ((q + 7) % 8))) 1 (nI (n - 1)), v.2.2.2.2.2.2.2.2.2.2.2.1, v.2.2.2.2.2.2.2.2.2.2.2.2.1, v.2.2.2.2.2.2.2.2.2.2.2.2.2.1, v.2.2.2.2.2.2.2.2.2.2.2.2.2.2.1, v.2.2.2.2.2.2.2.2.2.2.2.2.2.2.2), ?_, ⟨⟨⟨n8, oE.1⟩, oE.2⟩, ⟨(q + 7) % 8, by omega, by omega, rfl, rfl, fun j hj => ?_⟩, hs, hB, hT⟩, rfl⟩
  · rw [kc1_8]
    simp (disch := omega) only [F_arm_undo, F_X8_undo, h2, hz, f8, g8, u1, q_lit, q_neg, nI_add, pk_mul, q_sb, q_lt0, q_ck, q_cl, q_le, q_lt, q_eq, q_m1e, q_e1m, q_m1l, e10, e20, e30, e40, e21, e31, e41, e32, e42, e43, eq_self, if_true, if_false, q_cn0, q_cn1, e14, e12, e13, e24, e23, e34, x1o, x2o, x3o, x4o]
  · obtain ⟨a, b⟩ := hH j (by omega)
    refine ⟨a, ?_⟩
    rw [show ((q + 7) % 8 + 8 - (n - 1) + j) % 8 = (q + 8 - n + j) % 8 by omega]
    exact b
theorem mu8f {T : Nat} {v : KV} {D : Dn} {n : Nat} {Hs : Nat → Dn} (h : S8 T v D n Hs) {xa : Int32} (hn : n = 0) : F_K_call__ v (nI 8) xa = some (kS, v) := by
  obtain ⟨⟨⟨m, o⟩, cr⟩, hh, hs, hB, hT⟩ := h
  have hG := o.1.G
  have hU := o.1.U
  have hR0 := o.1.R
  have hm := o.2.2
  obtain ⟨q, hn8, hq, h1, h2, hH⟩ := hh
  rw [kc1_8]
  simp (disch := omega) only [F_arm_undo, F_X8_undo, h2, hn, q_lit, q_neg, nI_add, pk_mul, q_sb, q_lt0, q_ck, q_cl, q_le, q_lt, q_eq, q_m1e, q_e1m, q_m1l, e10, e20, e30, e40, e21, e31, e41, e32, e42, e43, eq_self, if_true, if_false, q_cn0, q_cn1, e14, e12, e13, e24, e23, e34, x1o, x2o, x3o, x4o]
theorem mu9 {T : Nat} {v : KV} {D : Dn} {n : Nat} {Hs : Nat → Dn} (h : S8 T v D n Hs) {s : Nat} (hs2 : s < 2) : ∃ v2, F_K_call__ v (nI 9) (nI s) = some (nI D.mi, v2) ∧ S8 T v2 D n Hs := by
  obtain ⟨⟨⟨m, o⟩, cr⟩, hh, hs, hB, hT⟩ := h
  have hG := o.1.G
  have hU := o.1.U
  have hR0 := o.1.R
  have hm := o.2.2
  obtain ⟨u, f8, n8⟩ := u_copyr (vN := ((v.2.2.2.2.2.2.2.2.2.2.2.2.2.1) s).1) (vG := ((v.2.2.2.2.2.2.2.2.2.2.2.2.2.1) s).2.1) (vU := ((v.2.2.2.2.2.2.2.2.2.2.2.2.2.1) s).2.2.1) (vR := ((v.2.2.2.2.2.2.2.2.2.2.2.2.2.1) s).2.2.2) m o.1
  refine ⟨(v.1, v.2.1, v.2.2.1, v.2.2.2.1, v.2.2.2.2.1, v.2.2.2.2.2.1, v.2.2.2.2.2.2.1, v.2.2.2.2.2.2.2.1, v.2.2.2.2.2.2.2.2.1, v.2.2.2.2.2.2.2.2.2.1, v.2.2.2.2.2.2.2.2.2.2.1, v.2.2.2.2.2.2.2.2.2.2.2.1, upd (v.2.2.2.2.2.2.2.2.2.2.2.2.1) s (nI 1), va_up (v.2.2.2.2.2.2.2.2.2.2.2.2.2.1) s (u.1, u.2.1, u.2.2.1, u.2.2.2), v.2.2.2.2.2.2.2.2.2.2.2.2.2.2.1, v.2.2.2.2.2.2.2.2.2.2.2.2.2.2.2), ?_, ⟨⟨m, o⟩, cr⟩, hh, fun t ht => ?_, hB, hT⟩
  · rw [kc1_9]
    simp (disch := omega) only [F_arm_saveSnapshot, F_X8_saveSnapshot, F_X6_put, slot_ok hs2, f8, m.mi, q_lit, q_neg, nI_add, pk_mul, q_sb, q_lt0, q_ck, q_cl, q_le, q_lt, q_eq, q_m1e, q_e1m, q_m1l, e10, e20, e30, e40, e21, e31, e41, e32, e42, e43, eq_self, if_true, if_false, q_cn0, q_cn1, e14, e12, e13, e24, e23, e34, x1o, x2o, x3o, x4o]
  · by_cases ct : t = s
    · subst ct
      refine Or.inr ⟨up_eq, D, ⟨o, cr⟩, ?_⟩
      show M8v (va_up _ t _ t) D
      rw [va_eq]
      exact n8
    · show upd _ s _ t = nI 0 ∨ (upd _ s _ t = nI 1 ∧ ∃ E, OkC T E ∧ M8v (va_up _ s _ t) E)
      rw [up_ne ct, va_up_ne _ _ ct]
      exact hs t ht
theorem mu10 {T : Nat} {v : KV} {D : Dn} {n : Nat} {Hs : Nat → Dn} (h : S8 T v D n Hs) {s : Nat} (hs2 : s < 2) : F_K_call__ v (nI 10) (nI s) = some (kN, v) ∨ ∃ v2 E, F_K_call__ v (nI 10) (nI s) = some (nI E.mi, v2) ∧ S8 T v2 E (keepN n) (keepH Hs n D) := by
  obtain ⟨⟨⟨m, o⟩, cr⟩, hh, hs, hB, hT⟩ := h
  have hG := o.1.G
  have hU := o.1.U
  have hR0 := o.1.R
  have hm := o.2.2
  rcases hs s hs2 with a1 | ⟨a1, E, oE, mE8⟩
  · left
    rw [kc1_10]
    simp (disch := omega) only [F_arm_restoreSnapshot, F_X8_restoreSnapshot, slot_ok hs2, a1, q_lit, q_neg, nI_add, pk_mul, q_sb, q_lt0, q_ck, q_cl, q_le, q_lt, q_eq, q_m1e, q_e1m, q_m1l, e10, e20, e30, e40, e21, e31, e41, e32, e42, e43, eq_self, if_true, if_false, q_cn0, q_cn1, e14, e12, e13, e24, e23, e34, x1o, x2o, x3o, x4o]
  · right
    obtain ⟨r8, k8, hh2⟩ := hh.keep m ⟨o, cr⟩
    obtain ⟨l8, f8, n8⟩ := u_copy (vN := v.2.2.1) (vG := v.2.2.2.1) (vU := v.2.2.2.2.1) (vR := v.2.2.2.2.2.1) mE8 oE.1.1
    have u8 : l8.1 0 = nI E.mi := n8.mi
    refine ⟨(v.1, v.2.1, l8.1, l8.2.1, l8.2.2.1, l8.2.2.2, v.2.2.2.2.2.2.1, v.2.2.2.2.2.2.2.1, v.2.2.2.2.2.2.2.2.1, v.2.2.2.2.2.2.2.2.2.1, r8.1, r8.2, v.2.2.2.2.2.2.2.2.2.2.2.2.1, v.2.2.2.2.2.2.2.2.2.2.2.2.2.1, v.2.2.2.2.2.2.2.2.2.2.2.2.2.2.1, v.2.2.2.2.2.2.2.2.2.2.2.2.2.2.2), E, ?_, ⟨⟨n8, oE.1⟩, oE.2⟩, hh2, hs, hB, hT⟩
    rw [kc1_10]
    simp (disch := omega) only [F_arm_restoreSnapshot, F_X8_restoreSnapshot, slot_ok hs2, a1, k8, f8, u8, q_lit, q_neg, nI_add, pk_mul, q_sb, q_lt0, q_ck, q_cl, q_le, q_lt, q_eq, q_m1e, q_e1m, q_m1l, e10, e20, e30, e40, e21, e31, e41, e32, e42, e43, eq_self, if_true, if_false, q_cn0, q_cn1, e14, e12, e13, e24, e23, e34, x1o, x2o, x3o, x4o]
