/-! answers of both sides-/
def Ans (FL : Option (Int32 × (Nat → Int64))) (F9 : Option (Int32 × ((Nat → Int32) × Int64))) (vM : (Nat → Int32) × Int64) : Prop := ∃ c O b M, FL = some (c, O) ∧ F9 = some (b, M) ∧ M.1 3 = c ∧ (c = 0 → O 0 = Int32.toInt64 b) ∧ ∀ k, k ≠ 3 → M.1 k = vM.1 k
def AnsB (FL : Option (Int32 × (Nat → Int64))) (F9 : Option (Int32 × ((Nat → Int32) × Int64))) (vM : (Nat → Int32) × Int64) : Prop := ∃ c O b M, FL = some (c, O) ∧ F9 = some (b, M) ∧ M.1 3 = c ∧ (c = 0 → O 0 = if b = 0 then 0 else 1) ∧ ∀ k, k ≠ 3 → M.1 k = vM.1 k
def AnsP (F8 : Option Int32) (F9 : Option (Int32 × ((Nat → Int32) × Int64))) (vM : (Nat → Int32) × Int64) : Prop := ∃ b M, F8 = some b ∧ F9 = some (b, M) ∧ ∀ k, k ≠ 3 → M.1 k = vM.1 k
theorem an_ok {vM : (Nat → Int32) × Int64} {vO : Nat → Int64} {b : Int32} : Ans (some (nI 0, vp_updL vO 0 (Int32.toInt64 b))) (some (b, va_up vM.1 3 (nI 0), vM.2)) vM :=
  ⟨_, _, _, _, rfl, rfl, rfl, fun _ => rfl, fun _ hk => va_up_ne _ _ hk⟩
theorem an_f {vM : (Nat → Int32) × Int64} {vO : Nat → Int64} {b c : Int32} (hc : ¬ c = 0) : Ans (some (c, vO)) (some (b, va_up (va_up vM.1 3 (nI 0)) 3 c, vM.2)) vM :=
  ⟨_, _, _, _, rfl, rfl, va_up_self (va_up vM.1 3 (nI 0)) 3 c, fun h => absurd h hc, fun _ hk => (va_up_ne _ _ hk).trans (va_up_ne _ _ hk)⟩
theorem an_b0 {vM : (Nat → Int32) × Int64} {vO : Nat → Int64} {x : Int64} (hx : x = 0 := by rfl) : AnsB (some (nI 0, vp_updL vO 0 x)) (some (nI 0, va_up vM.1 3 (nI 0), vM.2)) vM :=
  ⟨_, _, _, _, rfl, rfl, rfl, fun _ => hx, fun _ hk => va_up_ne _ _ hk⟩
theorem an_b1 {vM : (Nat → Int32) × Int64} {vO : Nat → Int64} {x : Int64} (hx : x = 1 := by rfl) : AnsB (some (nI 0, vp_updL vO 0 x)) (some (nI 1, va_up vM.1 3 (nI 0), vM.2)) vM :=
  ⟨_, _, _, _, rfl, rfl, rfl, fun _ => hx, fun _ hk => va_up_ne _ _ hk⟩
theorem an_bf {vM : (Nat → Int32) × Int64} {vO : Nat → Int64} {b c : Int32} (hc : ¬ c = 0) : AnsB (some (c, vO)) (some (b, va_up (va_up vM.1 3 (nI 0)) 3 c, vM.2)) vM :=
  ⟨_, _, _, _, rfl, rfl, va_up_self (va_up vM.1 3 (nI 0)) 3 c, fun h => absurd h hc, fun _ hk => (va_up_ne _ _ hk).trans (va_up_ne _ _ hk)⟩
theorem an_p {vM : (Nat → Int32) × Int64} {b : Int32} : AnsP (some b) (some (b, va_up vM.1 3 (nI 0), vM.2)) vM :=
  ⟨_, _, rfl, rfl, fun _ hk => va_up_ne _ _ hk⟩
theorem ck01 {α : Type} (k : Option α) : ck 0 1 k = k := q_ck (n := 0) (N := 1) (by omega) (by omega)
theorem an_int {FL : Option (Int32 × (Nat → Int64))} {F9 : Option (Int32 × ((Nat → Int32) × Int64))} {vM : (Nat → Int32) × Int64} (h : Ans FL F9 vM) : ∃ r : (Nat) × ((Nat → Int32) × Int64) × (Nat → Int64), FL.bind (fun u1 => F9.bind (fun u2 => (F_X9_thrown u2.2).bind (fun u3 => (if u3 = u1.1 then (if u1.1 = 0 then ck 0 1 ((if (lg_cmp (u1.2 (Int32.toNatClampNeg 0)) (Int32.toInt64 u2.1)) = 0 then (some (1, u2.2, u1.2)) else (some (0, u2.2, u1.2)))) else (some (1, u2.2, u1.2))) else (some (0, u2.2, u1.2)))))) = some r ∧ r.1 = 1 ∧ ∀ k, k ≠ 3 → r.2.1.1 k = vM.1 k := by
  obtain ⟨c, O, b, M, e1, e2, h3, h4, h5⟩ := h
  refine ⟨(1, M, O), ?_, rfl, h5⟩
  subst e1 e2
  show (if M.1 3 = c then (if c = 0 then ck 0 1 ((if (lg_cmp (O 0) (Int32.toInt64 b)) = 0 then (some (1, M, O)) else (some (0, M, O)))) else (some (1, M, O))) else (some (0, M, O))) = some (1, M, O)
  rw [if_pos h3]
  by_cases hc : c = 0
  · rw [if_pos hc, ck01, if_pos ((lg_cmp_eq _ _).mpr (h4 hc))]
  · rw [if_neg hc]
theorem an_boo {FL : Option (Int32 × (Nat → Int64))} {F9 : Option (Int32 × ((Nat → Int32) × Int64))} {vM : (Nat → Int32) × Int64} (h : AnsB FL F9 vM) : ∃ r : (Nat) × ((Nat → Int32) × Int64) × (Nat → Int64), FL.bind (fun u1 => F9.bind (fun u2 => (F_X9_thrown u2.2).bind (fun u3 => (if u3 = u1.1 then (if u1.1 = 0 then ck 0 1 ((if u2.1 = 0 then (if (lg_cmp (u1.2 (Int32.toNatClampNeg 0)) 0) = 0 then (some (1, u2.2, u1.2)) else (some (0, u2.2, u1.2))) else (if (lg_cmp (u1.2 (Int32.toNatClampNeg 0)) 1) = 0 then (some (1, u2.2, u1.2)) else (some (0, u2.2, u1.2))))) else (some (1, u2.2, u1.2))) else (some (0, u2.2, u1.2)))))) = some r ∧ r.1 = 1 ∧ ∀ k, k ≠ 3 → r.2.1.1 k = vM.1 k := by
  obtain ⟨c, O, b, M, e1, e2, h3, h4, h5⟩ := h
  refine ⟨(1, M, O), ?_, rfl, h5⟩
  subst e1 e2
  show (if M.1 3 = c then (if c = 0 then ck 0 1 ((if b = 0 then (if (lg_cmp (O 0) 0) = 0 then (some (1, M, O)) else (some (0, M, O))) else (if (lg_cmp (O 0) 1) = 0 then (some (1, M, O)) else (some (0, M, O))))) else (some (1, M, O))) else (some (0, M, O))) = some (1, M, O)
  rw [if_pos h3]
  by_cases hc : c = 0
  · have h6 := h4 hc
    rw [if_pos hc, ck01]
    by_cases hb : b = 0
    · rw [if_pos hb] at h6 ⊢
      rw [if_pos ((lg_cmp_eq _ _).mpr h6)]
    · rw [if_neg hb] at h6 ⊢
      rw [if_pos ((lg_cmp_eq _ _).mpr h6)]
  · rw [if_neg hc]
theorem an_pla {F8 : Option Int32} {F9 : Option (Int32 × ((Nat → Int32) × Int64))} {vM : (Nat → Int32) × Int64} (h : AnsP F8 F9 vM) : ∃ r : (Nat) × ((Nat → Int32) × Int64), F8.bind (fun u1 => F9.bind (fun u2 => (if u1 = u2.1 then (some (1, u2.2)) else (some (0, u2.2))))) = some r ∧ r.1 = 1 ∧ ∀ k, k ≠ 3 → r.2.1 k = vM.1 k := by
  obtain ⟨b, M, e1, e2, h5⟩ := h
  refine ⟨(1, M), ?_, rfl, h5⟩
  subst e1 e2
  exact if_pos rfl
theorem q_xn (x : Int32) : x < nI 0 ∨ ∃ n, n < 2147483648 ∧ x = nI n := by
  by_cases h : x.toInt < 0
  · left
    rw [Int32.lt_iff_toInt_lt, nI_toInt (by omega)]
    exact h
  · right
    have h1 := Int32.toInt_lt x
    refine ⟨x.toInt.toNat, by omega, Int32.toInt_inj.mp ?_⟩
    rw [nI_toInt (by omega)]
    omega
def badI (x : Int32) (G : Nat) : Prop := x < nI 0 ∨ ∃ n, G ≤ n ∧ n < 2147483648 ∧ x = nI n
theorem gcase (x : Int32) (G : Nat) : (∃ g, g < G ∧ x = nI g) ∨ badI x G := by
  rcases q_xn x with h | ⟨n, hn, e⟩
  · exact Or.inr (Or.inl h)
  · by_cases hg : n < G
    · exact Or.inl ⟨n, hg, e⟩
    · exact Or.inr (Or.inr ⟨n, by omega, hn, e⟩)
theorem e10 : ((1 : Nat) = 0) = False := by decide
theorem e01 : ((0 : Nat) = 1) = False := by decide
theorem e20 : ((2 : Nat) = 0) = False := by decide
theorem e30 : ((3 : Nat) = 0) = False := by decide
theorem e40 : ((4 : Nat) = 0) = False := by decide
theorem e21 : ((2 : Nat) = 1) = False := by decide
theorem e31 : ((3 : Nat) = 1) = False := by decide
theorem e41 : ((4 : Nat) = 1) = False := by decide
theorem e32 : ((3 : Nat) = 2) = False := by decide
theorem e42 : ((4 : Nat) = 2) = False := by decide
theorem e43 : ((4 : Nat) = 3) = False := by decide
theorem e4345 : ((43 : Nat) = 45) = False := by decide
theorem q_cn0 {α : Type} {b : Prop} {i : Decidable (True ∨ b)} {k : Option α} : @cn α (True ∨ b) i k = k := if_pos (Or.inl trivial)
theorem q_cn1 {α : Type} {a : Prop} {i : Decidable (a ∨ True)} {k : Option α} : @cn α (a ∨ True) i k = k := if_pos (Or.inr trivial)
theorem q_m1n {a : Nat} (ha : a < 2147483648) : (nI a ≤ m1) = False := q_le1 ha
theorem in_ok {g G : Nat} (h : g < G) (hG : G ≤ 1000) : F_X9_in (nI g) (nI 0) (nI G - nI 1) = some (nI 1) := by
  rw [q_sub (by omega)]
  show (if nI g < nI 0 then some (0 : Int32) else if nI (G - 1) < nI g then some 0 else some 1) = some (nI 1)
  simp (disch := omega) only [q_lt]
  rw [if_neg (by omega), if_neg (by omega)]
  rfl
theorem in_bad {x : Int32} {G : Nat} (h : badI x G) (hG : G ≤ 1000) : F_X9_in x (nI 0) (nI G - nI 1) = some (nI 0) := by
  show (if x < nI 0 then some (0 : Int32) else if (nI G - nI 1) < x then some 0 else some 1) = some (nI 0)
  rcases h with h | ⟨n, h1, h2, rfl⟩
  · rw [if_pos h]; rfl
  · by_cases h0 : G = 0
    · subst h0
      rw [show nI 0 - nI 1 = m1 from rfl]
      simp (disch := omega) only [q_lt, q_1lt, if_true, Nat.not_lt_zero, if_false]
      rfl
    · rw [q_sub (by omega)]
      simp (disch := omega) only [q_lt]
      rw [if_neg (by omega), if_pos (by omega)]
      rfl
theorem t_isG_ok {w : Nat → Int32} {D : Dn} {T : Nat} {vM : (Nat → Int32) × Int64} (m : M9 w D) (o : OkD T D) {g : Nat} (hg : g < D.G) : F_X9_isGuest vM w (nI g) = some (nI 1) := by
  have hG := o.G
  simp (disch := omega) only [F_X9_isGuest, q_lit, q_ck, q_cl, m.G, in_ok hg, q_sb, q_cn1]
theorem t_isG_bad {w : Nat → Int32} {D : Dn} {T : Nat} {vM : (Nat → Int32) × Int64} (m : M9 w D) (o : OkD T D) {x : Int32} (hb : badI x D.G) : F_X9_isGuest vM w x = some (nI 0) := by
  have hG := o.G
  simp (disch := omega) only [F_X9_isGuest, q_lit, q_ck, q_cl, m.G, in_bad hb, q_sb, q_cn0]
theorem t_isU_ok {w : Nat → Int32} {D : Dn} {T : Nat} {vM : (Nat → Int32) × Int64} (m : M9 w D) (o : OkD T D) {g : Nat} (hg : g < D.U) : F_X9_isUmbrella vM w (nI g) = some (nI 1) := by
  have hG := o.U
  simp (disch := omega) only [F_X9_isUmbrella, q_lit, q_ck, q_cl, m.U, in_ok hg, q_sb, q_cn1]
theorem t_isU_bad {w : Nat → Int32} {D : Dn} {T : Nat} {vM : (Nat → Int32) × Int64} (m : M9 w D) (o : OkD T D) {x : Int32} (hb : badI x D.U) : F_X9_isUmbrella vM w x = some (nI 0) := by
  have hG := o.U
  simp (disch := omega) only [F_X9_isUmbrella, q_lit, q_ck, q_cl, m.U, in_bad hb, q_sb, q_cn0]
theorem t_gN_ok {w : Nat → Int32} {D : Dn} {T : Nat} {vM : (Nat → Int32) × Int64} (m : M9 w D) (o : OkD T D) {g c : Nat} (hg : g < D.G) (hc : c ≤ 7) : F_X9_guestNumber vM w (nI g) (nI c) = some (w (10 + 8 * g + c), vM) := by
  have hG := o.G
  simp (disch := omega) only [F_X9_guestNumber, t_isG_ok m o hg, F_X9_guestAt, q_lit, nI_add, pk_mul, q_sb, q_ck, q_cl, q_eq, e10, if_false]
theorem t_gN_bad {w : Nat → Int32} {D : Dn} {T : Nat} {vM : (Nat → Int32) × Int64} (m : M9 w D) (o : OkD T D) {x c : Int32} (hb : badI x D.G) : F_X9_guestNumber vM w x c = some (nI 0, va_up vM.1 3 (nI 1), vM.2) := by
  simp (disch := omega) only [F_X9_guestNumber, t_isG_bad m o hb, F_X9_fails, q_lit, q_sb, q_lt0, q_eq, if_true]
theorem t_uN_ok {w : Nat → Int32} {D : Dn} {T : Nat} {vM : (Nat → Int32) × Int64} (m : M9 w D) (o : OkD T D) {g c : Nat} (hg : g < D.U) (hc : c ≤ 2) : F_X9_umbrellaNumber vM w (nI g) (nI c) = some (w (90 + 3 * g + c), vM) := by
  have hG := o.U
  simp (disch := omega) only [F_X9_umbrellaNumber, t_isU_ok m o hg, F_X9_umbrellaAt, q_lit, nI_add, pk_mul, q_sb, q_ck, q_cl, q_eq, e10, if_false]
theorem t_uN_bad {w : Nat → Int32} {D : Dn} {T : Nat} {vM : (Nat → Int32) × Int64} (m : M9 w D) (o : OkD T D) {x c : Int32} (hb : badI x D.U) : F_X9_umbrellaNumber vM w x c = some (nI 0, va_up vM.1 3 (nI 1), vM.2) := by
  simp (disch := omega) only [F_X9_umbrellaNumber, t_isU_bad m o hb, F_X9_fails, q_lit, q_sb, q_lt0, q_eq, if_true]
theorem t_eN_ok {w : Nat → Int32} {D : Dn} {T : Nat} {vM : (Nat → Int32) × Int64} (m : M9 w D) (o : OkD T D) {g c : Nat} (hg : g < D.R) (hc : c ≤ 2) : F_X9_entryNumber vM w (nI g) (nI c) = some (w (126 + 3 * g + c), vM) := by
  have hG := o.R
  simp (disch := omega) only [F_X9_entryNumber, m.R, in_ok hg, F_X9_entryAt, q_lit, nI_add, pk_mul, q_sb, q_ck, q_cl, q_eq, e10, if_false]
theorem t_eN_bad {w : Nat → Int32} {D : Dn} {T : Nat} {vM : (Nat → Int32) × Int64} (m : M9 w D) (o : OkD T D) {x c : Int32} (hb : badI x D.R) : F_X9_entryNumber vM w x c = some (nI 0, va_up vM.1 3 (nI 1), vM.2) := by
  have hG := o.R
  simp (disch := omega) only [F_X9_entryNumber, m.R, in_bad hb, F_X9_fails, q_lit, q_ck, q_cl, q_sb, q_lt0, q_eq, if_true]
theorem u_rG_ok {vX vN : Nat → Int32} {vG vU vR : Nat → Nat → Int32} {D : Dn} {T : Nat} (m : M8 vN vG vU vR D) (o : OkD T D) {g : Nat} (hg : g < D.G) : F_X8_requireGuest vX vN vG (nI g) = some 0 := by
  have hG := o.G
  show (if nI g < nI 0 then some 4 else if nI g < vG 0 0 then some 0 else some 4) = some 0
  rw [m.G]
  simp (disch := omega) only [q_lt]
  rw [if_neg (by omega), if_pos hg]
theorem u_rU_ok {vX vN : Nat → Int32} {vG vU vR : Nat → Nat → Int32} {D : Dn} {T : Nat} (m : M8 vN vG vU vR D) (o : OkD T D) {g : Nat} (hg : g < D.U) : F_X8_requireUmbrella vX vN vU (nI g) = some 0 := by
  have hG := o.U
  show (if nI g < nI 0 then some 4 else if nI g < vU 0 0 then some 0 else some 4) = some 0
  rw [m.U]
  simp (disch := omega) only [q_lt]
  rw [if_neg (by omega), if_pos hg]
theorem u_rE_ok {vX vN : Nat → Int32} {vG vU vR : Nat → Nat → Int32} {D : Dn} {T : Nat} (m : M8 vN vG vU vR D) (o : OkD T D) {g : Nat} (hg : g < D.R) : F_X8_requireEntry vX vN vR (nI g) = some 0 := by
  have hG := o.R
  show (if nI g < nI 0 then some 4 else if nI g < vR 0 0 then some 0 else some 4) = some 0
  rw [m.R]
  simp (disch := omega) only [q_lt]
  rw [if_neg (by omega), if_pos hg]
theorem rq_bad {x : Int32} {G : Nat} (h : badI x G) (hG : G ≤ 1000) : (if x < nI 0 then some 4 else if x < nI G then some 0 else some 4) = some 4 := by
  rcases h with h | ⟨n, h1, h2, rfl⟩
  · rw [if_pos h]
  · simp (disch := omega) only [q_lt]
    rw [if_neg (by omega), if_neg (by omega)]
theorem u_rG_bad {vX vN : Nat → Int32} {vG vU vR : Nat → Nat → Int32} {D : Dn} {T : Nat} (m : M8 vN vG vU vR D) (o : OkD T D) {x : Int32} (hb : badI x D.G) : F_X8_requireGuest vX vN vG x = some 4 := by
  have hG := o.G
  show (if x < nI 0 then some 4 else if x < vG 0 0 then some 0 else some 4) = some 4
  rw [m.G]
  exact rq_bad hb (by omega)
theorem u_rU_bad {vX vN : Nat → Int32} {vG vU vR : Nat → Nat → Int32} {D : Dn} {T : Nat} (m : M8 vN vG vU vR D) (o : OkD T D) {x : Int32} (hb : badI x D.U) : F_X8_requireUmbrella vX vN vU x = some 4 := by
  have hG := o.U
  show (if x < nI 0 then some 4 else if x < vU 0 0 then some 0 else some 4) = some 4
  rw [m.U]
  exact rq_bad hb (by omega)
theorem u_rE_bad {vX vN : Nat → Int32} {vG vU vR : Nat → Nat → Int32} {D : Dn} {T : Nat} (m : M8 vN vG vU vR D) (o : OkD T D) {x : Int32} (hb : badI x D.R) : F_X8_requireEntry vX vN vR x = some 4 := by
  have hG := o.R
  show (if x < nI 0 then some 4 else if x < vR 0 0 then some 0 else some 4) = some 4
  rw [m.R]
  exact rq_bad hb (by omega)
theorem u_isAway {vN : Nat → Int32} {vG vU vR : Nat → Nat → Int32} {D : Dn} {T : Nat} (m : M8 vN vG vU vR D) (o : OkD T D) {g : Nat} (hg : g < D.G) : F_X1_isAway vG (nI g) = some (nI (D.ou g)) := by
  have hG := o.G
  have h1 := o.ou g hg
  have h2 := o.si g hg
  have h3 := o.mi
  rcases Nat.le_one_iff_eq_zero_or_eq_one.mp h1 with h | h
  all_goals simp (disch := omega) only [F_X1_isAway, q_lit, q_neg, q_ck, q_cl, m.si, h, eq_self, if_true, e10, if_false, q_m1e]
theorem u_stands {vN : Nat → Int32} {vG vU vR : Nat → Nat → Int32} {D : Dn} {T : Nat} (m : M8 vN vG vU vR D) (o : OkD T D) {g : Nat} (hg : g < D.U) : F_X7_stands vU (nI g) = some (if D.ca g = 0 then nI 1 else nI 0) := by
  have hG := o.G
  have hU := o.U
  have h1 := o.ca g hg
  by_cases h : D.ca g = 0
  all_goals simp (disch := omega) only [F_X7_stands, q_lit, q_neg, q_ck, q_cl, m.ca, h, eq_self, if_true, if_false, q_m1e]
theorem t_stands {w : Nat → Int32} {D : Dn} {T : Nat} (m : M9 w D) (o : OkD T D) {g : Nat} (hg : g < D.U) : F_X9_stands w (nI g) = some (if D.ca g = 0 then nI 1 else nI 0) := by
  have hG := o.G
  have hU := o.U
  have h1 := o.ca g hg
  by_cases h : D.ca g = 0
  all_goals simp (disch := omega) only [F_X9_stands, F_X9_umbrellaAt, q_lit, nI_add, pk_mul, q_sb, q_ck, q_cl, m.ca, h, eq_self, if_true, if_false, q_le1, q_le, Nat.zero_le]
theorem u_dry {vN : Nat → Int32} {vG vU vR : Nat → Nat → Int32} {D : Dn} {T : Nat} (m : M8 vN vG vU vR D) (o : OkD T D) {g : Nat} (hg : g < D.U) : F_X7_canBeTaken vU (nI g) = some (if D.ca g = 0 ∧ D.we g ≤ 50 then nI 1 else nI 0) := by
  have hG := o.G
  have hU := o.U
  have h1 := o.we g hg
  by_cases h : D.ca g = 0
  all_goals simp (disch := omega) only [F_X7_canBeTaken, u_stands m o hg, q_lit, q_sb, q_ck, q_cl, m.we, h, eq_self, if_true, if_false, q_lt, q_eq, e10, true_and, false_and]
  split <;> split <;> first | rfl | (exfalso; omega)
theorem t_dry {w : Nat → Int32} {D : Dn} {T : Nat} (m : M9 w D) (o : OkD T D) {g : Nat} (hg : g < D.U) : F_X9_isDry w (nI g) = some (if D.ca g = 0 ∧ D.we g ≤ 50 then nI 1 else nI 0) := by
  have hG := o.G
  have hU := o.U
  have h1 := o.we g hg
  by_cases h : D.ca g = 0
  all_goals simp (disch := omega) only [F_X9_isDry, F_X9_umbrellaAt, t_stands m o hg, q_lit, nI_add, pk_mul, q_sb, q_ck, q_cl, m.we, h, eq_self, if_true, if_false, q_lt, q_eq, e10, true_and, false_and]
  split <;> split <;> first | rfl | (exfalso; omega)
theorem takeD_le {D : Dn} {T : Nat} (o : OkD T D) (g : Nat) : takeD D g ≤ D.U := by
  have h1 := ownD_le D g
  have h2 := dryF_le D D.U
  unfold takeD
  split
  · exact Nat.zero_le _
  · split
    · exact h2
    · exact h1
theorem a_5 {vN : Nat → Int32} {vG : Nat → Nat → Int32} {vU : Nat → Nat → Int32} {vR : Nat → Nat → Int32} {vM : (Nat → Int32) × Int64} {vnow : Nat → Int32} {vX : Nat → Int32} {D : Dn} {T : Nat} (m8 : M8 vN vG vU vR D) (m9 : M9 vnow D) (o : OkD T D)  : AnsP (F_X8_minute vX vN) (F_X9_minute vM vnow) vM := by
  have hG := o.G
  have hU := o.U
  have hR := o.R
  have hm := o.mi
  simp (disch := omega) only [F_X8_minute, F_X9_minute, q_lit, q_neg, nI_add, pk_mul, q_sb, q_lt0, q_ck, q_cl, q_le, q_lt, q_eq, q_m1e, q_e1m, q_m1l, e10, e20, e30, e40, e21, e31, e41, e32, e42, e43, eq_self, if_true, if_false, q_cn0, q_cn1, F_X9_fails, F_X9_isFailed, m8.mi, m9.mi]
  exact an_p
theorem a_6 {vN : Nat → Int32} {vG : Nat → Nat → Int32} {vU : Nat → Nat → Int32} {vR : Nat → Nat → Int32} {vM : (Nat → Int32) × Int64} {vnow : Nat → Int32} {vX : Nat → Int32} {D : Dn} {T : Nat} (m8 : M8 vN vG vU vR D) (m9 : M9 vnow D) (o : OkD T D)  : AnsP (F_X8_rain vX vN) (F_X9_rain vM vnow) vM := by
  have hG := o.G
  have hU := o.U
  have hR := o.R
  have hm := o.mi
  simp (disch := omega) only [F_X8_rain, F_X9_rain, q_lit, q_neg, nI_add, pk_mul, q_sb, q_lt0, q_ck, q_cl, q_le, q_lt, q_eq, q_m1e, q_e1m, q_m1l, e10, e20, e30, e40, e21, e31, e41, e32, e42, e43, eq_self, if_true, if_false, q_cn0, q_cn1, F_X9_fails, F_X9_isFailed, m8.ra, m9.ra]
  exact an_p
theorem a_7 {vN : Nat → Int32} {vG : Nat → Nat → Int32} {vU : Nat → Nat → Int32} {vR : Nat → Nat → Int32} {vM : (Nat → Int32) × Int64} {vnow : Nat → Int32} {vX : Nat → Int32} {D : Dn} {T : Nat} (m8 : M8 vN vG vU vR D) (m9 : M9 vnow D) (o : OkD T D)  : AnsP (F_X8_noiseLimit vX vN) (F_X9_noiseLimit vM vnow) vM := by
  have hG := o.G
  have hU := o.U
  have hR := o.R
  have hm := o.mi
  simp (disch := omega) only [F_X8_noiseLimit, F_X9_noiseLimit, q_lit, q_neg, nI_add, pk_mul, q_sb, q_lt0, q_ck, q_cl, q_le, q_lt, q_eq, q_m1e, q_e1m, q_m1l, e10, e20, e30, e40, e21, e31, e41, e32, e42, e43, eq_self, if_true, if_false, q_cn0, q_cn1, F_X9_fails, F_X9_isFailed, m8.li, m9.li]
  exact an_p
theorem a_8 {vN : Nat → Int32} {vG : Nat → Nat → Int32} {vU : Nat → Nat → Int32} {vR : Nat → Nat → Int32} {vM : (Nat → Int32) × Int64} {vnow : Nat → Int32} {vX : Nat → Int32} {D : Dn} {T : Nat} (m8 : M8 vN vG vU vR D) (m9 : M9 vnow D) (o : OkD T D)  : AnsP (F_X8_noise vX vN) (F_X9_noise vM vnow) vM := by
  have hG := o.G
  have hU := o.U
  have hR := o.R
  have hm := o.mi
  simp (disch := omega) only [F_X8_noise, F_X9_noise, q_lit, q_neg, nI_add, pk_mul, q_sb, q_lt0, q_ck, q_cl, q_le, q_lt, q_eq, q_m1e, q_e1m, q_m1l, e10, e20, e30, e40, e21, e31, e41, e32, e42, e43, eq_self, if_true, if_false, q_cn0, q_cn1, F_X9_fails, F_X9_isFailed, m8.no, m9.no]
  exact an_p
theorem a_9 {vN : Nat → Int32} {vG : Nat → Nat → Int32} {vU : Nat → Nat → Int32} {vR : Nat → Nat → Int32} {vM : (Nat → Int32) × Int64} {vnow : Nat → Int32} {vX : Nat → Int32} {D : Dn} {T : Nat} (m8 : M8 vN vG vU vR D) (m9 : M9 vnow D) (o : OkD T D)  : AnsP (F_X8_complaints vX vN) (F_X9_complaints vM vnow) vM := by
  have hG := o.G
  have hU := o.U
  have hR := o.R
  have hm := o.mi
  simp (disch := omega) only [F_X8_complaints, F_X9_complaints, q_lit, q_neg, nI_add, pk_mul, q_sb, q_lt0, q_ck, q_cl, q_le, q_lt, q_eq, q_m1e, q_e1m, q_m1l, e10, e20, e30, e40, e21, e31, e41, e32, e42, e43, eq_self, if_true, if_false, q_cn0, q_cn1, F_X9_fails, F_X9_isFailed, m8.co, m9.co]
  exact an_p
theorem a_10 {vN : Nat → Int32} {vG : Nat → Nat → Int32} {vU : Nat → Nat → Int32} {vR : Nat → Nat → Int32} {vM : (Nat → Int32) × Int64} {vnow : Nat → Int32} {vX : Nat → Int32} {D : Dn} {T : Nat} (m8 : M8 vN vG vU vR D) (m9 : M9 vnow D) (o : OkD T D)  : AnsP (F_X8_puddle vX vN) (F_X9_puddle vM vnow) vM := by
  have hG := o.G
  have hU := o.U
  have hR := o.R
  have hm := o.mi
  simp (disch := omega) only [F_X8_puddle, F_X9_puddle, q_lit, q_neg, nI_add, pk_mul, q_sb, q_lt0, q_ck, q_cl, q_le, q_lt, q_eq, q_m1e, q_e1m, q_m1l, e10, e20, e30, e40, e21, e31, e41, e32, e42, e43, eq_self, if_true, if_false, q_cn0, q_cn1, F_X9_fails, F_X9_isFailed, m8.pu, m9.pu]
  exact an_p
theorem a_12 {vN : Nat → Int32} {vG : Nat → Nat → Int32} {vU : Nat → Nat → Int32} {vR : Nat → Nat → Int32} {vM : (Nat → Int32) × Int64} {vnow : Nat → Int32} {vX : Nat → Int32} {D : Dn} {T : Nat} (m8 : M8 vN vG vU vR D) (m9 : M9 vnow D) (o : OkD T D)  : AnsP (F_X8_tips vX vN) (F_X9_tips vM vnow) vM := by
  have hG := o.G
  have hU := o.U
  have hR := o.R
  have hm := o.mi
  simp (disch := omega) only [F_X8_tips, F_X9_tips, q_lit, q_neg, nI_add, pk_mul, q_sb, q_lt0, q_ck, q_cl, q_le, q_lt, q_eq, q_m1e, q_e1m, q_m1l, e10, e20, e30, e40, e21, e31, e41, e32, e42, e43, eq_self, if_true, if_false, q_cn0, q_cn1, F_X9_fails, F_X9_isFailed, m8.ti, m9.ti]
  exact an_p
theorem a_13 {vN : Nat → Int32} {vG : Nat → Nat → Int32} {vU : Nat → Nat → Int32} {vR : Nat → Nat → Int32} {vM : (Nat → Int32) × Int64} {vnow : Nat → Int32} {vX : Nat → Int32} {D : Dn} {T : Nat} (m8 : M8 vN vG vU vR D) (m9 : M9 vnow D) (o : OkD T D)  : AnsP (F_X8_guestCount vX vN vG) (F_X9_guestCount vM vnow) vM := by
  have hG := o.G
  have hU := o.U
  have hR := o.R
  have hm := o.mi
  simp (disch := omega) only [F_X8_guestCount, F_X9_guestCount, q_lit, q_neg, nI_add, pk_mul, q_sb, q_lt0, q_ck, q_cl, q_le, q_lt, q_eq, q_m1e, q_e1m, q_m1l, e10, e20, e30, e40, e21, e31, e41, e32, e42, e43, eq_self, if_true, if_false, q_cn0, q_cn1, F_X9_fails, F_X9_isFailed, m8.G, m9.G]
  exact an_p
theorem a_24 {vN : Nat → Int32} {vG : Nat → Nat → Int32} {vU : Nat → Nat → Int32} {vR : Nat → Nat → Int32} {vM : (Nat → Int32) × Int64} {vnow : Nat → Int32} {vX : Nat → Int32} {D : Dn} {T : Nat} (m8 : M8 vN vG vU vR D) (m9 : M9 vnow D) (o : OkD T D)  : AnsP (F_X8_umbrellaCount vX vN vU) (F_X9_umbrellaCount vM vnow) vM := by
  have hG := o.G
  have hU := o.U
  have hR := o.R
  have hm := o.mi
  simp (disch := omega) only [F_X8_umbrellaCount, F_X9_umbrellaCount, q_lit, q_neg, nI_add, pk_mul, q_sb, q_lt0, q_ck, q_cl, q_le, q_lt, q_eq, q_m1e, q_e1m, q_m1l, e10, e20, e30, e40, e21, e31, e41, e32, e42, e43, eq_self, if_true, if_false, q_cn0, q_cn1, F_X9_fails, F_X9_isFailed, m8.U, m9.U]
  exact an_p
theorem a_33 {vN : Nat → Int32} {vG : Nat → Nat → Int32} {vU : Nat → Nat → Int32} {vR : Nat → Nat → Int32} {vM : (Nat → Int32) × Int64} {vnow : Nat → Int32} {vX : Nat → Int32} {D : Dn} {T : Nat} (m8 : M8 vN vG vU vR D) (m9 : M9 vnow D) (o : OkD T D)  : AnsP (F_X8_entryCount vX vN vR) (F_X9_entryCount vM vnow) vM := by
  have hG := o.G
  have hU := o.U
  have hR := o.R
  have hm := o.mi
  simp (disch := omega) only [F_X8_entryCount, F_X9_entryCount, q_lit, q_neg, nI_add, pk_mul, q_sb, q_lt0, q_ck, q_cl, q_le, q_lt, q_eq, q_m1e, q_e1m, q_m1l, e10, e20, e30, e40, e21, e31, e41, e32, e42, e43, eq_self, if_true, if_false, q_cn0, q_cn1, F_X9_fails, F_X9_isFailed, m8.R, m9.R]
  exact an_p
theorem a_11 {vN : Nat → Int32} {vG : Nat → Nat → Int32} {vU : Nat → Nat → Int32} {vR : Nat → Nat → Int32} {vM : (Nat → Int32) × Int64} {vnow : Nat → Int32} {vX : Nat → Int32} {D : Dn} {T : Nat} (m8 : M8 vN vG vU vR D) (m9 : M9 vnow D) (o : OkD T D)  : AnsP (F_X8_yawn vX vN vR) (F_X9_yawn vM vnow) vM := by
  have hG := o.G
  have hU := o.U
  have hR := o.R
  have hm := o.mi
  simp (disch := omega) only [F_X8_yawn, F_X9_yawn, q_lit, q_neg, nI_add, pk_mul, q_sb, q_lt0, q_ck, q_cl, q_le, q_lt, q_eq, q_m1e, q_e1m, q_m1l, e10, e20, e30, e40, e21, e31, e41, e32, e42, e43, eq_self, if_true, if_false, q_cn0, q_cn1, F_X9_fails, F_X9_isFailed, t_yawn m9 o, u_yawn m8 o]
  exact an_p
theorem a_22 {vN : Nat → Int32} {vG : Nat → Nat → Int32} {vU : Nat → Nat → Int32} {vR : Nat → Nat → Int32} {vM : (Nat → Int32) × Int64} {vnow : Nat → Int32} {vX : Nat → Int32} {D : Dn} {T : Nat} (m8 : M8 vN vG vU vR D) (m9 : M9 vnow D) (o : OkD T D)  : AnsP (F_X8_keysAtDesk vX vN vG) (F_X9_keysAtDesk vM vnow) vM := by
  have hG := o.G
  have hU := o.U
  have hR := o.R
  have hm := o.mi
  simp (disch := omega) only [F_X8_keysAtDesk, F_X9_keysAtDesk, q_lit, q_neg, nI_add, pk_mul, q_sb, q_lt0, q_ck, q_cl, q_le, q_lt, q_eq, q_m1e, q_e1m, q_m1l, e10, e20, e30, e40, e21, e31, e41, e32, e42, e43, eq_self, if_true, if_false, q_cn0, q_cn1, F_X9_fails, F_X9_isFailed, t_away_n m9 o, u_away_n m8 o]
  exact an_p
theorem a_31 {vN : Nat → Int32} {vG : Nat → Nat → Int32} {vU : Nat → Nat → Int32} {vR : Nat → Nat → Int32} {vM : (Nat → Int32) × Int64} {vnow : Nat → Int32} {vX : Nat → Int32} {D : Dn} {T : Nat} (m8 : M8 vN vG vU vR D) (m9 : M9 vnow D) (o : OkD T D)  : AnsP (F_X8_standCount vX vN vU) (F_X9_standCount vM vnow) vM := by
  have hG := o.G
  have hU := o.U
  have hR := o.R
  have hm := o.mi
  have h := t_stand m9 o vM
  simp (disch := omega) only [F_X8_standCount, u_stand m8 o, q_sb]
  rw [h]
  exact an_p
theorem a_32 {vN : Nat → Int32} {vG : Nat → Nat → Int32} {vU : Nat → Nat → Int32} {vR : Nat → Nat → Int32} {vM : (Nat → Int32) × Int64} {vnow : Nat → Int32} {vX : Nat → Int32} {D : Dn} {T : Nat} (m8 : M8 vN vG vU vR D) (m9 : M9 vnow D) (o : OkD T D)  : AnsP (F_X8_borrowedCount vX vN vU) (F_X9_borrowedCount vM vnow) vM := by
  have hG := o.G
  have hU := o.U
  have hR := o.R
  have hm := o.mi
  have h := t_borrow m9 o vM
  simp (disch := omega) only [F_X8_borrowedCount, u_borrow m8 o, q_sb]
  rw [h]
  exact an_p
theorem a_17 {vN : Nat → Int32} {vG : Nat → Nat → Int32} {vU : Nat → Nat → Int32} {vR : Nat → Nat → Int32} {vM : (Nat → Int32) × Int64} {vnow : Nat → Int32} {vX : Nat → Int32} {vO : Nat → Int64} {D : Dn} {T : Nat} (m8 : M8 vN vG vU vR D) (m9 : M9 vnow D) (o : OkD T D) (x1 : Int32) : Ans (F_L_generosity vX vN vG vO x1) (F_X9_generosity vM vnow x1) vM := by
  have hG := o.G
  have hU := o.U
  have hR := o.R
  have hm := o.mi
  rcases gcase x1 D.G with ⟨g, hg, rfl⟩ | hb
  · simp (disch := omega) only [F_L_generosity, F_X8_generosity, F_X9_generosity, u_rG_ok m8 o hg, t_gN_ok m9 o hg, q_lit, q_neg, nI_add, pk_mul, q_sb, q_lt0, q_ck, q_cl, q_le, q_lt, q_eq, q_m1e, q_e1m, q_m1l, e10, e20, e30, e40, e21, e31, e41, e32, e42, e43, eq_self, if_true, if_false, q_cn0, q_cn1, F_X9_fails, F_X9_isFailed, m8.gi, m9.gi]
    exact an_ok
  · simp (disch := omega) only [F_L_generosity, F_X8_generosity, F_X9_generosity, u_rG_bad m8 o hb, t_gN_bad m9 o hb, q_lit, q_neg, nI_add, pk_mul, q_sb, q_lt0, q_ck, q_cl, q_le, q_lt, q_eq, q_m1e, q_e1m, q_m1l, e10, e20, e30, e40, e21, e31, e41, e32, e42, e43, eq_self, if_true, if_false, q_cn0, q_cn1, F_X9_fails, F_X9_isFailed]
    exact an_f (by decide)
theorem a_18 {vN : Nat → Int32} {vG : Nat → Nat → Int32} {vU : Nat → Nat → Int32} {vR : Nat → Nat → Int32} {vM : (Nat → Int32) × Int64} {vnow : Nat → Int32} {vX : Nat → Int32} {vO : Nat → Int64} {D : Dn} {T : Nat} (m8 : M8 vN vG vU vR D) (m9 : M9 vnow D) (o : OkD T D) (x1 : Int32) : Ans (F_L_bark vX vN vG vO x1) (F_X9_bark vM vnow x1) vM := by
  have hG := o.G
  have hU := o.U
  have hR := o.R
  have hm := o.mi
  rcases gcase x1 D.G with ⟨g, hg, rfl⟩ | hb
  · simp (disch := omega) only [F_L_bark, F_X8_bark, F_X9_bark, u_rG_ok m8 o hg, t_gN_ok m9 o hg, q_lit, q_neg, nI_add, pk_mul, q_sb, q_lt0, q_ck, q_cl, q_le, q_lt, q_eq, q_m1e, q_e1m, q_m1l, e10, e20, e30, e40, e21, e31, e41, e32, e42, e43, eq_self, if_true, if_false, q_cn0, q_cn1, F_X9_fails, F_X9_isFailed, m8.ba, m9.ba]
    exact an_ok
  · simp (disch := omega) only [F_L_bark, F_X8_bark, F_X9_bark, u_rG_bad m8 o hb, t_gN_bad m9 o hb, q_lit, q_neg, nI_add, pk_mul, q_sb, q_lt0, q_ck, q_cl, q_le, q_lt, q_eq, q_m1e, q_e1m, q_m1l, e10, e20, e30, e40, e21, e31, e41, e32, e42, e43, eq_self, if_true, if_false, q_cn0, q_cn1, F_X9_fails, F_X9_isFailed]
    exact an_f (by decide)
theorem a_21 {vN : Nat → Int32} {vG : Nat → Nat → Int32} {vU : Nat → Nat → Int32} {vR : Nat → Nat → Int32} {vM : (Nat → Int32) × Int64} {vnow : Nat → Int32} {vX : Nat → Int32} {vO : Nat → Int64} {D : Dn} {T : Nat} (m8 : M8 vN vG vU vR D) (m9 : M9 vnow D) (o : OkD T D) (x1 : Int32) : Ans (F_L_soak vX vN vG vO x1) (F_X9_soak vM vnow x1) vM := by
  have hG := o.G
  have hU := o.U
  have hR := o.R
  have hm := o.mi
  rcases gcase x1 D.G with ⟨g, hg, rfl⟩ | hb
  · simp (disch := omega) only [F_L_soak, F_X8_soak, F_X9_soak, u_rG_ok m8 o hg, t_gN_ok m9 o hg, q_lit, q_neg, nI_add, pk_mul, q_sb, q_lt0, q_ck, q_cl, q_le, q_lt, q_eq, q_m1e, q_e1m, q_m1l, e10, e20, e30, e40, e21, e31, e41, e32, e42, e43, eq_self, if_true, if_false, q_cn0, q_cn1, F_X9_fails, F_X9_isFailed, m8.so, m9.so]
    exact an_ok
  · simp (disch := omega) only [F_L_soak, F_X8_soak, F_X9_soak, u_rG_bad m8 o hb, t_gN_bad m9 o hb, q_lit, q_neg, nI_add, pk_mul, q_sb, q_lt0, q_ck, q_cl, q_le, q_lt, q_eq, q_m1e, q_e1m, q_m1l, e10, e20, e30, e40, e21, e31, e41, e32, e42, e43, eq_self, if_true, if_false, q_cn0, q_cn1, F_X9_fails, F_X9_isFailed]
    exact an_f (by decide)
theorem a_25 {vN : Nat → Int32} {vG : Nat → Nat → Int32} {vU : Nat → Nat → Int32} {vR : Nat → Nat → Int32} {vM : (Nat → Int32) × Int64} {vnow : Nat → Int32} {vX : Nat → Int32} {vO : Nat → Int64} {D : Dn} {T : Nat} (m8 : M8 vN vG vU vR D) (m9 : M9 vnow D) (o : OkD T D) (x1 : Int32) : Ans (F_L_ownerOf vX vN vU vO x1) (F_X9_ownerOf vM vnow x1) vM := by
  have hG := o.G
  have hU := o.U
  have hR := o.R
  have hm := o.mi
  rcases gcase x1 D.U with ⟨g, hg, rfl⟩ | hb
  · simp (disch := omega) only [F_L_ownerOf, F_X8_ownerOf, F_X9_ownerOf, u_rU_ok m8 o hg, t_uN_ok m9 o hg, q_lit, q_neg, nI_add, pk_mul, q_sb, q_lt0, q_ck, q_cl, q_le, q_lt, q_eq, q_m1e, q_e1m, q_m1l, e10, e20, e30, e40, e21, e31, e41, e32, e42, e43, eq_self, if_true, if_false, q_cn0, q_cn1, F_X9_fails, F_X9_isFailed, m8.ow, m9.ow]
    exact an_ok
  · simp (disch := omega) only [F_L_ownerOf, F_X8_ownerOf, F_X9_ownerOf, u_rU_bad m8 o hb, t_uN_bad m9 o hb, q_lit, q_neg, nI_add, pk_mul, q_sb, q_lt0, q_ck, q_cl, q_le, q_lt, q_eq, q_m1e, q_e1m, q_m1l, e10, e20, e30, e40, e21, e31, e41, e32, e42, e43, eq_self, if_true, if_false, q_cn0, q_cn1, F_X9_fails, F_X9_isFailed]
    exact an_f (by decide)
theorem a_26 {vN : Nat → Int32} {vG : Nat → Nat → Int32} {vU : Nat → Nat → Int32} {vR : Nat → Nat → Int32} {vM : (Nat → Int32) × Int64} {vnow : Nat → Int32} {vX : Nat → Int32} {vO : Nat → Int64} {D : Dn} {T : Nat} (m8 : M8 vN vG vU vR D) (m9 : M9 vnow D) (o : OkD T D) (x1 : Int32) : Ans (F_L_wetness vX vN vU vO x1) (F_X9_wetness vM vnow x1) vM := by
  have hG := o.G
  have hU := o.U
  have hR := o.R
  have hm := o.mi
  rcases gcase x1 D.U with ⟨g, hg, rfl⟩ | hb
  · simp (disch := omega) only [F_L_wetness, F_X8_wetness, F_X9_wetness, u_rU_ok m8 o hg, t_uN_ok m9 o hg, q_lit, q_neg, nI_add, pk_mul, q_sb, q_lt0, q_ck, q_cl, q_le, q_lt, q_eq, q_m1e, q_e1m, q_m1l, e10, e20, e30, e40, e21, e31, e41, e32, e42, e43, eq_self, if_true, if_false, q_cn0, q_cn1, F_X9_fails, F_X9_isFailed, m8.we, m9.we]
    exact an_ok
  · simp (disch := omega) only [F_L_wetness, F_X8_wetness, F_X9_wetness, u_rU_bad m8 o hb, t_uN_bad m9 o hb, q_lit, q_neg, nI_add, pk_mul, q_sb, q_lt0, q_ck, q_cl, q_le, q_lt, q_eq, q_m1e, q_e1m, q_m1l, e10, e20, e30, e40, e21, e31, e41, e32, e42, e43, eq_self, if_true, if_false, q_cn0, q_cn1, F_X9_fails, F_X9_isFailed]
    exact an_f (by decide)
theorem a_34 {vN : Nat → Int32} {vG : Nat → Nat → Int32} {vU : Nat → Nat → Int32} {vR : Nat → Nat → Int32} {vM : (Nat → Int32) × Int64} {vnow : Nat → Int32} {vX : Nat → Int32} {vO : Nat → Int64} {D : Dn} {T : Nat} (m8 : M8 vN vG vU vR D) (m9 : M9 vnow D) (o : OkD T D) (x1 : Int32) : Ans (F_L_entryMinute vX vN vR vO x1) (F_X9_entryMinute vM vnow x1) vM := by
  have hG := o.G
  have hU := o.U
  have hR := o.R
  have hm := o.mi
  rcases gcase x1 D.R with ⟨g, hg, rfl⟩ | hb
  · simp (disch := omega) only [F_L_entryMinute, F_X8_entryMinute, F_X9_entryMinute, u_rE_ok m8 o hg, t_eN_ok m9 o hg, q_lit, q_neg, nI_add, pk_mul, q_sb, q_lt0, q_ck, q_cl, q_le, q_lt, q_eq, q_m1e, q_e1m, q_m1l, e10, e20, e30, e40, e21, e31, e41, e32, e42, e43, eq_self, if_true, if_false, q_cn0, q_cn1, F_X9_fails, F_X9_isFailed, m8.ew, m9.ew]
    exact an_ok
  · simp (disch := omega) only [F_L_entryMinute, F_X8_entryMinute, F_X9_entryMinute, u_rE_bad m8 o hb, t_eN_bad m9 o hb, q_lit, q_neg, nI_add, pk_mul, q_sb, q_lt0, q_ck, q_cl, q_le, q_lt, q_eq, q_m1e, q_e1m, q_m1l, e10, e20, e30, e40, e21, e31, e41, e32, e42, e43, eq_self, if_true, if_false, q_cn0, q_cn1, F_X9_fails, F_X9_isFailed]
    exact an_f (by decide)
theorem a_35 {vN : Nat → Int32} {vG : Nat → Nat → Int32} {vU : Nat → Nat → Int32} {vR : Nat → Nat → Int32} {vM : (Nat → Int32) × Int64} {vnow : Nat → Int32} {vX : Nat → Int32} {vO : Nat → Int64} {D : Dn} {T : Nat} (m8 : M8 vN vG vU vR D) (m9 : M9 vnow D) (o : OkD T D) (x1 : Int32) : Ans (F_L_entryGuest vX vN vR vO x1) (F_X9_entryGuest vM vnow x1) vM := by
  have hG := o.G
  have hU := o.U
  have hR := o.R
  have hm := o.mi
  rcases gcase x1 D.R with ⟨g, hg, rfl⟩ | hb
  · simp (disch := omega) only [F_L_entryGuest, F_X8_entryGuest, F_X9_entryGuest, u_rE_ok m8 o hg, t_eN_ok m9 o hg, q_lit, q_neg, nI_add, pk_mul, q_sb, q_lt0, q_ck, q_cl, q_le, q_lt, q_eq, q_m1e, q_e1m, q_m1l, e10, e20, e30, e40, e21, e31, e41, e32, e42, e43, eq_self, if_true, if_false, q_cn0, q_cn1, F_X9_fails, F_X9_isFailed, m8.eg, m9.eg]
    exact an_ok
  · simp (disch := omega) only [F_L_entryGuest, F_X8_entryGuest, F_X9_entryGuest, u_rE_bad m8 o hb, t_eN_bad m9 o hb, q_lit, q_neg, nI_add, pk_mul, q_sb, q_lt0, q_ck, q_cl, q_le, q_lt, q_eq, q_m1e, q_e1m, q_m1l, e10, e20, e30, e40, e21, e31, e41, e32, e42, e43, eq_self, if_true, if_false, q_cn0, q_cn1, F_X9_fails, F_X9_isFailed]
    exact an_f (by decide)
theorem a_19 {vN : Nat → Int32} {vG : Nat → Nat → Int32} {vU : Nat → Nat → Int32} {vR : Nat → Nat → Int32} {vM : (Nat → Int32) × Int64} {vnow : Nat → Int32} {vX : Nat → Int32} {vO : Nat → Int64} {D : Dn} {T : Nat} (m8 : M8 vN vG vU vR D) (m9 : M9 vnow D) (o : OkD T D) (x1 : Int32) : AnsB (F_L_isOut vX vN vG vO x1) (F_X9_isOut vM vnow x1) vM := by
  have hG := o.G
  have hU := o.U
  have hR := o.R
  have hm := o.mi
  rcases gcase x1 D.G with ⟨g, hg, rfl⟩ | hb
  · have h1 := o.ou g hg
    rcases Nat.le_one_iff_eq_zero_or_eq_one.mp h1 with h | h
    all_goals simp (disch := omega) only [F_L_isOut, F_X8_isOut, F_X9_isOut, u_rG_ok m8 o hg, t_gN_ok m9 o hg, u_isAway m8 o hg, m9.ou, h, q_lit, q_neg, nI_add, pk_mul, q_sb, q_lt0, q_ck, q_cl, q_le, q_lt, q_eq, q_m1e, q_e1m, q_m1l, e10, e20, e30, e40, e21, e31, e41, e32, e42, e43, eq_self, if_true, if_false, q_cn0, q_cn1, F_X9_fails, F_X9_isFailed]
    · exact an_b0
    · exact an_b1
  · simp (disch := omega) only [F_L_isOut, F_X8_isOut, F_X9_isOut, u_rG_bad m8 o hb, t_gN_bad m9 o hb, t_isG_bad m9 o hb, q_lit, q_neg, nI_add, pk_mul, q_sb, q_lt0, q_ck, q_cl, q_le, q_lt, q_eq, q_m1e, q_e1m, q_m1l, e10, e20, e30, e40, e21, e31, e41, e32, e42, e43, eq_self, if_true, if_false, q_cn0, q_cn1, F_X9_fails, F_X9_isFailed]
    exact an_bf (by decide)
theorem a_23 {vN : Nat → Int32} {vG : Nat → Nat → Int32} {vU : Nat → Nat → Int32} {vR : Nat → Nat → Int32} {vM : (Nat → Int32) × Int64} {vnow : Nat → Int32} {vX : Nat → Int32} {vO : Nat → Int64} {D : Dn} {T : Nat} (m8 : M8 vN vG vU vR D) (m9 : M9 vnow D) (o : OkD T D) (x1 : Int32) : AnsB (F_L_wouldBark vX vN vG vO x1) (F_X9_wouldBark vM vnow x1) vM := by
  have hG := o.G
  have hU := o.U
  have hR := o.R
  have hm := o.mi
  rcases gcase x1 D.G with ⟨g, hg, rfl⟩ | hb
  · have h1 := t_barks (w := vnow) m9 o hg (t := D.mi + 1) (by omega) (by omega)
    have h2 := u_barks m8 o hg (t := D.mi + 1) (by omega) (by omega)
    cases hb : barksD D g (D.mi + 1)
    all_goals rw [hb] at h1 h2
    all_goals simp (disch := omega) only [F_L_wouldBark, F_X8_wouldBark, F_X9_wouldBark, u_rG_ok m8 o hg, t_isG_ok m9 o hg, q_lit, q_neg, nI_add, pk_mul, q_sb, q_lt0, q_ck, q_cl, q_le, q_lt, q_eq, q_m1e, q_e1m, q_m1l, e10, e20, e30, e40, e21, e31, e41, e32, e42, e43, eq_self, if_true, if_false, q_cn0, q_cn1, F_X9_fails, F_X9_isFailed, m8.mi, m9.mi, h1, h2, Bool.toNat_false, Bool.toNat_true]
    · exact an_b0
    · exact an_b1
  · simp (disch := omega) only [F_L_wouldBark, F_X8_wouldBark, F_X9_wouldBark, u_rG_bad m8 o hb, t_gN_bad m9 o hb, t_isG_bad m9 o hb, q_lit, q_neg, nI_add, pk_mul, q_sb, q_lt0, q_ck, q_cl, q_le, q_lt, q_eq, q_m1e, q_e1m, q_m1l, e10, e20, e30, e40, e21, e31, e41, e32, e42, e43, eq_self, if_true, if_false, q_cn0, q_cn1, F_X9_fails, F_X9_isFailed]
    exact an_bf (by decide)
theorem a_20 {vN : Nat → Int32} {vG : Nat → Nat → Int32} {vU : Nat → Nat → Int32} {vR : Nat → Nat → Int32} {vM : (Nat → Int32) × Int64} {vnow : Nat → Int32} {vX : Nat → Int32} {vO : Nat → Int64} {D : Dn} {T : Nat} (m8 : M8 vN vG vU vR D) (m9 : M9 vnow D) (o : OkD T D) (x1 : Int32) : Ans (F_L_outSince vX vN vG vO x1) (F_X9_outSince vM vnow x1) vM := by
  have hG := o.G
  have hU := o.U
  have hR := o.R
  have hm := o.mi
  rcases gcase x1 D.G with ⟨g, hg, rfl⟩ | hb
  · have h1 := o.ou g hg
    rcases Nat.le_one_iff_eq_zero_or_eq_one.mp h1 with h | h
    all_goals simp (disch := omega) only [F_L_outSince, F_X8_outSince, F_X9_outSince, u_rG_ok m8 o hg, t_isG_ok m9 o hg, F_X9_guestAt, u_isAway m8 o hg, t_away m9 o hg, m9.si, m8.si, h, q_lit, q_neg, nI_add, pk_mul, q_sb, q_lt0, q_ck, q_cl, q_le, q_lt, q_eq, q_m1e, q_e1m, q_m1l, e10, e20, e30, e40, e21, e31, e41, e32, e42, e43, eq_self, if_true, if_false, q_cn0, q_cn1, F_X9_fails, F_X9_isFailed]
    · exact an_f (by decide)
    · exact an_ok
  · simp (disch := omega) only [F_L_outSince, F_X8_outSince, F_X9_outSince, u_rG_bad m8 o hb, t_gN_bad m9 o hb, t_isG_bad m9 o hb, q_lit, q_neg, nI_add, pk_mul, q_sb, q_lt0, q_ck, q_cl, q_le, q_lt, q_eq, q_m1e, q_e1m, q_m1l, e10, e20, e30, e40, e21, e31, e41, e32, e42, e43, eq_self, if_true, if_false, q_cn0, q_cn1, F_X9_fails, F_X9_isFailed]
    exact an_f (by decide)
theorem a_27 {vN : Nat → Int32} {vG : Nat → Nat → Int32} {vU : Nat → Nat → Int32} {vR : Nat → Nat → Int32} {vM : (Nat → Int32) × Int64} {vnow : Nat → Int32} {vX : Nat → Int32} {vO : Nat → Int64} {D : Dn} {T : Nat} (m8 : M8 vN vG vU vR D) (m9 : M9 vnow D) (o : OkD T D) (x1 : Int32) : AnsB (F_L_isInStand vX vN vU vO x1) (F_X9_isInStand vM vnow x1) vM := by
  have hG := o.G
  have hU := o.U
  have hR := o.R
  have hm := o.mi
  rcases gcase x1 D.U with ⟨g, hg, rfl⟩ | hb
  · by_cases h : D.ca g = 0
    all_goals simp (disch := omega) only [F_L_isInStand, F_X8_isInStand, F_X9_isInStand, u_rU_ok m8 o hg, t_isU_ok m9 o hg, u_stands m8 o hg, t_stands m9 o hg, h, q_lit, q_neg, nI_add, pk_mul, q_sb, q_lt0, q_ck, q_cl, q_le, q_lt, q_eq, q_m1e, q_e1m, q_m1l, e10, e20, e30, e40, e21, e31, e41, e32, e42, e43, eq_self, if_true, if_false, q_cn0, q_cn1, F_X9_fails, F_X9_isFailed]
    · exact an_b1
    · exact an_b0
  · simp (disch := omega) only [F_L_isInStand, F_X8_isInStand, F_X9_isInStand, u_rU_bad m8 o hb, t_uN_bad m9 o hb, t_isU_bad m9 o hb, q_lit, q_neg, nI_add, pk_mul, q_sb, q_lt0, q_ck, q_cl, q_le, q_lt, q_eq, q_m1e, q_e1m, q_m1l, e10, e20, e30, e40, e21, e31, e41, e32, e42, e43, eq_self, if_true, if_false, q_cn0, q_cn1, F_X9_fails, F_X9_isFailed]
    exact an_bf (by decide)
theorem a_28 {vN : Nat → Int32} {vG : Nat → Nat → Int32} {vU : Nat → Nat → Int32} {vR : Nat → Nat → Int32} {vM : (Nat → Int32) × Int64} {vnow : Nat → Int32} {vX : Nat → Int32} {vO : Nat → Int64} {D : Dn} {T : Nat} (m8 : M8 vN vG vU vR D) (m9 : M9 vnow D) (o : OkD T D) (x1 : Int32) : AnsB (F_L_isUsable vX vN vU vO x1) (F_X9_isUsable vM vnow x1) vM := by
  have hG := o.G
  have hU := o.U
  have hR := o.R
  have hm := o.mi
  rcases gcase x1 D.U with ⟨g, hg, rfl⟩ | hb
  · by_cases h : D.ca g = 0 ∧ D.we g ≤ 50
    all_goals simp (disch := omega) only [F_L_isUsable, F_X8_isUsable, F_X9_isUsable, u_rU_ok m8 o hg, t_isU_ok m9 o hg, u_dry m8 o hg, t_dry m9 o hg, h, and_self, q_lit, q_neg, nI_add, pk_mul, q_sb, q_lt0, q_ck, q_cl, q_le, q_lt, q_eq, q_m1e, q_e1m, q_m1l, e10, e20, e30, e40, e21, e31, e41, e32, e42, e43, eq_self, if_true, if_false, q_cn0, q_cn1, F_X9_fails, F_X9_isFailed]
    · exact an_b1
    · exact an_b0
  · simp (disch := omega) only [F_L_isUsable, F_X8_isUsable, F_X9_isUsable, u_rU_bad m8 o hb, t_uN_bad m9 o hb, t_isU_bad m9 o hb, q_lit, q_neg, nI_add, pk_mul, q_sb, q_lt0, q_ck, q_cl, q_le, q_lt, q_eq, q_m1e, q_e1m, q_m1l, e10, e20, e30, e40, e21, e31, e41, e32, e42, e43, eq_self, if_true, if_false, q_cn0, q_cn1, F_X9_fails, F_X9_isFailed]
    exact an_bf (by decide)
theorem a_29 {vN : Nat → Int32} {vG : Nat → Nat → Int32} {vU : Nat → Nat → Int32} {vR : Nat → Nat → Int32} {vM : (Nat → Int32) × Int64} {vnow : Nat → Int32} {vX : Nat → Int32} {vO : Nat → Int64} {D : Dn} {T : Nat} (m8 : M8 vN vG vU vR D) (m9 : M9 vnow D) (o : OkD T D) (x1 : Int32) : Ans (F_L_carrierOf vX vN vU vO x1) (F_X9_carrierOf vM vnow x1) vM := by
  have hG := o.G
  have hU := o.U
  have hR := o.R
  have hm := o.mi
  rcases gcase x1 D.U with ⟨g, hg, rfl⟩ | hb
  · have h1 := o.ca g hg
    by_cases h : D.ca g = 0
    all_goals simp (disch := omega) only [F_L_carrierOf, F_X8_carrierOf, F_X9_carrierOf, u_rU_ok m8 o hg, t_isU_ok m9 o hg, u_stands m8 o hg, t_stands m9 o hg, F_X9_umbrellaAt, m8.ca, m9.ca, h, q_lit, q_neg, nI_add, pk_mul, q_sb, q_lt0, q_ck, q_cl, q_le, q_lt, q_eq, q_m1e, q_e1m, q_m1l, e10, e20, e30, e40, e21, e31, e41, e32, e42, e43, eq_self, if_true, if_false, q_cn0, q_cn1, F_X9_fails, F_X9_isFailed]
    · exact an_f (by decide)
    · exact an_ok
  · simp (disch := omega) only [F_L_carrierOf, F_X8_carrierOf, F_X9_carrierOf, u_rU_bad m8 o hb, t_uN_bad m9 o hb, t_isU_bad m9 o hb, q_lit, q_neg, nI_add, pk_mul, q_sb, q_lt0, q_ck, q_cl, q_le, q_lt, q_eq, q_m1e, q_e1m, q_m1l, e10, e20, e30, e40, e21, e31, e41, e32, e42, e43, eq_self, if_true, if_false, q_cn0, q_cn1, F_X9_fails, F_X9_isFailed]
    exact an_f (by decide)
theorem a_30 {vN : Nat → Int32} {vG : Nat → Nat → Int32} {vU : Nat → Nat → Int32} {vR : Nat → Nat → Int32} {vM : (Nat → Int32) × Int64} {vnow : Nat → Int32} {vX : Nat → Int32} {vO : Nat → Int64} {D : Dn} {T : Nat} (m8 : M8 vN vG vU vR D) (m9 : M9 vnow D) (o : OkD T D) (x1 : Int32) : Ans (F_L_umbrellaOf vX vN vG vU vO x1) (F_X9_umbrellaOf vM vnow x1) vM := by
  have hG := o.G
  have hU := o.U
  have hR := o.R
  have hm := o.mi
  rcases gcase x1 D.G with ⟨g, hg, rfl⟩ | hb
  · have h1 := fst1_nz (fun u => decide (D.ca u = g + 1)) D.U _ 0 rfl
    have h2 := fstF_ok (fun u => decide (D.ca u = g + 1)) D.U _ 0 rfl
    cases hf : fstF (fun u => decide (D.ca u = g + 1)) D.U 0
    all_goals rw [hf] at h1 h2
    all_goals simp (disch := omega) only [F_L_umbrellaOf, F_X8_umbrellaOf, F_X9_umbrellaOf, u_rG_ok m8 o hg, t_isG_ok m9 o hg, u_carried m8 o hg, t_carried m9 o hg, h1, nz_0, nz_s, q_lit, q_neg, nI_add, pk_mul, q_sb, q_lt0, q_ck, q_cl, q_le, q_lt, q_eq, q_m1e, q_e1m, q_m1l, e10, e20, e30, e40, e21, e31, e41, e32, e42, e43, eq_self, if_true, if_false, q_cn0, q_cn1, F_X9_fails, F_X9_isFailed, q_m1n]
    · exact an_f (by decide)
    · exact an_ok
  · simp (disch := omega) only [F_L_umbrellaOf, F_X8_umbrellaOf, F_X9_umbrellaOf, u_rG_bad m8 o hb, t_gN_bad m9 o hb, t_isG_bad m9 o hb, q_lit, q_neg, nI_add, pk_mul, q_sb, q_lt0, q_ck, q_cl, q_le, q_lt, q_eq, q_m1e, q_e1m, q_m1l, e10, e20, e30, e40, e21, e31, e41, e32, e42, e43, eq_self, if_true, if_false, q_cn0, q_cn1, F_X9_fails, F_X9_isFailed]
    exact an_f (by decide)
theorem a_36 {vN : Nat → Int32} {vG : Nat → Nat → Int32} {vU : Nat → Nat → Int32} {vR : Nat → Nat → Int32} {vM : (Nat → Int32) × Int64} {vnow : Nat → Int32} {vX : Nat → Int32} {vO : Nat → Int64} {D : Dn} {T : Nat} (m8 : M8 vN vG vU vR D) (m9 : M9 vnow D) (o : OkD T D) (x1 : Int32) : AnsB (F_L_isLeaving vX vN vR vO x1) (F_X9_isLeaving vM vnow x1) vM := by
  have hG := o.G
  have hU := o.U
  have hR := o.R
  have hm := o.mi
  rcases gcase x1 D.R with ⟨g, hg, rfl⟩ | hb
  · have h1 := o.el g hg
    rcases Nat.le_one_iff_eq_zero_or_eq_one.mp h1 with h | h
    all_goals simp (disch := omega) only [F_L_isLeaving, F_X8_isLeaving, F_X9_isLeaving, u_rE_ok m8 o hg, t_eN_ok m9 o hg, m8.el, m9.el, h, q_lit, q_neg, nI_add, pk_mul, q_sb, q_lt0, q_ck, q_cl, q_le, q_lt, q_eq, q_m1e, q_e1m, q_m1l, e10, e20, e30, e40, e21, e31, e41, e32, e42, e43, eq_self, if_true, if_false, q_cn0, q_cn1, F_X9_fails, F_X9_isFailed, e4345]
    · exact an_b0
    · exact an_b1
  · simp (disch := omega) only [F_L_isLeaving, F_X8_isLeaving, F_X9_isLeaving, u_rE_bad m8 o hb, t_eN_bad m9 o hb, q_lit, q_neg, nI_add, pk_mul, q_sb, q_lt0, q_ck, q_cl, q_le, q_lt, q_eq, q_m1e, q_e1m, q_m1l, e10, e20, e30, e40, e21, e31, e41, e32, e42, e43, eq_self, if_true, if_false, q_cn0, q_cn1, F_X9_fails, F_X9_isFailed]
    exact an_bf (by decide)
theorem a_45 {vN : Nat → Int32} {vG : Nat → Nat → Int32} {vU : Nat → Nat → Int32} {vR : Nat → Nat → Int32} {vM : (Nat → Int32) × Int64} {vnow : Nat → Int32} {vX : Nat → Int32} {vO : Nat → Int64} {D : Dn} {T : Nat} (m8 : M8 vN vG vU vR D) (m9 : M9 vnow D) (o : OkD T D) (x1 : Int32) : Ans (F_L_umbrellaFor vX vN vG vU vO x1) (F_X9_umbrellaFor vM vnow x1) vM := by
  have hG := o.G
  have hU := o.U
  have hR := o.R
  have hm := o.mi
  rcases gcase x1 D.G with ⟨g, hg, rfl⟩ | hb
  · have h1 := o.ou g hg
    have h2 := takeD_le o g
    rcases Nat.le_one_iff_eq_zero_or_eq_one.mp h1 with h | h
    · cases hf : takeD D g
      all_goals rw [hf] at h2
      all_goals simp (disch := omega) only [F_L_umbrellaFor, F_X8_umbrellaFor, F_X9_umbrellaFor, u_rG_ok m8 o hg, t_isG_ok m9 o hg, u_isAway m8 o hg, t_away m9 o hg, h, u_take m8 o hg, t_take m9 o hg, hf, nz_0, nz_s, q_lit, q_neg, nI_add, pk_mul, q_sb, q_lt0, q_ck, q_cl, q_le, q_lt, q_eq, q_m1e, q_e1m, q_m1l, e10, e20, e30, e40, e21, e31, e41, e32, e42, e43, eq_self, if_true, if_false, q_cn0, q_cn1, F_X9_fails, F_X9_isFailed, q_m1n]
      · exact an_f (by decide)
      · simp only [Nat.zero_le, if_true]
        exact an_ok
    · simp (disch := omega) only [F_L_umbrellaFor, F_X8_umbrellaFor, F_X9_umbrellaFor, u_rG_ok m8 o hg, t_isG_ok m9 o hg, u_isAway m8 o hg, t_away m9 o hg, h, q_lit, q_neg, nI_add, pk_mul, q_sb, q_lt0, q_ck, q_cl, q_le, q_lt, q_eq, q_m1e, q_e1m, q_m1l, e10, e20, e30, e40, e21, e31, e41, e32, e42, e43, eq_self, if_true, if_false, q_cn0, q_cn1, F_X9_fails, F_X9_isFailed]
      exact an_f (by decide)
    skip
  · simp (disch := omega) only [F_L_umbrellaFor, F_X8_umbrellaFor, F_X9_umbrellaFor, u_rG_bad m8 o hb, t_gN_bad m9 o hb, t_isG_bad m9 o hb, q_lit, q_neg, nI_add, pk_mul, q_sb, q_lt0, q_ck, q_cl, q_le, q_lt, q_eq, q_m1e, q_e1m, q_m1l, e10, e20, e30, e40, e21, e31, e41, e32, e42, e43, eq_self, if_true, if_false, q_cn0, q_cn1, F_X9_fails, F_X9_isFailed]
    exact an_f (by decide)
