/-! answers of both sides-/
theorem ck01 {α : Type} (k : Option α) : ck 0 1 k = k := q_ck (n := 0) (N := 1) (by omega) (by omega)
theorem q_xn (x : Int32) : x < nI 0 ∨ ∃ n, n < 2147483648 ∧ x = nI n := by
  by_cases h : x.toInt < 0
  · left
    rw [Int32.lt_iff_toInt_lt, nI_toInt (by omega)]
    exact h
  · right
    have h1 := Int32.toInt_lt x
    refine ⟨x.toInt.toNat, by omega, Int32.toInt_inj.mp ?_⟩
    rw [nI_toInt (by omega)]
    omega
def badI (x : Int32) (G : Nat) : Prop := x < nI 0 ∨ ∃ n, G ≤ n ∧ n < 2147483648 ∧ x = nI n
theorem gcase (x : Int32) (G : Nat) : (∃ g, g < G ∧ x = nI g) ∨ badI x G := by
  rcases q_xn x with h | ⟨n, hn, e⟩
  · exact Or.inr (Or.inl h)
  · by_cases hg : n < G
    · exact Or.inl ⟨n, hg, e⟩
    · exact Or.inr (Or.inr ⟨n, by omega, hn, e⟩)
theorem e10 : ((1 : Nat) = 0) = False := by decide
theorem e01 : ((0 : Nat) = 1) = False := by decide
theorem e20 : ((2 : Nat) = 0) = False := by decide
theorem e30 : ((3 : Nat) = 0) = False := by decide
theorem e40 : ((4 : Nat) = 0) = False := by decide
theorem e21 : ((2 : Nat) = 1) = False := by decide
theorem e31 : ((3 : Nat) = 1) = False := by decide
theorem e41 : ((4 : Nat) = 1) = False := by decide
theorem e32 : ((3 : Nat) = 2) = False := by decide
theorem e42 : ((4 : Nat) = 2) = False := by decide
theorem e43 : ((4 : Nat) = 3) = False := by decide
theorem e4345 : ((43 : Nat) = 45) = False := by decide
theorem q_cn0 {α : Type} {b : Prop} {i : Decidable (True ∨ b)} {k : Option α} : @cn α (True ∨ b) i k = k := if_pos (Or.inl trivial)
theorem q_cn1 {α : Type} {a : Prop} {i : Decidable (a ∨ True)} {k : Option α} : @cn α (a ∨ True) i k = k := if_pos (Or.inr trivial)
theorem q_m1n {a : Nat} (ha : a < 2147483648) : (nI a ≤ m1) = False := q_le1 ha
theorem u_rG_ok {vX vN : Nat → Int32} {vG vU vR : Nat → Nat → Int32} {D : Dn} {T : Nat} (m : M8 vN vG vU vR D) (o : OkD T D) {g : Nat} (hg : g < D.G) : F_X8_requireGuest vX vN vG (nI g) = some 0 := by
  have hG := o.G
  show (if nI g < nI 0 then some 4 else if nI g < vG 0 0 then some 0 else some 4) = some 0
  rw [m.G]
  simp (disch := omega) only [q_lt]
  rw [if_neg (by omega), if_pos hg]
theorem u_rU_ok {vX vN : Nat → Int32} {vG vU vR : Nat → Nat → Int32} {D : Dn} {T : Nat} (m : M8 vN vG vU vR D) (o : OkD T D) {g : Nat} (hg : g < D.U) : F_X8_requireUmbrella vX vN vU (nI g) = some 0 := by
  have hG := o.U
  show (if nI g < nI 0 then some 4 else if nI g < vU 0 0 then some 0 else some 4) = some 0
  rw [m.U]
  simp (disch := omega) only [q_lt]
  rw [if_neg (by omega), if_pos hg]
theorem u_rE_ok {vX vN : Nat → Int32} {vG vU vR : Nat → Nat → Int32} {D : Dn} {T : Nat} (m : M8 vN vG vU vR D) (o : OkD T D) {g : Nat} (hg : g < D.R) : F_X8_requireEntry vX vN vR (nI g) = some 0 := by
  have hG := o.R
  show (if nI g < nI 0 then some 4 else if nI g < vR 0 0 then some 0 else some 4) = some 0
  rw [m.R]
  simp (disch := omega) only [q_lt]
  rw [if_neg (by omega), if_pos hg]
theorem rq_bad {x : Int32} {G : Nat} (h : badI x G) (hG : G ≤ 1000) : (if x < nI 0 then some 4 else if x < nI G then some 0 else some 4) = some 4 := by
  rcases h with h | ⟨n, h1, h2, rfl⟩
  · rw [if_pos h]
  · simp (disch := omega) only [q_lt]
    rw [if_neg (by omega), if_neg (by omega)]
theorem u_rG_bad {vX vN : Nat → Int32} {vG vU vR : Nat → Nat → Int32} {D : Dn} {T : Nat} (m : M8 vN vG vU vR D) (o : OkD T D) {x : Int32} (hb : badI x D.G) : F_X8_requireGuest vX vN vG x = some 4 := by
  have hG := o.G
  show (if x < nI 0 then some 4 else if x < vG 0 0 then some 0 else some 4) = some 4
  rw [m.G]
  exact rq_bad hb (by omega)
theorem u_rU_bad {vX vN : Nat → Int32} {vG vU vR : Nat → Nat → Int32} {D : Dn} {T : Nat} (m : M8 vN vG vU vR D) (o : OkD T D) {x : Int32} (hb : badI x D.U) : F_X8_requireUmbrella vX vN vU x = some 4 := by
  have hG := o.U
  show (if x < nI 0 then some 4 else if x < vU 0 0 then some 0 else some 4) = some 4
  rw [m.U]
  exact rq_bad hb (by omega)
theorem u_rE_bad {vX vN : Nat → Int32} {vG vU vR : Nat → Nat → Int32} {D : Dn} {T : Nat} (m : M8 vN vG vU vR D) (o : OkD T D) {x : Int32} (hb : badI x D.R) : F_X8_requireEntry vX vN vR x = some 4 := by
  have hG := o.R
  show (if x < nI 0 then some 4 else if x < vR 0 0 then some 0 else some 4) = some 4
  rw [m.R]
  exact rq_bad hb (by omega)
theorem u_isAway {vN : Nat → Int32} {vG vU vR : Nat → Nat → Int32} {D : Dn} {T : Nat} (m : M8 vN vG vU vR D) (o : OkD T D) {g : Nat} (hg : g < D.G) : F_X1_isAway vG (nI g) = some (nI (D.ou g)) := by
  have hG := o.G
  have h1 := o.ou g hg
  have h2 := o.si g hg
  have h3 := o.mi
  rcases Nat.le_one_iff_eq_zero_or_eq_one.mp h1 with h | h
  all_goals simp (disch := omega) only [F_X1_isAway, q_lit, q_neg, q_ck, q_cl, m.si, h, eq_self, if_true, e10, if_false, q_m1e]
theorem u_stands {vN : Nat → Int32} {vG vU vR : Nat → Nat → Int32} {D : Dn} {T : Nat} (m : M8 vN vG vU vR D) (o : OkD T D) {g : Nat} (hg : g < D.U) : F_X7_stands vU (nI g) = some (if D.ca g = 0 then nI 1 else nI 0) := by
  have hG := o.G
  have hU := o.U
  have h1 := o.ca g hg
  by_cases h : D.ca g = 0
  all_goals simp (disch := omega) only [F_X7_stands, q_lit, q_neg, q_ck, q_cl, m.ca, h, eq_self, if_true, if_false, q_m1e]
theorem u_dry {vN : Nat → Int32} {vG vU vR : Nat → Nat → Int32} {D : Dn} {T : Nat} (m : M8 vN vG vU vR D) (o : OkD T D) {g : Nat} (hg : g < D.U) : F_X7_canBeTaken vU (nI g) = some (if D.ca g = 0 ∧ D.we g ≤ 50 then nI 1 else nI 0) := by
  have hG := o.G
  have hU := o.U
  have h1 := o.we g hg
  by_cases h : D.ca g = 0
  all_goals simp (disch := omega) only [F_X7_canBeTaken, u_stands m o hg, q_lit, q_sb, q_ck, q_cl, m.we, h, eq_self, if_true, if_false, q_lt, q_eq, e10, true_and, false_and]
  split <;> split <;> first | rfl | (exfalso; omega)
theorem takeD_le {D : Dn} {T : Nat} (o : OkD T D) (g : Nat) : takeD D g ≤ D.U := by
  have h1 := ownD_le D g
  have h2 := dryF_le D D.U
  unfold takeD
  split
  · exact Nat.zero_le _
  · split
    · exact h2
    · exact h1
