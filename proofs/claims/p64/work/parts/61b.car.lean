/-! who carries what; leaving and coming back, field by field -/
def Car (D : Dn) : Prop := (∀ u, u < D.U → D.ca u ≠ 0 → D.ou (D.ca u - 1) = 1) ∧ ∀ u w, u < D.U → w < D.U → D.ca u ≠ 0 → D.ca u = D.ca w → u = w
def OkC (T : Nat) (D : Dn) : Prop := OkN T D ∧ Car D
theorem OkC.mono {T T' : Nat} {D : Dn} (h : OkC T D) (hT : T ≤ T') (hT' : T' ≤ 600) : OkC T' D := ⟨h.1.mono hT hT', h.2⟩
theorem car_same {D E : Dn} (c : Car D) (hU : E.U = D.U) (hc : ∀ u, E.ca u = D.ca u) (ho : ∀ g, E.ou g = D.ou g) : Car E := by
  refine ⟨fun u hu h => ?_, fun u w hu hw h e => ?_⟩
  · rw [hc] at h ⊢
    rw [ho]
    exact c.1 u (by omega) h
  · rw [hc] at h
    rw [hc, hc] at e
    exact c.2 u w (by omega) (by omega) h e
theorem take_dry {D : Dn} (n : Nat) : dryF D n ≠ 0 → D.ca (dryF D n - 1) = 0 := by
  induction n with
  | zero => intro h; exact absurd rfl h
  | succ n ih =>
    intro h
    simp only [dryF] at h ⊢
    split
    next c => exact c.1.1
    next c => rw [if_neg c] at h; exact ih h
theorem take_ca {D : Dn} {g : Nat} (h : takeD D g ≠ 0) : takeD D g ≤ D.U ∧ D.ca (takeD D g - 1) = 0 := by
  unfold takeD at h ⊢
  by_cases h1 : D.ra = 0
  · rw [if_pos h1] at h; exact absurd rfl h
  · rw [if_neg h1] at h ⊢
    by_cases h2 : ownD D g = 0
    · rw [if_pos h2] at h ⊢
      exact ⟨dryF_le D D.U, take_dry D.U h⟩
    · rw [if_neg h2]
      refine ⟨ownD_le D g, ?_⟩
      rcases fstF_ok (fun u => decide (D.ow u = g ∧ D.ca u = 0 ∧ D.we u ≤ 50)) D.U _ 0 rfl with e | ⟨_, _, c⟩
      · exact absurd e h2
      · exact (of_decide_eq_true c).2.1
theorem carr_ok {D : Dn} {g : Nat} (h : carr D g ≠ 0) : carr D g ≤ D.U ∧ D.ca (carr D g - 1) = g + 1 := by
  rcases fstF_ok (fun u => decide (D.ca u = g + 1)) D.U _ 0 rfl with e | ⟨_, b, c⟩
  · exact absurd e h
  · exact ⟨b, of_decide_eq_true c⟩
theorem carr_no {D : Dn} {g : Nat} (h : carr D g = 0) {u : Nat} (hu : u < D.U) : D.ca u ≠ g + 1 := by
  have := fstF_min (fun u => decide (D.ca u = g + 1)) D.U _ 0 rfl u (Nat.zero_le _) hu (Or.inl h)
  exact of_decide_eq_false this
theorem carr_of {D : Dn} (c : Car D) {g u : Nat} (hu : u < D.U) (h : D.ca u = g + 1) : carr D g = u + 1 := by
  by_cases h0 : carr D g = 0
  · exact absurd h (carr_no h0 hu)
  · obtain ⟨a, b⟩ := carr_ok h0
    have := c.2 (carr D g - 1) u (by omega) hu (by omega) (by omega)
    omega
theorem carr_in {D : Dn} (c : Car D) {g : Nat} (ho : D.ou g = 0) : carr D g = 0 := by
  by_cases h0 : carr D g = 0
  · exact h0
  · obtain ⟨a, b⟩ := carr_ok h0
    have := c.1 (carr D g - 1) (by omega) (by omega)
    rw [b, Nat.add_sub_cancel, ho] at this
    exact absurd this (by decide)
theorem leave_mi (D : Dn) (g : Nat) : (leaveD D g).mi = D.mi := takeE_o D g 0 0 (by decide)
theorem leave_ra (D : Dn) (g : Nat) : (leaveD D g).ra = D.ra := takeE_o D g 0 1 (by decide)
theorem leave_li (D : Dn) (g : Nat) : (leaveD D g).li = D.li := takeE_o D g 0 2 (by decide)
theorem leave_no (D : Dn) (g : Nat) : (leaveD D g).no = D.no := takeE_o D g 0 3 (by decide)
theorem leave_co (D : Dn) (g : Nat) : (leaveD D g).co = D.co := takeE_o D g 0 4 (by decide)
theorem leave_pu (D : Dn) (g : Nat) : (leaveD D g).pu = D.pu := takeE_o D g 0 5 (by decide)
theorem leave_G (D : Dn) (g : Nat) : (leaveD D g).G = D.G := takeE_o D g 0 7 (by decide)
theorem leave_U (D : Dn) (g : Nat) : (leaveD D g).U = D.U := takeE_o D g 0 8 (by decide)
theorem leave_ti (D : Dn) (g : Nat) : (leaveD D g).ti = D.ti := takeE_o D g 0 6 (by decide)
theorem leave_R (D : Dn) (g : Nat) : (leaveD D g).R = D.R + 1 := congrArg (· + 1) (takeE_o D g 0 9 (by decide))
theorem leave_ln (D : Dn) (g k : Nat) : (leaveD D g).ln k = D.ln k := takeE_o D g 1 k (by decide)
theorem leave_gi (D : Dn) (g k : Nat) : (leaveD D g).gi k = D.gi k := takeE_o D g 3 k (by decide)
theorem leave_ba (D : Dn) (g k : Nat) : (leaveD D g).ba k = D.ba k := takeE_o D g 4 k (by decide)
theorem leave_wk (D : Dn) (g k : Nat) : (leaveD D g).wk k = D.wk k := takeE_o D g 8 k (by decide)
theorem leave_wa (D : Dn) (g k : Nat) : (leaveD D g).wa k = D.wa k := takeE_o D g 9 k (by decide)
theorem leave_ow (D : Dn) (g k : Nat) : (leaveD D g).ow k = D.ow k := takeE_o D g 10 k (by decide)
theorem leave_we (D : Dn) (g k : Nat) : (leaveD D g).we k = D.we k := takeE_o D g 11 k (by decide)
theorem leave_ew (D : Dn) (g k : Nat) : (leaveD D g).ew k = if k = D.R then D.mi else D.ew k := by
  show (if k = takeE D g 0 9 then D.mi else takeE D g 13 k) = _
  rw [takeE_o D g 0 9 (by decide), takeE_o D g 13 k (by decide)]
  rfl
theorem leave_eg (D : Dn) (g k : Nat) : (leaveD D g).eg k = if k = D.R then g else D.eg k := by
  show (if k = takeE D g 0 9 then g else takeE D g 14 k) = _
  rw [takeE_o D g 0 9 (by decide), takeE_o D g 14 k (by decide)]
  rfl
theorem leave_el (D : Dn) (g k : Nat) : (leaveD D g).el k = if k = D.R then 1 else D.el k := by
  show (if k = takeE D g 0 9 then 1 else takeE D g 15 k) = _
  rw [takeE_o D g 0 9 (by decide), takeE_o D g 15 k (by decide)]
  rfl
theorem ret_mi (D : Dn) (g : Nat) : (retD D g).mi = D.mi := untake_o D g 0 0 (by decide)
theorem ret_ra (D : Dn) (g : Nat) : (retD D g).ra = D.ra := untake_o D g 0 1 (by decide)
theorem ret_li (D : Dn) (g : Nat) : (retD D g).li = D.li := untake_o D g 0 2 (by decide)
theorem ret_no (D : Dn) (g : Nat) : (retD D g).no = D.no := untake_o D g 0 3 (by decide)
theorem ret_co (D : Dn) (g : Nat) : (retD D g).co = D.co := untake_o D g 0 4 (by decide)
theorem ret_pu (D : Dn) (g : Nat) : (retD D g).pu = D.pu := untake_o D g 0 5 (by decide)
theorem ret_G (D : Dn) (g : Nat) : (retD D g).G = D.G := untake_o D g 0 7 (by decide)
theorem ret_U (D : Dn) (g : Nat) : (retD D g).U = D.U := untake_o D g 0 8 (by decide)
theorem ret_ti (D : Dn) (g : Nat) : (retD D g).ti = D.ti + tipD D g := rfl
theorem ret_R (D : Dn) (g : Nat) : (retD D g).R = D.R + 1 := congrArg (· + 1) (untake_o D g 0 9 (by decide))
theorem ret_ln (D : Dn) (g k : Nat) : (retD D g).ln k = D.ln k := untake_o D g 1 k (by decide)
theorem ret_gi (D : Dn) (g k : Nat) : (retD D g).gi k = D.gi k := untake_o D g 3 k (by decide)
theorem ret_ba (D : Dn) (g k : Nat) : (retD D g).ba k = D.ba k := untake_o D g 4 k (by decide)
theorem ret_wk (D : Dn) (g k : Nat) : (retD D g).wk k = D.wk k := untake_o D g 8 k (by decide)
theorem ret_wa (D : Dn) (g k : Nat) : (retD D g).wa k = D.wa k := untake_o D g 9 k (by decide)
theorem ret_ow (D : Dn) (g k : Nat) : (retD D g).ow k = D.ow k := untake_o D g 10 k (by decide)
theorem ret_we (D : Dn) (g k : Nat) : (retD D g).we k = D.we k := untake_o D g 11 k (by decide)
theorem ret_si (D : Dn) (g k : Nat) : (retD D g).si k = D.si k := untake_o D g 6 k (by decide)
theorem ret_so (D : Dn) (g k : Nat) : (retD D g).so k = D.so k := untake_o D g 7 k (by decide)
theorem ret_ew (D : Dn) (g k : Nat) : (retD D g).ew k = if k = D.R then D.mi else D.ew k := by
  show (if k = untake D g 0 9 then D.mi else untake D g 13 k) = _
  rw [untake_o D g 0 9 (by decide), untake_o D g 13 k (by decide)]
  rfl
theorem ret_eg (D : Dn) (g k : Nat) : (retD D g).eg k = if k = D.R then g else D.eg k := by
  show (if k = untake D g 0 9 then g else untake D g 14 k) = _
  rw [untake_o D g 0 9 (by decide), untake_o D g 14 k (by decide)]
  rfl
theorem ret_el (D : Dn) (g k : Nat) : (retD D g).el k = if k = D.R then 0 else D.el k := by
  show (if k = untake D g 0 9 then 0 else untake D g 15 k) = _
  rw [untake_o D g 0 9 (by decide), untake_o D g 15 k (by decide)]
  rfl
theorem leave_so (D : Dn) (g k : Nat) : (leaveD D g).so k = if k = g then 0 else D.so k := by
  show (if k = g then 0 else takeE D g 7 k) = _
  rw [takeE_o D g 7 k (by decide)]
  rfl
theorem leave_ou (D : Dn) (g k : Nat) : (leaveD D g).ou k = if k = g then 1 else D.ou k := by
  show (if k = g then 1 else takeE D g 5 k) = _
  rw [takeE_o D g 5 k (by decide)]
  rfl
theorem leave_si (D : Dn) (g k : Nat) : (leaveD D g).si k = if k = g then D.mi else D.si k := by
  show (if k = g then D.mi else takeE D g 6 k) = _
  rw [takeE_o D g 6 k (by decide)]
  rfl
theorem ret_ou (D : Dn) (g k : Nat) : (retD D g).ou k = if k = g then 0 else D.ou k := by
  show (if k = g then 0 else untake D g 5 k) = _
  rw [untake_o D g 5 k (by decide)]
  rfl
theorem leave_ca (D : Dn) (g u : Nat) : (leaveD D g).ca u = if takeD D g = u + 1 then g + 1 else D.ca u := by
  show (takeE D g) 12 u = _
  unfold takeE
  by_cases h : takeD D g = 0
  · rw [if_pos h, if_neg (by omega)]; rfl
  · rw [if_neg h]
    show (if u = takeD D g - 1 then g + 1 else D 12 u) = _
    by_cases h2 : u = takeD D g - 1
    · rw [if_pos h2, if_pos (by omega)]
    · rw [if_neg h2, if_neg (by omega)]; rfl
theorem ret_ca (D : Dn) (g u : Nat) : (retD D g).ca u = if carr D g = u + 1 then 0 else D.ca u := by
  show (untake D g) 12 u = _
  unfold untake
  by_cases h : carr D g = 0
  · rw [if_pos h, if_neg (by omega)]; rfl
  · rw [if_neg h]
    show (if u = carr D g - 1 then 0 else D 12 u) = _
    by_cases h2 : u = carr D g - 1
    · rw [if_pos h2, if_pos (by omega)]
    · rw [if_neg h2, if_neg (by omega)]; rfl
theorem car_leave {D : Dn} (c : Car D) {g : Nat} (ho : D.ou g = 0) : Car (leaveD D g) := by
  have key : ∀ u, u < D.U → D.ca u ≠ g + 1 := fun u hu e => by
    have := c.1 u hu (by omega)
    rw [e, Nat.add_sub_cancel, ho] at this
    exact absurd this (by decide)
  refine ⟨fun u hu h => ?_, fun u w hu hw h e => ?_⟩
  · rw [leave_U] at hu
    rw [leave_ca] at h ⊢
    rw [leave_ou]
    by_cases h1 : takeD D g = u + 1
    · rw [if_pos h1, if_pos (by omega)]
    · rw [if_neg h1] at h ⊢
      split
      · rfl
      · exact c.1 u hu h
  · rw [leave_U] at hu hw
    rw [leave_ca] at h e
    rw [leave_ca] at e
    by_cases h1 : takeD D g = u + 1
    · by_cases h2 : takeD D g = w + 1
      · omega
      · rw [if_pos h1, if_neg h2] at e
        exact absurd e.symm (key w hw)
    · rw [if_neg h1] at h e
      by_cases h2 : takeD D g = w + 1
      · rw [if_pos h2] at e
        exact absurd e (key u hu)
      · rw [if_neg h2] at e
        exact c.2 u w hu hw h e
theorem car_ret {D : Dn} (c : Car D) {g : Nat} : Car (retD D g) := by
  refine ⟨fun u hu h => ?_, fun u w hu hw h e => ?_⟩
  · rw [ret_U] at hu
    rw [ret_ca] at h ⊢
    rw [ret_ou]
    by_cases h1 : carr D g = u + 1
    · rw [if_pos h1] at h; exact absurd rfl h
    · rw [if_neg h1] at h ⊢
      by_cases h2 : D.ca u - 1 = g
      · have := carr_of c (g := g) hu (by omega)
        exact absurd this h1
      · rw [if_neg h2]
        exact c.1 u hu h
  · rw [ret_U] at hu hw
    rw [ret_ca] at h e
    rw [ret_ca] at e
    by_cases h1 : carr D g = u + 1
    · rw [if_pos h1] at h; exact absurd rfl h
    · rw [if_neg h1] at h e
      by_cases h2 : carr D g = w + 1
      · rw [if_pos h2] at e
        exact absurd e h
      · rw [if_neg h2] at e
        exact c.2 u w hu hw h e
theorem car_passN {D : Dn} (c : Car D) (n : Nat) : Car (passN D n) := by
  refine car_same c ?_ (fun u => passN_o D n 12 u (by decide) (by decide) (by decide)) (fun g => passN_o D n 5 g (by decide) (by decide) (by decide))
  induction n with
  | zero => rfl
  | succ n ih => exact (passD_0 (passN D n) (by decide) (by decide) (by decide) (by decide)).trans ih
theorem car_umb {D : Dn} (c : Car D) (a b : Nat) : Car (upD (upD (upD (upD D 10 D.U a) 11 D.U b) 12 D.U 0) 0 8 (D.U + 1)) := by
  have hc : ∀ u, (upD (upD (upD (upD D 10 D.U a) 11 D.U b) 12 D.U 0) 0 8 (D.U + 1)).ca u = if u = D.U then 0 else D.ca u := fun u => rfl
  refine ⟨fun u hu h => ?_, fun u w hu hw h e => ?_⟩
  · have hu : u < D.U + 1 := hu
    rw [hc] at h ⊢
    by_cases h1 : u = D.U
    · rw [if_pos h1] at h; exact absurd rfl h
    · rw [if_neg h1] at h ⊢
      exact c.1 u (by omega) h
  · have hu : u < D.U + 1 := hu
    have hw : w < D.U + 1 := hw
    rw [hc] at h
    rw [hc, hc] at e
    by_cases h1 : u = D.U
    · rw [if_pos h1] at h; exact absurd rfl h
    · rw [if_neg h1] at h e
      by_cases h2 : w = D.U
      · rw [if_pos h2] at e; exact absurd e h
      · rw [if_neg h2] at e
        exact c.2 u w (by omega) (by omega) h e
theorem car_none {D : Dn} (h : ∀ u, u < D.U → D.ca u = 0) : Car D := ⟨fun u hu h9 => absurd (h u hu) h9, fun u _ hu _ h9 _ => absurd (h u hu) h9⟩
theorem car_i : Car DI := car_none (by decide)
