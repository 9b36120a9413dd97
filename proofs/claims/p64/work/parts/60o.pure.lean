/-! ranges, many minutes -/
theorem passD_o (D : Dn) {a : Nat} (b : Nat) (h0 : a ≠ 0) (h7 : a ≠ 7) (h11 : a ≠ 11) : passD D a b = D a b := by
  unfold passD p4
  split
  · simp [upD, p3, q2, p2, h0, h7, h11]
  · simp [upD, p3, q2, p2, h0, h7, h11]
theorem passD_0 (D : Dn) {b : Nat} (h0 : b ≠ 0) (h3 : b ≠ 3) (h4 : b ≠ 4) (h5 : b ≠ 5) : passD D 0 b = D 0 b := by
  unfold passD p4
  split
  · simp [upD, p3, q2, p2, h0, h3, h4, h5]
  · simp [upD, p3, q2, p2, h0, h3, h5]
theorem passD_mi (D : Dn) : (passD D).mi = D.mi + 1 := by
  unfold passD p4
  split <;> rfl
theorem nsD_q2 (D : Dn) (t g : Nat) : nsD (q2 D) t g = nsD D t g := rfl
theorem passD_no (D : Dn) : (passD D).no = if (D.mi + 1) % 60 = 0 then 0 else D.no + smF (nsD D (D.mi + 1)) D.G := by
  unfold passD p4
  rw [show (p3 (q2 D) (D.mi + 1) D.G).mi = D.mi + 1 from rfl]
  split
  · rfl
  · rfl
theorem passD_co (D : Dn) : (passD D).co = if (D.mi + 1) % 60 = 0 then (if D.no + smF (nsD D (D.mi + 1)) D.G ≤ D.li then D.co else D.co + 1) else D.co := by
  unfold passD p4
  rw [show (p3 (q2 D) (D.mi + 1) D.G).mi = D.mi + 1 from rfl]
  split
  · rfl
  · rfl
theorem okn_pass {T : Nat} {D : Dn} (o : OkN T D) (hm : D.mi < 720) : OkN T (passD D) := by
  refine ⟨ok_pass o.1 (by omega), ?_, by rw [passD_mi]; exact hm⟩
  exact alt_same (D := D) o.2.1 (passD_0 D (by decide) (by decide) (by decide) (by decide)) (passD_0 D (by decide) (by decide) (by decide) (by decide)) (fun i => ⟨passD_o D i (by decide) (by decide) (by decide), passD_o D i (by decide) (by decide) (by decide), passD_o D i (by decide) (by decide) (by decide)⟩) (fun h _ => ⟨passD_o D h (by decide) (by decide) (by decide), passD_o D h (by decide) (by decide) (by decide)⟩)
def passN (D : Dn) : Nat → Dn
  | 0 => D
  | n + 1 => passD (passN D n)
theorem passN_mi (D : Dn) (n : Nat) : (passN D n).mi = D.mi + n := by
  induction n with
  | zero => rfl
  | succ n ih => rw [show passN D (n + 1) = passD (passN D n) from rfl, passD_mi, ih]; rfl
theorem ok_passN {T : Nat} {D : Dn} (o : OkD T D) : ∀ n, D.mi + n ≤ 960 → OkD T (passN D n) := by
  intro n
  induction n with
  | zero => intro _; exact o
  | succ n ih => intro h; exact ok_pass (ih (by omega)) (by rw [passN_mi]; omega)
theorem okn_passN {T : Nat} {D : Dn} (o : OkN T D) : ∀ n, D.mi + n ≤ 720 → OkN T (passN D n) := by
  intro n
  induction n with
  | zero => intro _; exact o
  | succ n ih => intro h; exact okn_pass (ih (by omega)) (by rw [passN_mi]; omega)
theorem passN_G (D : Dn) (n : Nat) : (passN D n).G = D.G := by
  induction n with
  | zero => rfl
  | succ n ih => exact (passD_0 (passN D n) (b := 7) (by decide) (by decide) (by decide) (by decide)).trans ih
theorem passN_li (D : Dn) (n : Nat) : (passN D n).li = D.li := by
  induction n with
  | zero => rfl
  | succ n ih => exact (passD_0 (passN D n) (b := 2) (by decide) (by decide) (by decide) (by decide)).trans ih
theorem barks_ext {D E : Dn} (h : ∀ a b, a ≠ 0 → a ≠ 7 → a ≠ 11 → E a b = D a b) (g t : Nat) : barksD E g t = barksD D g t := by
  unfold barksD
  have h1 : E.ou g = D.ou g := h 5 g (by decide) (by decide) (by decide)
  have h2 : E.ba g = D.ba g := h 4 g (by decide) (by decide) (by decide)
  have h3 : E.si g = D.si g := h 6 g (by decide) (by decide) (by decide)
  have h4 : E.wk g = D.wk g := h 8 g (by decide) (by decide) (by decide)
  have h5 : E.wa g = D.wa g := h 9 g (by decide) (by decide) (by decide)
  simp only [h1, h2, h3, h4, h5]
theorem passN_o (D : Dn) (n : Nat) : ∀ a b, a ≠ 0 → a ≠ 7 → a ≠ 11 → passN D n a b = D a b := by
  induction n with
  | zero => intro a b _ _ _; rfl
  | succ n ih => intro a b h0 h7 h11; exact (passD_o (passN D n) b h0 h7 h11).trans (ih a b h0 h7 h11)
theorem nsD_N (D : Dn) (n t : Nat) : nsD (passN D n) t = nsD D t := by
  funext g
  unfold nsD
  rw [barks_ext (passN_o D n), show (passN D n).ba g = D.ba g from passN_o D n 4 g (by decide) (by decide) (by decide)]
/-- a loop from s on whose values at k are a k -/
theorem lp_accS {α β : Type} {L : Nat → Int32 → α → Option β} {a : Nat → α} {s U : Nat} {r : β} (h1 : ∀ n k, s ≤ k → k < U → L (n + 1) (nI k) (a k) = L n (nI (k + 1)) (a (k + 1))) (h2 : ∀ n, L (n + 1) (nI U) (a U) = some r) :
    ∀ n k, s ≤ k → k ≤ U → U - k < n → L n (nI k) (a k) = some r := by
  intro n
  induction n with
  | zero => intro k _ _ h; omega
  | succ n ih =>
    intro k hs hk hn
    by_cases hku : k < U
    · rw [h1 n k hs hku]
      exact ih (k + 1) (by omega) hku (by omega)
    · have : k = U := by omega
      subst this
      exact h2 n
theorem u_fore {vN : Nat → Int32} {vG vU vR : Nat → Nat → Int32} {D : Dn} {T n : Nat} (m : M8 vN vG vU vR D) (o : OkN T D) (hn : n ≤ 240) : F_X3_foreseeComplaints vN vG (nI n) = some (nI (passN D n).co) := by
  have hm := o.2.2
  have hco := o.1.co
  have hno := o.1.no
  have hli := o.1.li
  have hG := o.1.G
  have ha : F_X3_foreseeComplaints vN vG (nI n) = L_X3_foreseeComplaints_13 vN vG (nI n) FU (nI D.co) (nI D.no) (nI 1) := by
    unfold F_X3_foreseeComplaints
    rw [m.co, m.no]
    rfl
  rw [ha]
  refine lp_accS (L := fun f k (a : Int32 × Int32) => L_X3_foreseeComplaints_13 vN vG (nI n) f a.1 a.2 k) (a := fun k => (nI (passN D (k - 1)).co, nI (passN D (k - 1)).no)) (s := 1) (U := n + 1) (fun f k hs hk => ?_) (fun f => ?_) FU 1 (Nat.le_refl _) (by omega) (by unfold FU; omega)
  · obtain ⟨j, rfl⟩ : ∃ j, k = j + 1 := ⟨k - 1, by omega⟩
    have oj := ok_passN o.1 j (by omega)
    have hmj := passN_mi D j
    have h1 := u_noise m o.1 (t := D.mi + (j + 1)) (by omega) (by omega)
    have h2 := ns_sm o.1 (D.mi + (j + 1)) (Nat.le_refl D.G)
    have hnoj := oj.no
    have hcoj := oj.co
    have c1 : ¬ n < j + 1 := by omega
    have e1 : (passN D (j + 1)).no = _ := passD_no (passN D j)
    have e2 : (passN D (j + 1)).co = _ := passD_co (passN D j)
    rw [nsD_N, passN_G, hmj] at e1 e2
    rw [passN_li] at e2
    have hd : (D.mi + (j + 1)) / 60 * 60 ≤ D.mi + (j + 1) := Nat.div_mul_le_self _ _
    show L_X3_foreseeComplaints_13 vN vG (nI n) (f + 1) (nI (passN D j).co) (nI (passN D j).no) (nI (j + 1)) = L_X3_foreseeComplaints_13 vN vG (nI n) f (nI (passN D (j + 1)).co) (nI (passN D (j + 1)).no) (nI (j + 1 + 1))
    rw [e1, e2, Nat.add_assoc D.mi j 1]
    by_cases c : (D.mi + (j + 1)) % 60 = 0
    · have c' : D.mi + (j + 1) - (D.mi + (j + 1)) / 60 * 60 = 0 := by omega
      rw [if_pos c, if_pos c]
      by_cases z : (passN D j).no + smF (nsD D (D.mi + (j + 1))) D.G ≤ D.li
      · rw [if_pos z]
        simp (disch := omega) only [L_X3_foreseeComplaints_13, B_X3_foreseeComplaints_13, q_lit, nI_add, m.mi, m.li, h1, q_lt, c1, q_sb, if_false, q_div, pk_mul, q_sub, c', eq_self, if_true, q_le, z]
      · rw [if_neg z]
        simp (disch := omega) only [L_X3_foreseeComplaints_13, B_X3_foreseeComplaints_13, q_lit, nI_add, m.mi, m.li, h1, q_lt, c1, q_sb, if_false, q_div, pk_mul, q_sub, c', eq_self, if_true, q_le, z]
    · have c' : ¬ D.mi + (j + 1) - (D.mi + (j + 1)) / 60 * 60 = 0 := by omega
      rw [if_neg c, if_neg c]
      simp (disch := omega) only [L_X3_foreseeComplaints_13, B_X3_foreseeComplaints_13, q_lit, nI_add, m.mi, h1, q_lt, c1, q_sb, if_false, q_div, pk_mul, q_sub, c', q_eq]
  · have c1 : n < n + 1 := by omega
    simp (disch := omega) only [L_X3_foreseeComplaints_13, B_X3_foreseeComplaints_13, q_lt, c1, if_true, Nat.add_sub_cancel]
theorem u_passM {vX vN vH : Nat → Int32} {vG vU vR : Nat → Nat → Int32} {vHV : Nat → NV} {D : Dn} {T n : Nat} (m : M8 vN vG vU vR D) (o : OkN T D) (hn : D.mi + n ≤ 720) : ∃ r, L_X8_passMinutes_56 vX vR (nI n) FU (nI D.co) 0 vN vG vU vH vHV = some r ∧ r.1 = 0 ∧ r.2.1 = nI (passN D n).co - nI D.co ∧ M8 r.2.2.1 r.2.2.2.1 r.2.2.2.2.1 vR (passN D n) ∧ r.2.2.2.2.2.1 = vH ∧ r.2.2.2.2.2.2 = vHV := by
  refine lp_inv (L := fun f k (x : (Nat → Int32) × (Nat → Nat → Int32) × (Nat → Nat → Int32)) => L_X8_passMinutes_56 vX vR (nI n) f (nI D.co) k x.1 x.2.1 x.2.2 vH vHV) (I := fun k x => M8 x.1 x.2.1 x.2.2 vR (passN D k)) (Q := fun r => r.1 = 0 ∧ r.2.1 = nI (passN D n).co - nI D.co ∧ M8 r.2.2.1 r.2.2.2.1 r.2.2.2.2.1 vR (passN D n) ∧ r.2.2.2.2.2.1 = vH ∧ r.2.2.2.2.2.2 = vHV) (U := n) (fun f k x hk hI => ?_) (fun f x hI => ?_) FU 0 (vN, vG, vU) (Nat.zero_le _) (by unfold FU; omega) m
  · obtain ⟨r, e, m'⟩ := u_passOne hI (ok_passN o.1 k (by omega)) (by rw [passN_mi]; omega)
    have c1 : ¬ n ≤ k := by omega
    refine ⟨r, m', ?_⟩
    simp (disch := omega) only [L_X8_passMinutes_56, B_X8_passMinutes_56, q_lit, nI_add, q_le, c1, if_false, e, q_sb]
  · have e4 : x.1 4 = nI (passN D n).co := hI.co
    refine ⟨(0, nI (passN D n).co - nI D.co, x.1, x.2.1, x.2.2, vH, vHV), ?_, rfl, rfl, hI, rfl, rfl⟩
    simp (disch := omega) only [L_X8_passMinutes_56, B_X8_passMinutes_56, q_lit, q_le, Nat.le_refl, if_true, e4]

