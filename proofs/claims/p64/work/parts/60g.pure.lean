/-! alibis: who was out when, on both sides -/
def awF (D : Dn) (g : Nat) : Nat → Nat
  | 0 => 0
  | n + 1 => if D.eg n = g then (if D.el n = 0 then 0 else D.ew n + 1) else awF D g n
def Alt (D : Dn) : Prop := (∀ n, n < D.R → (D.el n = 0 ↔ awF D (D.eg n) n ≠ 0)) ∧ (∀ g, g < D.G → awF D g D.R = if D.ou g = 0 then 0 else D.si g + 1)
def clp (f e x : Nat) : Nat := if f < (if x < e then x else e) then (if x < e then x else e) else f
def sncF (D : Dn) (f e : Nat) : Nat → Nat
  | 0 => f
  | n + 1 => clp f e (D.ew n)
theorem snc_s (D : Dn) (f e n : Nat) : sncF D f e (n + 1) = clp f e (D.ew n) := rfl
def sumF (D : Dn) (g h f e : Nat) : Nat → Nat
  | 0 => 0
  | n + 1 => sumF D g h f e n + if awF D g n = 0 then 0 else if awF D h n = 0 then 0 else clp f e (D.ew n) - sncF D f e n
def ansF (D : Dn) (g h f e : Nat) : Nat := sumF D g h f e D.R + if awF D g D.R = 0 then 0 else if awF D h D.R = 0 then 0 else e - sncF D f e D.R
theorem clp_bd {f e : Nat} (h : f ≤ e) (x : Nat) : f ≤ clp f e x ∧ clp f e x ≤ e := by
  unfold clp
  split <;> split <;> omega
theorem clp_mono {f e x y : Nat} (h : f ≤ e) (hx : x ≤ y) : clp f e x ≤ clp f e y := by
  unfold clp
  by_cases c1 : x < e <;> by_cases c2 : y < e <;> simp only [c1, c2, if_true, if_false] <;> (repeat' split) <;> omega
theorem clp_id {e x : Nat} (h : x ≤ e) : clp 0 e x = x := by
  unfold clp
  split <;> split <;> omega
theorem clp_top {f e x : Nat} (h : f ≤ e) (hx : e ≤ x) : clp f e x = e := by
  unfold clp
  split <;> split <;> omega
theorem es0 (n : Nat) : (n + 1 = 0) = False := eq_false (Nat.succ_ne_zero n)
theorem snc_le {D : Dn} {T : Nat} (o : OkD T D) {f e : Nat} (h : f ≤ e) {n : Nat} (hn : n < D.R) : sncF D f e n ≤ clp f e (D.ew n) := by
  cases n with
  | zero => exact (clp_bd h _).1
  | succ n => exact clp_mono h (o.up n (n + 1) (Nat.le_succ n) hn)
theorem snc_bd {D : Dn} {f e : Nat} (h : f ≤ e) (n : Nat) : f ≤ sncF D f e n ∧ sncF D f e n ≤ e := by
  cases n with
  | zero => exact ⟨Nat.le_refl f, h⟩
  | succ n => exact clp_bd h _
theorem sum_bd {D : Dn} {T : Nat} (o : OkD T D) {f e : Nat} (h : f ≤ e) (g k : Nat) : ∀ n, n ≤ D.R → sumF D g k f e n + f ≤ sncF D f e n := by
  intro n
  induction n with
  | zero => intro _; simp only [sumF, sncF]; omega
  | succ n ih =>
    intro hn
    have h1 := ih (by omega)
    have h2 := snc_le o h (n := n) (by omega)
    simp only [sumF]
    rw [show sncF D f e (n + 1) = clp f e (D.ew n) from rfl]
    split
    · omega
    · split <;> omega
theorem ansF_bd {D : Dn} {T : Nat} (o : OkD T D) {f e : Nat} (h : f ≤ e) (g k : Nat) : ansF D g k f e ≤ e := by
  have h1 := sum_bd o h g k D.R (Nat.le_refl _)
  have h2 := snc_bd (D := D) h D.R
  unfold ansF
  split
  · omega
  · split <;> omega
theorem q_clp {f e x : Nat} (hf : f < 2147483648) (he : e < 2147483648) (hx : x < 2147483648) {i1 i2 : Decidable (x < e)} {i3 : Decidable (nI f < @ite _ (x < e) i1 (nI x) (nI e))} : @ite _ (nI f < @ite _ (x < e) i1 (nI x) (nI e)) i3 (@ite _ (x < e) i2 (nI x) (nI e)) (nI f) = nI (clp f e x) := by
  unfold clp
  by_cases c : x < e
  · simp (disch := omega) only [c, if_true, q_lt]
    split <;> rfl
  · simp (disch := omega) only [c, if_false, q_lt]
    split <;> rfl
def fl01 (n : Nat) : Int32 := if n = 0 then nI 0 else nI 1
theorem fl01_0 {n : Nat} : (fl01 n = nI 0) = (n = 0) := by
  unfold fl01
  split
  next c => exact propext ⟨fun _ => c, fun _ => rfl⟩
  next c => exact propext ⟨fun h => absurd h (by decide), fun h => absurd h c⟩
theorem u_mA {vN : Nat → Int32} {vG vU vR : Nat → Nat → Int32} {D : Dn} {T : Nat} (m : M8 vN vG vU vR D) (o : OkD T D) {g h f e : Nat} (hg : g < 1000) (hh : h < 1000) (hfe : f ≤ e) (he : e ≤ 1000) : F_X5_minutesAway vR (nI g) (nI h) (nI f) (nI e) = some (nI (ansF D g h f e)) := by
  have hG := o.G
  have hR := o.R
  have hm := o.mi
  have hR1 := sum_bd o hfe g h D.R (Nat.le_refl _)
  have hR2 := snc_bd (D := D) hfe D.R
  refine lp_acc (L := fun n k (a : Int32 × Int32 × Int32 × Int32) => L_X5_minutesAway_15 vR (nI g) (nI h) (nI f) (nI e) n a.1 a.2.1 a.2.2.1 a.2.2.2 k) (a := fun n => (nI (sumF D g h f e n), nI (sncF D f e n), fl01 (awF D g n), fl01 (awF D h n))) (U := D.R) (fun n k hk => ?_) (fun n => ?_) FU 0 (Nat.zero_le _) (by unfold FU; omega)
  · have h1 := o.eg k hk
    have h2 := o.ew k hk
    have h3 := sum_bd o hfe g h k (by omega)
    have h4 := snc_le o hfe hk
    have h5 := snc_bd (D := D) hfe k
    have h6 := clp_bd hfe (D.ew k)
    have h7 := o.el k hk
    by_cases ca : awF D g k = 0 <;> by_cases cb : awF D h k = 0 <;> by_cases cl : D.el k = 0 <;> rcases Classical.propComplete (D.eg k = g) with cg | cg <;> rcases Classical.propComplete (D.eg k = h) with ch | ch
    all_goals simp (disch := omega) only [L_X5_minutesAway_15, B_X5_minutesAway_15, J_X5_minutesAway_62, q_lit, nI_add, q_ck, q_cl, m.R, m.ew, m.eg, m.el, q_le, q_lt, q_eq, q_clp, q_sub, fl01_0, ca, cb, cl, cg, ch, if_true, if_false, sumF, snc_s, awF, fl01, es0, e4345, eq_self, Nat.add_zero]
    all_goals first | rfl | (exfalso; omega) | (rw [if_neg (by omega)]; done) | (rw [if_neg (by omega)]; rfl)
  · simp (disch := omega) only [L_X5_minutesAway_15, B_X5_minutesAway_15, q_lit, nI_add, m.R, q_le, Nat.le_refl, if_true, fl01_0, ansF, q_sub]
    split
    · rfl
    · split
      · rfl
      · exact congrArg (fun x => some (nI x)) (by omega)
theorem q_s1 {a b : Nat} (ha : a < 1000000) (hb : b < 1000000) : nI a - nI b + nI 1 = nI (a + 1) - nI b := by
  rw [← nI_add]
  simp only [Int32.sub_eq_add_neg, Int32.add_assoc]
  rw [Int32.add_comm (-nI b) (nI 1)]
theorem q_m1s {a : Nat} (ha : a < 900000) : m1 - nI a + nI 1 = nI 0 - nI a := by
  rw [show m1 = nI 0 - nI 1 from rfl, q_ss, q_s1 (a := 0) (b := 1 + a) (by omega) (by omega)]
  apply Int32.toInt_inj.mp
  rw [pk_sub_toInt (by omega) (by omega), pk_sub_toInt (by omega) (by omega)]
  omega
def srF (D : Dn) (g f e : Nat) : Nat → Nat
  | 0 => 0
  | n + 1 => srF D g f e n + if D.eg n = g then (if D.el n = 0 then clp f e (D.ew n) - clp f e (awF D g n - 1) else 0) else 0
theorem aw_le {D : Dn} {T : Nat} (o : OkD T D) (g : Nat) : ∀ n, n ≤ D.R → awF D g n = 0 ∨ (0 < n ∧ awF D g n ≤ D.ew (n - 1) + 1) := by
  intro n
  induction n with
  | zero => intro _; exact Or.inl rfl
  | succ n ih =>
    intro hn
    simp only [awF]
    split
    · split
      · exact Or.inl rfl
      · exact Or.inr ⟨Nat.succ_pos n, Nat.le_refl _⟩
    · rcases ih (by omega) with h | ⟨h1, h2⟩
      · exact Or.inl h
      · have h3 := o.up (n - 1) n (by omega) (by omega)
        exact Or.inr ⟨Nat.succ_pos n, by rw [Nat.add_sub_cancel]; omega⟩
theorem sr_sum {D : Dn} {T : Nat} (o : OkD T D) (al : Alt D) {f e : Nat} (hf : f ≤ e) (g : Nat) : ∀ n, n ≤ D.R → sumF D g g f e n = srF D g f e n + (if awF D g n = 0 then 0 else sncF D f e n - clp f e (awF D g n - 1)) ∧ (awF D g n ≠ 0 → clp f e (awF D g n - 1) ≤ sncF D f e n) := by
  intro n
  induction n with
  | zero => intro _; exact ⟨rfl, fun h => absurd rfl h⟩
  | succ n ih =>
    intro hn
    obtain ⟨h1, h2⟩ := ih (by omega)
    have h3 := snc_le o hf (n := n) (by omega)
    have h4 := al.1 n (by omega)
    have h5 : awF D g (n + 1) ≠ 0 → clp f e (awF D g (n + 1) - 1) ≤ sncF D f e (n + 1) := by
      intro hne
      rcases aw_le o g (n + 1) hn with h | ⟨_, h⟩
      · exact absurd h hne
      · exact clp_mono hf (by rw [Nat.add_sub_cancel] at h; omega)
    refine ⟨?_, h5⟩
    by_cases ca : awF D g n = 0
    · by_cases cg : D.eg n = g
      · rw [cg] at h4
        have cl : ¬ D.el n = 0 := fun h => (h4.mp h) ca
        simp only [sumF, srF, awF, snc_s, ca, cg, cl, if_true, if_false, es0, Nat.add_sub_cancel, Nat.sub_self] at h1 ⊢
        exact h1
      · simp only [sumF, srF, awF, snc_s, ca, cg, if_true, if_false] at h1 ⊢
        exact h1
    · have h6 := h2 ca
      by_cases cg : D.eg n = g
      · rw [cg] at h4
        have cl : D.el n = 0 := h4.mpr ca
        simp only [sumF, srF, awF, snc_s, ca, cg, cl, if_true, if_false] at h1 ⊢
        omega
      · simp only [sumF, srF, awF, snc_s, ca, cg, if_false] at h1 ⊢
        omega
theorem sr_bd {D : Dn} {T : Nat} (o : OkD T D) (al : Alt D) {f e : Nat} (hf : f ≤ e) (g : Nat) {n : Nat} (hn : n ≤ D.R) : srF D g f e n ≤ e := by
  have h1 := (sr_sum o al hf g n hn).1
  have h2 := sum_bd o hf g g n hn
  have h3 := snc_bd (D := D) hf n
  omega
