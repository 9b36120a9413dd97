/-! alibis: who was out when, on both sides -/
def awF (D : Dn) (g : Nat) : Nat → Nat
  | 0 => 0
  | n + 1 => if D.eg n = g then (if D.el n = 0 then 0 else D.ew n + 1) else awF D g n
def Alt (D : Dn) : Prop := (∀ n, n < D.R → (D.el n = 0 ↔ awF D (D.eg n) n ≠ 0)) ∧ (∀ g, g < D.G → awF D g D.R = if D.ou g = 0 then 0 else D.si g + 1)
def clp (f e x : Nat) : Nat := if f < (if x < e then x else e) then (if x < e then x else e) else f
def sncF (D : Dn) (f e : Nat) : Nat → Nat
  | 0 => f
  | n + 1 => clp f e (D.ew n)
theorem snc_s (D : Dn) (f e n : Nat) : sncF D f e (n + 1) = clp f e (D.ew n) := rfl
def sumF (D : Dn) (g h f e : Nat) : Nat → Nat
  | 0 => 0
  | n + 1 => sumF D g h f e n + if awF D g n = 0 then 0 else if awF D h n = 0 then 0 else clp f e (D.ew n) - sncF D f e n
def ansF (D : Dn) (g h f e : Nat) : Nat := sumF D g h f e D.R + if awF D g D.R = 0 then 0 else if awF D h D.R = 0 then 0 else e - sncF D f e D.R
theorem clp_bd {f e : Nat} (h : f ≤ e) (x : Nat) : f ≤ clp f e x ∧ clp f e x ≤ e := by
  unfold clp
  split <;> split <;> omega
theorem clp_mono {f e x y : Nat} (h : f ≤ e) (hx : x ≤ y) : clp f e x ≤ clp f e y := by
  unfold clp
  by_cases c1 : x < e <;> by_cases c2 : y < e <;> simp only [c1, c2, if_true, if_false] <;> (repeat' split) <;> omega
theorem clp_id {e x : Nat} (h : x ≤ e) : clp 0 e x = x := by
  unfold clp
  split <;> split <;> omega
theorem clp_top {f e x : Nat} (h : f ≤ e) (hx : e ≤ x) : clp f e x = e := by
  unfold clp
  split <;> split <;> omega
theorem es0 (n : Nat) : (n + 1 = 0) = False := eq_false (Nat.succ_ne_zero n)
theorem snc_le {D : Dn} {T : Nat} (o : OkD T D) {f e : Nat} (h : f ≤ e) {n : Nat} (hn : n < D.R) : sncF D f e n ≤ clp f e (D.ew n) := by
  cases n with
  | zero => exact (clp_bd h _).1
  | succ n => exact clp_mono h (o.up n (n + 1) (Nat.le_succ n) hn)
theorem snc_bd {D : Dn} {f e : Nat} (h : f ≤ e) (n : Nat) : f ≤ sncF D f e n ∧ sncF D f e n ≤ e := by
  cases n with
  | zero => exact ⟨Nat.le_refl f, h⟩
  | succ n => exact clp_bd h _
theorem sum_bd {D : Dn} {T : Nat} (o : OkD T D) {f e : Nat} (h : f ≤ e) (g k : Nat) : ∀ n, n ≤ D.R → sumF D g k f e n + f ≤ sncF D f e n := by
  intro n
  induction n with
  | zero => intro _; simp only [sumF, sncF]; omega
  | succ n ih =>
    intro hn
    have h1 := ih (by omega)
    have h2 := snc_le o h (n := n) (by omega)
    simp only [sumF]
    rw [show sncF D f e (n + 1) = clp f e (D.ew n) from rfl]
    split
    · omega
    · split <;> omega
theorem ansF_bd {D : Dn} {T : Nat} (o : OkD T D) {f e : Nat} (h : f ≤ e) (g k : Nat) : ansF D g k f e ≤ e := by
  have h1 := sum_bd o h g k D.R (Nat.le_refl _)
  have h2 := snc_bd (D := D) h D.R
  unfold ansF
  split
  · omega
  · split <;> omega
theorem q_clp {f e x : Nat} (hf : f < 2147483648) (he : e < 2147483648) (hx : x < 2147483648) {i1 i2 : Decidable (x < e)} {i3 : Decidable (nI f < @ite _ (x < e) i1 (nI x) (nI e))} : @ite _ (nI f < @ite _ (x < e) i1 (nI x) (nI e)) i3 (@ite _ (x < e) i2 (nI x) (nI e)) (nI f) = nI (clp f e x) := by
  unfold clp
  by_cases c : x < e
  · simp (disch := omega) only [c, if_true, q_lt]
    split <;> rfl
  · simp (disch := omega) only [c, if_false, q_lt]
    split <;> rfl
def fl01 (n : Nat) : Int32 := if n = 0 then nI 0 else nI 1
theorem fl01_0 {n : Nat} : (fl01 n = nI 0) = (n = 0) := by
  unfold fl01
  split
  next c => exact propext ⟨fun _ => c, fun _ => rfl⟩
  next c => exact propext ⟨fun h => absurd h (by decide), fun h => absurd h c⟩
theorem u_mA {vN : Nat → Int32} {vG vU vR : Nat → Nat → Int32} {D : Dn} {T : Nat} (m : M8 vN vG vU vR D) (o : OkD T D) {g h f e : Nat} (hg : g < 1000) (hh : h < 1000) (hfe : f ≤ e) (he : e ≤ 1000) : F_X5_minutesAway vR (nI g) (nI h) (nI f) (nI e) = some (nI (ansF D g h f e)) := by
  have hG := o.G
  have hR := o.R
  have hm := o.mi
  have hR1 := sum_bd o hfe g h D.R (Nat.le_refl _)
  have hR2 := snc_bd (D := D) hfe D.R
  refine lp_acc (L := fun n k (a : Int32 × Int32 × Int32 × Int32) => L_X5_minutesAway_15 vR (nI g) (nI h) (nI f) (nI e) n a.1 a.2.1 a.2.2.1 a.2.2.2 k) (a := fun n => (nI (sumF D g h f e n), nI (sncF D f e n), fl01 (awF D g n), fl01 (awF D h n))) (U := D.R) (fun n k hk => ?_) (fun n => ?_) FU 0 (Nat.zero_le _) (by unfold FU; omega)
  · have h1 := o.eg k hk
    have h2 := o.ew k hk
    have h3 := sum_bd o hfe g h k (by omega)
    have h4 := snc_le o hfe hk
    have h5 := snc_bd (D := D) hfe k
    have h6 := clp_bd hfe (D.ew k)
    have h7 := o.el k hk
    by_cases ca : awF D g k = 0 <;> by_cases cb : awF D h k = 0 <;> by_cases cl : D.el k = 0 <;> rcases Classical.propComplete (D.eg k = g) with cg | cg <;> rcases Classical.propComplete (D.eg k = h) with ch | ch
    all_goals simp (disch := omega) only [L_X5_minutesAway_15, B_X5_minutesAway_15, J_X5_minutesAway_62, q_lit, nI_add, q_ck, q_cl, m.R, m.ew, m.eg, m.el, q_le, q_lt, q_eq, q_clp, q_sub, fl01_0, ca, cb, cl, cg, ch, if_true, if_false, sumF, snc_s, awF, fl01, es0, e4345, eq_self, Nat.add_zero]
    all_goals first | rfl | (exfalso; omega) | (rw [if_neg (by omega)]; done) | (rw [if_neg (by omega)]; rfl)
  · simp (disch := omega) only [L_X5_minutesAway_15, B_X5_minutesAway_15, q_lit, nI_add, m.R, q_le, Nat.le_refl, if_true, fl01_0, ansF, q_sub]
    split
    · rfl
    · split
      · rfl
      · exact congrArg (fun x => some (nI x)) (by omega)
theorem q_s1 {a b : Nat} (ha : a < 1000000) (hb : b < 1000000) : nI a - nI b + nI 1 = nI (a + 1) - nI b := by
  rw [← nI_add]
  simp only [Int32.sub_eq_add_neg, Int32.add_assoc]
  rw [Int32.add_comm (-nI b) (nI 1)]
theorem q_m1s {a : Nat} (ha : a < 900000) : m1 - nI a + nI 1 = nI 0 - nI a := by
  rw [show m1 = nI 0 - nI 1 from rfl, q_ss, q_s1 (a := 0) (b := 1 + a) (by omega) (by omega)]
  apply Int32.toInt_inj.mp
  rw [pk_sub_toInt (by omega) (by omega), pk_sub_toInt (by omega) (by omega)]
  omega
theorem q_more0 {a b : Nat} (ha : a < 1000000) (hb : b < 1000000) : F_X9_more 0 (nI a - nI b) = some (nI (a - b)) := by
  show (if nI 0 ≤ nI a - nI b then some (nI a - nI b) else some (nI 0)) = _
  by_cases h : b ≤ a
  · rw [if_pos (by rw [q_0sub ha hb]; exact h), q_sub h]
  · rw [if_neg (by rw [q_0sub ha hb]; exact h), show a - b = 0 by omega]
theorem q_lessN {a b : Nat} (ha : a < 1000000) (hb : b < 1000000) : F_X9_less (nI a) (nI b) = some (nI (if b ≤ a then b else a)) := by
  show (if nI b ≤ nI a then some (nI b) else some (nI a)) = _
  simp (disch := omega) only [q_le]
  split <;> rfl
theorem q_moreN {a b : Nat} (ha : a < 1000000) (hb : b < 1000000) : F_X9_more (nI a) (nI b) = some (nI (if a ≤ b then b else a)) := by
  show (if nI a ≤ nI b then some (nI b) else some (nI a)) = _
  simp (disch := omega) only [q_le]
  split <;> rfl
theorem t_over {t m f e : Nat} (hm : m ≤ 1000) (ht : t ≤ m) (he : e ≤ 1000) (hf : f ≤ e) : F_X9_overlap (nI t) (nI m - nI 1) (nI f) (nI e - nI 1) = some (nI (clp f e m - clp f e t)) := by
  have hmt := clp_mono hf ht
  by_cases hm0 : m = 0
  · have ht0 : t = 0 := by omega
    subst hm0 ht0
    have e1 : F_X9_less (nI 0 - nI 1) (nI e - nI 1) = some m1 := by
      show (if nI e - nI 1 ≤ m1 then some (nI e - nI 1) else some m1) = some m1
      by_cases he0 : e = 0
      · subst he0; rfl
      · rw [q_sub (by omega), if_neg (by rw [q_le1 (by omega)]; exact id)]
    unfold F_X9_overlap
    rw [e1, q_sb, q_moreN (by omega) (by omega), q_sb]
    rw [show (if 0 ≤ f then f else 0) = f by rw [if_pos (Nat.zero_le _)]]
    rw [show m1 - nI f + 1 = m1 - nI f + nI 1 from rfl, q_m1s (by omega), q_more0 (by omega) (by omega), q_sb]
    exact congrArg (fun x => some (nI x)) (by omega)
  · by_cases he0 : e = 0
    · have hf0 : f = 0 := by omega
      subst he0 hf0
      have e1 : F_X9_less (nI m - nI 1) (nI 0 - nI 1) = some m1 := by
        show (if m1 ≤ nI m - nI 1 then some m1 else some (nI m - nI 1)) = some m1
        rw [q_sub (by omega), if_pos (by rw [q_1le (by omega)]; exact trivial)]
      unfold F_X9_overlap
      rw [e1, q_sb, q_moreN (by omega) (by omega), q_sb]
      rw [show (if t ≤ 0 then 0 else t) = t by split <;> omega]
      rw [show m1 - nI t + 1 = m1 - nI t + nI 1 from rfl, q_m1s (by omega), q_more0 (by omega) (by omega), q_sb]
      refine congrArg (fun x => some (nI x)) ?_
      unfold clp
      simp only [Nat.not_lt_zero, if_false]
      omega
    · unfold F_X9_overlap
      rw [q_sub (by omega), q_sub (by omega), q_lessN (by omega) (by omega), q_sb, q_moreN (by omega) (by omega), q_sb]
      have hb1 : (if e - 1 ≤ m - 1 then e - 1 else m - 1) ≤ 1000 := by split <;> omega
      have hb2 : (if t ≤ f then f else t) ≤ 1000 := by split <;> omega
      rw [show ∀ x : Int32, x + 1 = x + nI 1 from fun _ => rfl, q_s1 (by omega) (by omega), q_more0 (by omega) (by omega), q_sb]
      refine congrArg (fun x => some (nI x)) ?_
      unfold clp
      by_cases c1 : m < e <;> by_cases c2 : t < e <;> simp only [c1, c2, if_true, if_false] <;> (repeat' split) <;> omega
def srF (D : Dn) (g f e : Nat) : Nat → Nat
  | 0 => 0
  | n + 1 => srF D g f e n + if D.eg n = g then (if D.el n = 0 then clp f e (D.ew n) - clp f e (awF D g n - 1) else 0) else 0
theorem aw_le {D : Dn} {T : Nat} (o : OkD T D) (g : Nat) : ∀ n, n ≤ D.R → awF D g n = 0 ∨ (0 < n ∧ awF D g n ≤ D.ew (n - 1) + 1) := by
  intro n
  induction n with
  | zero => intro _; exact Or.inl rfl
  | succ n ih =>
    intro hn
    simp only [awF]
    split
    · split
      · exact Or.inl rfl
      · exact Or.inr ⟨Nat.succ_pos n, Nat.le_refl _⟩
    · rcases ih (by omega) with h | ⟨h1, h2⟩
      · exact Or.inl h
      · have h3 := o.up (n - 1) n (by omega) (by omega)
        exact Or.inr ⟨Nat.succ_pos n, by rw [Nat.add_sub_cancel]; omega⟩
theorem sr_sum {D : Dn} {T : Nat} (o : OkD T D) (al : Alt D) {f e : Nat} (hf : f ≤ e) (g : Nat) : ∀ n, n ≤ D.R → sumF D g g f e n = srF D g f e n + (if awF D g n = 0 then 0 else sncF D f e n - clp f e (awF D g n - 1)) ∧ (awF D g n ≠ 0 → clp f e (awF D g n - 1) ≤ sncF D f e n) := by
  intro n
  induction n with
  | zero => intro _; exact ⟨rfl, fun h => absurd rfl h⟩
  | succ n ih =>
    intro hn
    obtain ⟨h1, h2⟩ := ih (by omega)
    have h3 := snc_le o hf (n := n) (by omega)
    have h4 := al.1 n (by omega)
    have h5 : awF D g (n + 1) ≠ 0 → clp f e (awF D g (n + 1) - 1) ≤ sncF D f e (n + 1) := by
      intro hne
      rcases aw_le o g (n + 1) hn with h | ⟨_, h⟩
      · exact absurd h hne
      · exact clp_mono hf (by rw [Nat.add_sub_cancel] at h; omega)
    refine ⟨?_, h5⟩
    by_cases ca : awF D g n = 0
    · by_cases cg : D.eg n = g
      · rw [cg] at h4
        have cl : ¬ D.el n = 0 := fun h => (h4.mp h) ca
        simp only [sumF, srF, awF, snc_s, ca, cg, cl, if_true, if_false, es0, Nat.add_sub_cancel, Nat.sub_self] at h1 ⊢
        exact h1
      · simp only [sumF, srF, awF, snc_s, ca, cg, if_true, if_false] at h1 ⊢
        exact h1
    · have h6 := h2 ca
      by_cases cg : D.eg n = g
      · rw [cg] at h4
        have cl : D.el n = 0 := h4.mpr ca
        simp only [sumF, srF, awF, snc_s, ca, cg, cl, if_true, if_false] at h1 ⊢
        omega
      · simp only [sumF, srF, awF, snc_s, ca, cg, if_false] at h1 ⊢
        omega
theorem sr_bd {D : Dn} {T : Nat} (o : OkD T D) (al : Alt D) {f e : Nat} (hf : f ≤ e) (g : Nat) {n : Nat} (hn : n ≤ D.R) : srF D g f e n ≤ e := by
  have h1 := (sr_sum o al hf g n hn).1
  have h2 := sum_bd o hf g g n hn
  have h3 := snc_bd (D := D) hf n
  omega
theorem t_oBe {w : Nat → Int32} {D : Dn} {T : Nat} (m : M9 w D) (o : OkD T D) (al : Alt D) {g f e : Nat} (hg : g < 1000) (hf : f ≤ e) (he : e ≤ D.mi) : F_X9_outBetween w (nI g) (nI f) (nI e - nI 1) = some (nI (ansF D g g f e)) := by
  have hG := o.G
  have hR := o.R
  have hm := o.mi
  refine lp_acc (L := fun n k (a : Int32 × Int32) => L_X9_outBetween_9 w (nI g) (nI f) (nI e - nI 1) n a.1 a.2 k) (a := fun n => (nI (srF D g f e n), nz (awF D g n))) (U := D.R) (fun n k hk => ?_) (fun n => ?_) FU 0 (Nat.zero_le _) (by unfold FU; omega)
  · have h1 := o.eg k hk
    have h2 := o.ew k hk
    have h7 := o.el k hk
    have h8 := al.1 k hk
    by_cases cg : D.eg k = g
    · rw [cg] at h8
      by_cases cl : D.el k = 0
      · have ca := h8.mp cl
        have h9 := aw_le o g k (by omega)
        have h10 := o.up (k - 1) k (by omega) hk
        have h11 : nz (awF D g k) = nI (awF D g k - 1) := if_neg ca
        have h12 := t_over (t := awF D g k - 1) (m := D.ew k) (f := f) (e := e) (by omega) (by omega) (by omega) hf
        simp (disch := omega) only [L_X9_outBetween_9, B_X9_outBetween_9, F_X9_entryAt, q_lit, q_neg, nI_add, pk_mul, q_sb, q_ck, q_cl, m.R, m.ew, m.eg, m.el, q_le, q_eq, cg, cl, h11, h12, if_true, if_false, srF, awF, nz_0, e01]
        rw [if_neg (by omega)]
      · have h13 : D.el k = 1 := by omega
        have hw : w (126 + 3 * k) = nI (D.ew k) := m.ew k hk
        simp (disch := omega) only [hw, L_X9_outBetween_9, B_X9_outBetween_9, F_X9_entryAt, q_lit, q_neg, nI_add, pk_mul, q_sb, q_ck, q_cl, m.R, m.ew, m.eg, m.el, q_le, q_eq, cg, h13, e10, if_true, if_false, srF, awF, nz_s, Nat.add_zero]
        rw [if_neg (by omega)]
    · simp (disch := omega) only [L_X9_outBetween_9, B_X9_outBetween_9, F_X9_entryAt, q_lit, q_neg, nI_add, pk_mul, q_sb, q_ck, q_cl, m.R, m.ew, m.eg, m.el, q_le, q_eq, cg, if_false, srF, awF, Nat.add_zero]
      rw [if_neg (by omega)]
  · obtain ⟨h1, h2⟩ := sr_sum o al hf g D.R (Nat.le_refl _)
    have h3 := snc_bd (D := D) hf D.R
    by_cases ca : awF D g D.R = 0
    · simp (disch := omega) only [L_X9_outBetween_9, B_X9_outBetween_9, q_lit, q_neg, q_ck, q_cl, m.R, q_le, Nat.le_refl, if_true, ca, nz_0]
      rw [if_pos (by decide)]
      refine congrArg (fun x => some (nI x)) ?_
      unfold ansF
      rw [if_pos ca] at h1 ⊢
      omega
    · have h4 := h2 ca
      have h9 := aw_le o g D.R (Nat.le_refl _)
      have h11 : nz (awF D g D.R) = nI (awF D g D.R - 1) := if_neg ca
      have h14 : awF D g D.R - 1 ≤ D.mi := by
        rcases h9 with h | ⟨h, h'⟩
        · omega
        · have := o.ew (D.R - 1) (by omega)
          omega
      have h12 := t_over (t := awF D g D.R - 1) (m := D.mi) (f := f) (e := e) (by omega) h14 (by omega) hf
      have h15 := clp_top hf he
      simp (disch := omega) only [L_X9_outBetween_9, B_X9_outBetween_9, q_lit, q_neg, nI_add, q_sb, q_ck, q_cl, m.R, m.mi, q_le, q_lt, Nat.not_lt_zero, Nat.le_refl, if_true, if_false, h11, h12]
      refine congrArg (fun x => some (nI x)) ?_
      unfold ansF
      rw [if_neg ca] at h1 ⊢
      rw [if_neg ca]
      omega
theorem t_oB {w : Nat → Int32} {D : Dn} {T : Nat} (m : M9 w D) (o : OkD T D) (al : Alt D) {g f t : Nat} (hg : g < 1000) (hf : f ≤ t) (he : t < D.mi) : F_X9_outBetween w (nI g) (nI f) (nI t) = some (nI (ansF D g g f (t + 1))) := by
  rw [← t_oBe m o al hg (e := t + 1) (by omega) he, q_sub (by omega), Nat.add_sub_cancel]
theorem t_oA {w : Nat → Int32} {D : Dn} {T : Nat} (m : M9 w D) (o : OkD T D) (al : Alt D) {g : Nat} (hg : g < 1000) : F_X9_outAll w (nI g) = some (nI (ansF D g g 0 D.mi)) := by
  have h := t_oBe m o al hg (f := 0) (e := D.mi) (Nat.zero_le _) (Nat.le_refl _)
  simp (disch := omega) only [F_X9_outAll, q_lit, q_ck, q_cl, m.mi, h, q_sb]
theorem t_both {w : Nat → Int32} {D : Dn} {T : Nat} (m : M9 w D) (o : OkD T D) {g h : Nat} (hg : g < 1000) (hh : h < 1000) : F_X9_outBoth w (nI g) (nI h) = some (nI (ansF D g h 0 D.mi)) := by
  have hG := o.G
  have hR := o.R
  have hm := o.mi
  have hfe := Nat.zero_le D.mi
  have hR1 := sum_bd o hfe g h D.R (Nat.le_refl _)
  have hR2 := snc_bd (D := D) hfe D.R
  refine lp_acc (L := fun n k (a : Int32 × Int32 × Int32 × Int32) => L_X9_outBoth_14 w (nI g) (nI h) n a.1 a.2.1 a.2.2.1 a.2.2.2 k) (a := fun n => (nI (sumF D g h 0 D.mi n), nI (sncF D 0 D.mi n), fl01 (awF D g n), fl01 (awF D h n))) (U := D.R) (fun n k hk => ?_) (fun n => ?_) FU 0 (Nat.zero_le _) (by unfold FU; omega)
  · have h1 := o.eg k hk
    have h2 := o.ew k hk
    have h3 := sum_bd o hfe g h k (by omega)
    have h4 := snc_le o hfe hk
    have h5 := snc_bd (D := D) hfe k
    have h6 := clp_id h2
    have hw : w (126 + 3 * k) = nI (D.ew k) := m.ew k hk
    rw [h6] at h4
    have h7 := o.el k hk
    by_cases ca : awF D g k = 0 <;> by_cases cb : awF D h k = 0 <;> rcases Nat.le_one_iff_eq_zero_or_eq_one.mp h7 with cl | cl <;> rcases Classical.propComplete (D.eg k = g) with cg | cg <;> rcases Classical.propComplete (D.eg k = h) with ch | ch
    all_goals simp (disch := omega) only [hw, L_X9_outBoth_14, B_X9_outBoth_14, J_X9_outBoth_61, J_X9_outBoth_90, F_X9_entryAt, q_lit, nI_add, pk_mul, q_sb, q_ck, q_cl, m.R, m.ew, m.eg, m.el, q_le, q_lt, q_eq, q_sub, fl01_0, ca, cb, cl, cg, ch, if_true, if_false, sumF, snc_s, awF, fl01, es0, e10, e01, h6, eq_self, Nat.add_zero]
    all_goals first | rfl | (exfalso; omega) | (rw [if_neg (by omega)]; done) | (rw [if_neg (by omega)]; rfl)
  · simp (disch := omega) only [L_X9_outBoth_14, B_X9_outBoth_14, q_lit, nI_add, q_ck, q_cl, m.R, m.mi, q_le, Nat.le_refl, if_true, fl01_0, ansF, q_sub]
    split
    · rfl
    · split
      · rfl
      · rfl
