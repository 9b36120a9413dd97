/-! minutes out, minute by minute -/
theorem clp_mm (f e x : Nat) (h : f ≤ e) : clp f e x = max f (min x e) := by
  unfold clp
  split <;> split <;> omega
def pvF (D : Dn) : Nat → Nat
  | 0 => 0
  | n + 1 => D.ew n
theorem snc_pv {D : Dn} {f e : Nat} (h : f ≤ e) (n : Nat) : sncF D f e n = clp f e (pvF D n) := by
  cases n with
  | zero =>
    show f = clp f e 0
    rw [clp_mm f e 0 h]
    omega
  | succ n => rfl
theorem pv_le {D : Dn} {T : Nat} (o : OkD T D) {n : Nat} (hn : n < D.R) : pvF D n ≤ D.ew n := by
  cases n with
  | zero => exact Nat.zero_le _
  | succ n => exact o.up n (n + 1) (Nat.le_succ n) hn
theorem sum_split {D : Dn} {T : Nat} (o : OkD T D) {f m e : Nat} (h1 : f ≤ m) (h2 : m ≤ e) (g k : Nat) : ∀ n, n ≤ D.R → sumF D g k f e n = sumF D g k f m n + sumF D g k m e n := by
  intro n
  induction n with
  | zero => intro _; rfl
  | succ n ih =>
    intro hn
    have hp := pv_le o (n := n) (by omega)
    simp only [sumF]
    rw [ih (by omega), snc_pv (by omega), snc_pv h1, snc_pv h2, clp_mm f e _ (by omega), clp_mm f e _ (by omega), clp_mm f m _ h1, clp_mm f m _ h1, clp_mm m e _ h2, clp_mm m e _ h2]
    split
    · omega
    · split
      · omega
      · omega
theorem ans_split {D : Dn} {T : Nat} (o : OkD T D) {f m e : Nat} (h1 : f ≤ m) (h2 : m ≤ e) (g k : Nat) : ansF D g k f e = ansF D g k f m + ansF D g k m e := by
  unfold ansF
  rw [sum_split o h1 h2 g k D.R (Nat.le_refl _), snc_pv (by omega), snc_pv h1, snc_pv h2, clp_mm f e _ (by omega), clp_mm f m _ h1, clp_mm m e _ h2]
  split
  · omega
  · split
    · omega
    · omega
theorem ans_0 {D : Dn} {T : Nat} (o : OkD T D) (f g k : Nat) : ansF D g k f f = 0 := by
  have := ans_split o (Nat.le_refl f) (Nat.le_refl f) g k
  omega
theorem sum_sym (D : Dn) (g k f e : Nat) : ∀ n, sumF D g k f e n = sumF D k g f e n := by
  intro n
  induction n with
  | zero => rfl
  | succ n ih =>
    simp only [sumF]
    rw [ih]
    by_cases a : awF D g n = 0
    · by_cases b : awF D k n = 0
      · rw [if_pos a, if_pos b]
      · rw [if_pos a, if_neg b, if_pos a]
    · by_cases b : awF D k n = 0
      · rw [if_neg a, if_pos b, if_pos b]
      · rw [if_neg a, if_neg b, if_neg b, if_neg a]
theorem ans_sym (D : Dn) (g k f e : Nat) : ansF D g k f e = ansF D k g f e := by
  unfold ansF
  rw [sum_sym]
  by_cases a : awF D g D.R = 0
  · by_cases b : awF D k D.R = 0
    · rw [if_pos a, if_pos b]
    · rw [if_pos a, if_neg b, if_pos a]
  · by_cases b : awF D k D.R = 0
    · rw [if_neg a, if_pos b, if_pos b]
    · rw [if_neg a, if_neg b, if_neg b, if_neg a]
theorem seg_n {D : Dn} {T : Nat} (o : OkD T D) (m : Nat) : ∀ n, n ≤ D.R → (sncF D m (m + 1) n = m ∧ ∀ g k, sumF D g k m (m + 1) n = 0) ∨ (sncF D m (m + 1) n = m + 1 ∧ ∃ j, ∀ g k, sumF D g k m (m + 1) n = if awF D g j = 0 then 0 else if awF D k j = 0 then 0 else 1) := by
  intro n
  induction n with
  | zero => intro _; exact Or.inl ⟨rfl, fun _ _ => rfl⟩
  | succ n ih =>
    intro hn
    have hc := clp_bd (f := m) (e := m + 1) (by omega) (D.ew n)
    have hs := snc_le o (f := m) (e := m + 1) (by omega) (n := n) (by omega)
    have e0 : sncF D m (m + 1) (n + 1) = clp m (m + 1) (D.ew n) := rfl
    rw [e0]
    rcases ih (by omega) with ⟨h1, h2⟩ | ⟨h1, j, h2⟩
    · by_cases z : clp m (m + 1) (D.ew n) = m
      · refine Or.inl ⟨z, fun g k => ?_⟩
        simp only [sumF]
        rw [h2, h1, z, Nat.sub_self, ite_self, ite_self]
      · have z1 : clp m (m + 1) (D.ew n) = m + 1 := by omega
        refine Or.inr ⟨z1, n, fun g k => ?_⟩
        simp only [sumF]
        rw [h2, h1, z1, Nat.zero_add, Nat.add_sub_cancel_left]
    · have z1 : clp m (m + 1) (D.ew n) = m + 1 := by omega
      refine Or.inr ⟨z1, j, fun g k => ?_⟩
      simp only [sumF]
      rw [h2, h1, z1, Nat.sub_self, ite_self, ite_self, Nat.add_zero]
theorem seg {D : Dn} {T : Nat} (o : OkD T D) (m : Nat) : ∃ j, ∀ g k, ansF D g k m (m + 1) = if awF D g j = 0 then 0 else if awF D k j = 0 then 0 else 1 := by
  rcases seg_n o m D.R (Nat.le_refl _) with ⟨h1, h2⟩ | ⟨h1, j, h2⟩
  · refine ⟨D.R, fun g k => ?_⟩
    unfold ansF
    rw [h2, h1, Nat.zero_add, Nat.add_sub_cancel_left]
  · refine ⟨j, fun g k => ?_⟩
    unfold ansF
    rw [h2, h1, Nat.sub_self, ite_self, ite_self, Nat.add_zero]
theorem min_01 {D : Dn} {T : Nat} (o : OkD T D) (m g : Nat) : ansF D g g m (m + 1) = 0 ∨ ansF D g g m (m + 1) = 1 := by
  obtain ⟨j, h⟩ := seg o m
  rw [h]
  split
  · exact Or.inl rfl
  · exact Or.inr rfl
theorem min_both0 {D : Dn} {T : Nat} (o : OkD T D) {m g : Nat} (k : Nat) (h0 : ansF D g g m (m + 1) = 0) : ansF D g k m (m + 1) = 0 := by
  obtain ⟨j, h⟩ := seg o m
  rw [h] at h0 ⊢
  by_cases a : awF D g j = 0
  · rw [if_pos a]
  · rw [if_neg a, if_neg a] at h0
    exact absurd h0 (by decide)
theorem min_both1 {D : Dn} {T : Nat} (o : OkD T D) {m g : Nat} (k : Nat) (h0 : ansF D g g m (m + 1) ≠ 0) : ansF D g k m (m + 1) = ansF D k k m (m + 1) := by
  obtain ⟨j, h⟩ := seg o m
  rw [h] at h0
  rw [h, h]
  by_cases a : awF D g j = 0
  · rw [if_pos a] at h0
    exact absurd rfl h0
  · rw [if_neg a]
    by_cases b : awF D k j = 0
    · rw [if_pos b, if_pos b]
    · rw [if_neg b, if_neg b]
def lstF (p : Nat → Bool) : Nat → Nat
  | 0 => 0
  | n + 1 => if p n then n + 1 else lstF p n
theorem lstF_ok (p : Nat → Bool) : ∀ n, lstF p n ≤ n ∧ (lstF p n ≠ 0 → p (lstF p n - 1) = true) ∧ (lstF p n = 0 → ∀ i, i < n → p i = false) := by
  intro n
  induction n with
  | zero => exact ⟨Nat.le_refl _, fun h => absurd rfl h, fun _ i hi => absurd hi (Nat.not_lt_zero i)⟩
  | succ n ih =>
    obtain ⟨a, b, c⟩ := ih
    by_cases h : p n = true
    · have e : lstF p (n + 1) = n + 1 := if_pos h
      rw [e]
      exact ⟨Nat.le_refl _, fun _ => h, fun z => absurd z (Nat.succ_ne_zero n)⟩
    · have e : lstF p (n + 1) = lstF p n := if_neg h
      rw [e]
      refine ⟨by omega, b, fun z i hi => ?_⟩
      by_cases e : i = n
      · subst e; exact Bool.eq_false_iff.mpr h
      · exact c z i (by omega)
theorem cnt_two (p : Nat → Bool) : ∀ n i, i < n → p i = true → 1 ≤ cntF p n := by
  intro n
  induction n with
  | zero => intro i hi; omega
  | succ n ih =>
    intro i hi hp
    rw [cntF_s]
    by_cases e : i = n
    · subst e; rw [if_pos hp]; omega
    · have := ih i (by omega) hp
      omega
theorem cnt_uniq (p : Nat → Bool) : ∀ n i j, i < n → j < n → p i = true → p j = true → cntF p n = 1 → i = j := by
  intro n
  induction n with
  | zero => intro i j hi; omega
  | succ n ih =>
    intro i j hi hj pi pj hc
    rw [cntF_s] at hc
    by_cases ei : i = n
    · by_cases ej : j = n
      · omega
      · subst ei
        rw [if_pos pi] at hc
        have := cnt_two p i j (by omega) pj
        omega
    · by_cases ej : j = n
      · subst ej
        rw [if_pos pj] at hc
        have := cnt_two p j i (by omega) pi
        omega
      · have h1 := cnt_two p n i (by omega) pi
        exact ih i j (by omega) (by omega) pi pj (by omega)
theorem fst_lst {p : Nat → Bool} {n : Nat} (h : cntF p n = 1) : fst1 p n 0 = bI (lstF p n) := by
  rw [fst1_nz p n _ 0 rfl]
  obtain ⟨a, b, c⟩ := lstF_ok p n
  have l0 : lstF p n ≠ 0 := fun z => by
    have := cntF_0 p n (c z)
    omega
  rcases fstF_ok p n _ 0 rfl with e | ⟨e1, e2, e3⟩
  · exfalso
    have := fstF_min p n _ 0 rfl (lstF p n - 1) (Nat.zero_le _) (by omega) (Or.inl e)
    rw [b l0] at this
    exact absurd this (by decide)
  · have := cnt_uniq p n _ _ (show fstF p n 0 - 1 < n by omega) (show lstF p n - 1 < n by omega) e3 (b l0) h
    unfold nz bI
    rw [if_neg (by omega), if_neg l0, this]
