/-! the umbrella to take, the yawn, the tip-/
def fstF (p : Nat → Bool) (n k : Nat) : Nat := if h : k < n then (if p k then k + 1 else fstF p n (k + 1)) else 0
termination_by n - k
theorem fst1_nz (p : Nat → Bool) (n : Nat) : ∀ d k, n - k = d → fst1 p n k = nz (fstF p n k) := by
  intro d
  induction d with
  | zero => intro k h; rw [fst1, fstF, dif_neg (by omega), dif_neg (by omega)]; rfl
  | succ d ih =>
    intro k h
    rw [fst1, fstF, dif_pos (by omega), dif_pos (by omega)]
    split
    · rfl
    · exact ih (k + 1) (by omega)
theorem fstF_ok (p : Nat → Bool) (n : Nat) : ∀ d k, n - k = d → fstF p n k = 0 ∨ (k < fstF p n k ∧ fstF p n k ≤ n ∧ p (fstF p n k - 1) = true) := by
  intro d
  induction d with
  | zero => intro k h; rw [fstF, dif_neg (by omega)]; exact Or.inl rfl
  | succ d ih =>
    intro k h
    rw [fstF, dif_pos (by omega)]
    split
    next c => exact Or.inr ⟨by omega, by omega, c⟩
    next c =>
      rcases ih (k + 1) (by omega) with e | ⟨a, b, c⟩
      · exact Or.inl e
      · exact Or.inr ⟨by omega, b, c⟩
def ownD (D : Dn) (g : Nat) : Nat := fstF (fun u => decide (D.ow u = g ∧ D.ca u = 0 ∧ D.we u ≤ 50)) D.U 0
def takeD (D : Dn) (g : Nat) : Nat := if D.ra = 0 then 0 else if ownD D g = 0 then dryF D D.U else ownD D g
theorem ownD_le (D : Dn) (g : Nat) : ownD D g ≤ D.U := by
  rcases fstF_ok (fun u => decide (D.ow u = g ∧ D.ca u = 0 ∧ D.we u ≤ 50)) D.U _ 0 rfl with e | ⟨_, b, _⟩
  · unfold ownD; omega
  · exact b
theorem q_nz0 {x : Nat} (h : x < 2147483648) : (nI 0 ≤ nz x) = (x ≠ 0) := by
  unfold nz
  split
  next c => rw [c]; exact propext ⟨fun h => absurd h (by decide), fun h => absurd rfl h⟩
  next c => rw [q_le (by omega) (by omega)]; exact propext ⟨fun _ => c, fun _ => Nat.zero_le _⟩
theorem q_nzm {x : Nat} (h : x < 2147483648) : (nz x = m1) = (x = 0) := by
  unfold nz
  split
  next c => exact propext ⟨fun _ => c, fun _ => rfl⟩
  next c => rw [q_m1e (by omega)]; exact propext ⟨False.elim, fun h => c h⟩
theorem u_take {vN : Nat → Int32} {vG vU vR : Nat → Nat → Int32} {D : Dn} {T : Nat} (m : M8 vN vG vU vR D) (o : OkD T D) {g : Nat} (hg : g < D.G) : F_X3_umbrellaToTake vN vU (nI g) = some (nz (takeD D g)) := by
  have hU := o.U
  have hr := o.ra
  have h1 := ownD_le D g
  simp (disch := omega) only [F_X3_umbrellaToTake, u_ownFor m o hg, u_driest m o, fst1_nz _ _ _ _ rfl, q_lit, q_neg, q_sb, q_ck, q_cl, m.ra, q_eq]
  rw [show fstF (fun u => decide (D.ow u = g ∧ D.ca u = 0 ∧ D.we u ≤ 50)) D.U 0 = ownD D g from rfl]
  simp (disch := omega) only [q_nzm]
  unfold takeD
  by_cases hr0 : D.ra = 0
  · simp only [hr0, if_true, nz_0]
  · by_cases ho : ownD D g = 0
    · simp only [hr0, ho, if_true, if_false]
    · simp only [hr0, ho, if_true, if_false]
def latD (D : Dn) : Nat := if D.R = 0 then 0 else D.ew (D.R - 1)
def yawnD (D : Dn) : Nat := if (D.mi - latD D) / 30 ≤ 9 then (D.mi - latD D) / 30 else 9
theorem latD_le {D : Dn} {T : Nat} (o : OkD T D) : latD D ≤ D.mi := by
  unfold latD
  split
  · exact Nat.zero_le _
  · exact o.ew _ (by omega)
theorem u_yawn {vN : Nat → Int32} {vG vU vR : Nat → Nat → Int32} {D : Dn} {T : Nat} (m : M8 vN vG vU vR D) (o : OkD T D) : F_X3_presentYawn vN vR = some (nI (yawnD D)) := by
  have hR := o.R
  have hm := o.mi
  have h1 := latD_le o
  unfold latD at h1
  by_cases h0 : D.R = 0
  · simp (disch := omega) only [F_X3_presentYawn, F_X5_latestMinute, q_lit, q_neg, q_sb, q_ck, q_cl, m.R, m.mi, q_lt, q_eq, q_sub, q_div, h0, if_true, Nat.zero_le, yawnD, latD]
    refine congrArg some ?_
    split <;> split <;> first | rfl | (exact congrArg nI (by omega)) | (exfalso; omega)
  · rw [if_neg h0] at h1
    simp (disch := omega) only [F_X3_presentYawn, F_X5_latestMinute, q_lit, q_neg, q_sb, q_ck, q_cl, m.R, m.mi, m.ew, q_lt, q_eq, q_sub, q_div, h0, if_false, yawnD, latD]
    refine congrArg some ?_
    split <;> split <;> first | rfl | (exact congrArg nI (by omega)) | (exfalso; omega)
theorem q_ss (a b c : Nat) : nI a - nI b - nI c = nI a - nI (b + c) := by
  rw [← nI_add]
  simp only [Int32.sub_eq_add_neg, Int32.neg_add, Int32.add_assoc]
theorem q_sm (a b : Nat) : nI a - nI b + m1 = nI a - nI (b + 1) := by
  rw [← q_ss]
  exact (Int32.sub_eq_add_neg _ _).symm
theorem q_0sub {a b : Nat} (ha : a < 1000000) (hb : b < 1000000) : (nI 0 ≤ nI a - nI b) = (b ≤ a) := by
  rw [Int32.le_iff_toInt_le, pk_sub_toInt (by omega) (by omega), nI_toInt (by omega)]
  exact propext ⟨fun h => by omega, fun h => by omega⟩
theorem q_0lsub {a b : Nat} (ha : a < 1000000) (hb : b < 1000000) : (nI 0 < nI a - nI b) = (b < a) := by
  rw [Int32.lt_iff_toInt_lt, pk_sub_toInt (by omega) (by omega), nI_toInt (by omega)]
  exact propext ⟨fun h => by omega, fun h => by omega⟩

