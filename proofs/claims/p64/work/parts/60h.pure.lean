/-! answers about alibis, the tip -/
theorem q_max0 {a b : Nat} (ha : a < 1000000) (hb : b < 1000000) {i : Decidable (nI 0 < nI a - nI b)} : @ite _ (nI 0 < nI a - nI b) i (nI a - nI b) (nI 0) = nI (a - b) := by
  by_cases h : b < a
  · rw [if_pos (by rw [q_0lsub ha hb]; exact h), q_sub (by omega)]
  · rw [if_neg (by rw [q_0lsub ha hb]; exact h), show a - b = 0 by omega]
theorem q_bs {α : Type} (x : Option α) : x.bind (fun u => some u) = x := by cases x <;> rfl
theorem q_addn1 (x : Int32) : x + -nI 1 = x - nI 1 := (Int32.sub_eq_add_neg _ _).symm
def tipD (D : Dn) (g : Nat) : Nat := D.gi g - (yawnD D + if D.so g = 0 then 0 else 1)
theorem yawnD_le (D : Dn) : yawnD D ≤ 9 := by
  unfold yawnD
  split <;> omega
theorem u_tip {vN : Nat → Int32} {vG vU vR : Nat → Nat → Int32} {D : Dn} {T : Nat} (m : M8 vN vG vU vR D) (o : OkD T D) {g : Nat} (hg : g < D.G) : F_X3_tipToGive vN vG vR (nI g) = some (nI (tipD D g)) := by
  have hG := o.G
  have h1 := o.gi g hg
  have h2 := o.so g hg
  have h3 := yawnD_le D
  by_cases hs : D.so g = 0
  · simp (disch := omega) only [F_X3_tipToGive, u_yawn m o, q_lit, q_sb, q_ck, q_cl, m.gi, m.so, q_eq, hs, if_true, q_ss, q_max0, tipD, Nat.add_zero]
  · simp (disch := omega) only [F_X3_tipToGive, u_yawn m o, q_lit, q_sb, q_ck, q_cl, m.gi, m.so, q_eq, hs, if_false, q_ss, q_max0, tipD]
theorem u_wAT {vN : Nat → Int32} {vG vU vR : Nat → Nat → Int32} {D : Dn} {T : Nat} (m : M8 vN vG vU vR D) (o : OkD T D) {g f t : Nat} (hg : g < 1000) (hf : f ≤ t) (ht : t < D.mi) : F_X5_wasInAllThrough vR (nI g) (nI f) (nI t) = some (if ansF D g g f (t + 1) = 0 then nI 1 else nI 0) := by
  have hm := o.mi
  have h1 := ansF_bd o (f := f) (e := t + 1) (by omega) g g
  have h2 := u_mA m o (g := g) (h := g) (f := f) (e := t + 1) hg hg (by omega) (by omega)
  simp (disch := omega) only [F_X5_wasInAllThrough, q_lit, nI_add, h2, q_sb, q_eq]
theorem u_cS {vN : Nat → Int32} {vG vU vR : Nat → Nat → Int32} {D : Dn} {T : Nat} (m : M8 vN vG vU vR D) (o : OkD T D) {f t : Nat} (hf : f ≤ t) (ht : t < D.mi) : F_X3_countSuspects vN vG vR (nI f) (nI t) = some (nI (cntF (fun k => decide (ansF D k k f (t + 1) ≠ 0)) D.G)) := by
  have hG := o.G
  refine lp_count (L := fun n k c => L_X3_countSuspects_5 vN vG vR (nI f) (nI t) n c k) (U := D.G) (fun n k c hk hc => ?_) (fun n c hc => ?_) FU 0 (Nat.zero_le _) (by unfold FU; omega)
  · have h := u_wAT m o (g := k) (by omega) hf ht
    by_cases ha : ansF D k k f (t + 1) = 0
    all_goals simp (disch := omega) only [L_X3_countSuspects_5, B_X3_countSuspects_5, q_lit, nI_add, m.G, q_le, h, ha, if_true, if_false, q_sb, q_eq, e10, eq_self, ne_eq, not_true, not_false_eq_true, decide_true, decide_false, Nat.add_zero, Bool.false_eq_true]
    all_goals rw [if_neg (by omega)]
  · simp (disch := omega) only [L_X3_countSuspects_5, B_X3_countSuspects_5, m.G, q_le, Nat.le_refl, if_true]
theorem u_fS {vN : Nat → Int32} {vG vU vR : Nat → Nat → Int32} {D : Dn} {T : Nat} (m : M8 vN vG vU vR D) (o : OkD T D) {f t : Nat} (hf : f ≤ t) (ht : t < D.mi) : F_X3_firstSuspect vN vG vR (nI f) (nI t) = some (fst1 (fun k => decide (ansF D k k f (t + 1) ≠ 0)) D.G 0) := by
  have hG := o.G
  refine lp_first (L := L_X3_firstSuspect_2 vN vG vR (nI f) (nI t)) (U := D.G) (fun n k hk => ?_) (fun n => ?_) FU 0 (Nat.zero_le _) (by unfold FU; omega)
  · have h := u_wAT m o (g := k) (by omega) hf ht
    by_cases ha : ansF D k k f (t + 1) = 0
    all_goals simp (disch := omega) only [L_X3_firstSuspect_2, B_X3_firstSuspect_2, q_lit, nI_add, m.G, q_le, h, ha, if_true, if_false, q_sb, q_eq, e10, eq_self, ne_eq, not_true, not_false_eq_true, decide_true, decide_false, Bool.false_eq_true]
    all_goals rw [if_neg (by omega)]
  · simp (disch := omega) only [L_X3_firstSuspect_2, B_X3_firstSuspect_2, m.G, q_lit, q_neg, q_le, Nat.le_refl, if_true]
theorem fstF_min (p : Nat → Bool) (n : Nat) : ∀ d k, n - k = d → ∀ i, k ≤ i → i < n → (fstF p n k = 0 ∨ i < fstF p n k - 1) → p i = false := by
  intro d
  induction d with
  | zero => intro k h i h1 h2; omega
  | succ d ih =>
    intro k h i h1 h2 h3
    rw [fstF, dif_pos (by omega)] at h3
    by_cases c : p k = true
    · rw [if_pos c] at h3
      omega
    · rw [if_neg c] at h3
      by_cases hik : i = k
      · subst hik; exact Bool.eq_false_iff.mpr c
      · exact ih (k + 1) (by omega) i (by omega) h2 h3
theorem cntF_0 (p : Nat → Bool) (n : Nat) (h : ∀ i, i < n → p i = false) : cntF p n = 0 := by
  induction n with
  | zero => rfl
  | succ n ih =>
    simp only [cntF, ih fun i hi => h i (by omega), h n (by omega)]
    rfl
