/-! answers about alibis, the tip -/
theorem q_more0n {a b : Nat} (ha : a < 1000000) (hb : b < 1000000) : F_X9_more (nI 0) (nI a - nI b) = some (nI (a - b)) := q_more0 ha hb
theorem q_max0 {a b : Nat} (ha : a < 1000000) (hb : b < 1000000) {i : Decidable (nI 0 < nI a - nI b)} : @ite _ (nI 0 < nI a - nI b) i (nI a - nI b) (nI 0) = nI (a - b) := by
  by_cases h : b < a
  · rw [if_pos (by rw [q_0lsub ha hb]; exact h), q_sub (by omega)]
  · rw [if_neg (by rw [q_0lsub ha hb]; exact h), show a - b = 0 by omega]
theorem q_bs {α : Type} (x : Option α) : x.bind (fun u => some u) = x := by cases x <;> rfl
theorem q_addn1 (x : Int32) : x + -nI 1 = x - nI 1 := (Int32.sub_eq_add_neg _ _).symm
def tipD (D : Dn) (g : Nat) : Nat := D.gi g - (yawnD D + if D.so g = 0 then 0 else 1)
theorem yawnD_le (D : Dn) : yawnD D ≤ 9 := by
  unfold yawnD
  split <;> omega
theorem t_tip {w : Nat → Int32} {D : Dn} {T : Nat} (m : M9 w D) (o : OkD T D) {g : Nat} (hg : g < D.G) : F_X9_tipFrom w (nI g) = some (nI (tipD D g)) := by
  have hG := o.G
  have h1 := o.gi g hg
  have h2 := o.so g hg
  have h3 := yawnD_le D
  by_cases hs : D.so g = 0
  · simp (disch := omega) only [F_X9_tipFrom, F_X9_guestAt, t_yawn m o, q_lit, q_addn1, nI_add, pk_mul, q_sb, q_ck, q_cl, m.gi, m.so, q_eq, hs, if_true, q_more0n, tipD, Nat.add_zero]
  · simp (disch := omega) only [F_X9_tipFrom, F_X9_guestAt, t_yawn m o, q_lit, q_addn1, nI_add, pk_mul, q_sb, q_ck, q_cl, m.gi, m.so, q_eq, hs, if_false, q_ss, q_bs, q_more0n, tipD]
theorem u_tip {vN : Nat → Int32} {vG vU vR : Nat → Nat → Int32} {D : Dn} {T : Nat} (m : M8 vN vG vU vR D) (o : OkD T D) {g : Nat} (hg : g < D.G) : F_X3_tipToGive vN vG vR (nI g) = some (nI (tipD D g)) := by
  have hG := o.G
  have h1 := o.gi g hg
  have h2 := o.so g hg
  have h3 := yawnD_le D
  by_cases hs : D.so g = 0
  · simp (disch := omega) only [F_X3_tipToGive, u_yawn m o, q_lit, q_sb, q_ck, q_cl, m.gi, m.so, q_eq, hs, if_true, q_ss, q_max0, tipD, Nat.add_zero]
  · simp (disch := omega) only [F_X3_tipToGive, u_yawn m o, q_lit, q_sb, q_ck, q_cl, m.gi, m.so, q_eq, hs, if_false, q_ss, q_max0, tipD]
theorem past_case {vX vN w : Nat → Int32} {vG vU vR : Nat → Nat → Int32} {D : Dn} {T : Nat} (m8 : M8 vN vG vU vR D) (m9 : M9 w D) (o : OkD T D) (x y : Int32) : (∃ f t, f ≤ t ∧ t < D.mi ∧ x = nI f ∧ y = nI t ∧ F_X8_requirePassed vX vN x y = some 0 ∧ ∀ vM, F_X9_isPast vM w x y = some (nI 1)) ∨ (F_X8_requirePassed vX vN x y = some 2 ∧ ∀ vM, F_X9_isPast vM w x y = some (nI 0)) := by
  have hm := o.mi
  have r8 : F_X8_requirePassed vX vN x y = (if x < nI 0 then some 2 else (if y < x then some 2 else (if y < nI D.mi then some 0 else some 2))) := by
    rw [← m8.mi]; rfl
  have r9 : ∀ vM, F_X9_isPast vM w x y = ((F_X9_in x (nI 0) (nI D.mi - nI 1)).bind (fun u1 => (if u1 = nI 0 then (some (nI 0)) else ((F_X9_in y x (nI D.mi - nI 1)).bind (fun u2 => (if u2 = nI 0 then (some (nI 0)) else (some (nI 1)))))))) := by
    intro vM
    simp (disch := omega) only [F_X9_isPast, q_lit, q_ck, q_cl, m9.mi]
    rfl
  rcases gcase x D.mi with ⟨f, hf, rfl⟩ | hb
  · rcases q_xn y with hy | ⟨t, ht, rfl⟩
    · right
      have hyf : y < nI f := by
        rw [Int32.lt_iff_toInt_lt] at hy ⊢
        rw [nI_toInt (by omega)] at hy ⊢
        omega
      refine ⟨?_, fun vM => ?_⟩
      · rw [r8]
        simp (disch := omega) only [q_lt, Nat.not_lt_zero, if_false]
        rw [if_pos hyf]
      · rw [r9, in_ok hf (by omega), q_sb, if_neg (by decide)]
        have : F_X9_in y (nI f) (nI D.mi - nI 1) = some (nI 0) := if_pos hyf
        rw [this, q_sb, if_pos rfl]
    · by_cases h1 : f ≤ t
      · by_cases h2 : t < D.mi
        · left
          refine ⟨f, t, h1, h2, rfl, rfl, ?_, fun vM => ?_⟩
          · rw [r8]
            simp (disch := omega) only [q_lt]
            rw [if_neg (by omega), if_neg (by omega), if_pos h2]
          · rw [r9, in_ok hf (by omega), q_sb, if_neg (by decide)]
            have : F_X9_in (nI t) (nI f) (nI D.mi - nI 1) = some (nI 1) := by
              show (if nI t < nI f then some (nI 0) else if nI D.mi - nI 1 < nI t then some (nI 0) else some (nI 1)) = _
              rw [q_sub (by omega)]
              simp (disch := omega) only [q_lt]
              rw [if_neg (by omega), if_neg (by omega)]
            rw [this, q_sb, if_neg (by decide)]
        · right
          refine ⟨?_, fun vM => ?_⟩
          · rw [r8]
            simp (disch := omega) only [q_lt]
            rw [if_neg (by omega), if_neg (by omega), if_neg h2]
          · rw [r9, in_ok hf (by omega), q_sb, if_neg (by decide)]
            have : F_X9_in (nI t) (nI f) (nI D.mi - nI 1) = some (nI 0) := by
              show (if nI t < nI f then some (nI 0) else if nI D.mi - nI 1 < nI t then some (nI 0) else some (nI 1)) = _
              rw [q_sub (by omega)]
              simp (disch := omega) only [q_lt]
              rw [if_neg (by omega), if_pos (by omega)]
            rw [this, q_sb, if_pos rfl]
      · right
        refine ⟨?_, fun vM => ?_⟩
        · rw [r8]
          simp (disch := omega) only [q_lt]
          rw [if_neg (by omega), if_pos (by omega)]
        · rw [r9, in_ok hf (by omega), q_sb, if_neg (by decide)]
          have : F_X9_in (nI t) (nI f) (nI D.mi - nI 1) = some (nI 0) := by
            show (if nI t < nI f then some (nI 0) else if nI D.mi - nI 1 < nI t then some (nI 0) else some (nI 1)) = _
            simp (disch := omega) only [q_lt]
            rw [if_pos (by omega)]
          rw [this, q_sb, if_pos rfl]
  · right
    refine ⟨?_, fun vM => ?_⟩
    · rw [r8]
      rcases hb with h | ⟨n, h1, h2, rfl⟩
      · rw [if_pos h]
      · by_cases hy : y < nI n
        · rw [if_pos hy, ite_self]
        · rw [if_neg hy]
          have hy2 : ¬ y < nI D.mi := by
            intro h
            apply hy
            rw [Int32.lt_iff_toInt_lt] at h ⊢
            rw [nI_toInt (by omega)] at h ⊢
            omega
          rw [if_neg hy2, ite_self]
    · rw [r9, in_bad hb (by omega), q_sb, if_pos rfl]
theorem u_wAT {vN : Nat → Int32} {vG vU vR : Nat → Nat → Int32} {D : Dn} {T : Nat} (m : M8 vN vG vU vR D) (o : OkD T D) {g f t : Nat} (hg : g < 1000) (hf : f ≤ t) (ht : t < D.mi) : F_X5_wasInAllThrough vR (nI g) (nI f) (nI t) = some (if ansF D g g f (t + 1) = 0 then nI 1 else nI 0) := by
  have hm := o.mi
  have h1 := ansF_bd o (f := f) (e := t + 1) (by omega) g g
  have h2 := u_mA m o (g := g) (h := g) (f := f) (e := t + 1) hg hg (by omega) (by omega)
  simp (disch := omega) only [F_X5_wasInAllThrough, q_lit, nI_add, h2, q_sb, q_eq]
theorem u_cS {vN : Nat → Int32} {vG vU vR : Nat → Nat → Int32} {D : Dn} {T : Nat} (m : M8 vN vG vU vR D) (o : OkD T D) {f t : Nat} (hf : f ≤ t) (ht : t < D.mi) : F_X3_countSuspects vN vG vR (nI f) (nI t) = some (nI (cntF (fun k => decide (ansF D k k f (t + 1) ≠ 0)) D.G)) := by
  have hG := o.G
  refine lp_count (L := fun n k c => L_X3_countSuspects_5 vN vG vR (nI f) (nI t) n c k) (U := D.G) (fun n k c hk hc => ?_) (fun n c hc => ?_) FU 0 (Nat.zero_le _) (by unfold FU; omega)
  · have h := u_wAT m o (g := k) (by omega) hf ht
    by_cases ha : ansF D k k f (t + 1) = 0
    all_goals simp (disch := omega) only [L_X3_countSuspects_5, B_X3_countSuspects_5, q_lit, nI_add, m.G, q_le, h, ha, if_true, if_false, q_sb, q_eq, e10, eq_self, ne_eq, not_true, not_false_eq_true, decide_true, decide_false, Nat.add_zero, Bool.false_eq_true]
    all_goals rw [if_neg (by omega)]
  · simp (disch := omega) only [L_X3_countSuspects_5, B_X3_countSuspects_5, m.G, q_le, Nat.le_refl, if_true]
theorem u_fS {vN : Nat → Int32} {vG vU vR : Nat → Nat → Int32} {D : Dn} {T : Nat} (m : M8 vN vG vU vR D) (o : OkD T D) {f t : Nat} (hf : f ≤ t) (ht : t < D.mi) : F_X3_firstSuspect vN vG vR (nI f) (nI t) = some (fst1 (fun k => decide (ansF D k k f (t + 1) ≠ 0)) D.G 0) := by
  have hG := o.G
  refine lp_first (L := L_X3_firstSuspect_2 vN vG vR (nI f) (nI t)) (U := D.G) (fun n k hk => ?_) (fun n => ?_) FU 0 (Nat.zero_le _) (by unfold FU; omega)
  · have h := u_wAT m o (g := k) (by omega) hf ht
    by_cases ha : ansF D k k f (t + 1) = 0
    all_goals simp (disch := omega) only [L_X3_firstSuspect_2, B_X3_firstSuspect_2, q_lit, nI_add, m.G, q_le, h, ha, if_true, if_false, q_sb, q_eq, e10, eq_self, ne_eq, not_true, not_false_eq_true, decide_true, decide_false, Bool.false_eq_true]
    all_goals rw [if_neg (by omega)]
  · simp (disch := omega) only [L_X3_firstSuspect_2, B_X3_firstSuspect_2, m.G, q_lit, q_neg, q_le, Nat.le_refl, if_true]
theorem t_sB {w : Nat → Int32} {D : Dn} {T : Nat} {vM : (Nat → Int32) × Int64} (m : M9 w D) (o : OkD T D) (al : Alt D) {f t : Nat} (hf : f ≤ t) (ht : t < D.mi) : F_X9_suspectsBetween vM w (nI f) (nI t) = some (nI (cntF (fun k => decide (ansF D k k f (t + 1) ≠ 0)) D.G)) := by
  have hG := o.G
  have hm := o.mi
  refine lp_count (L := fun n k c => L_X9_suspectsBetween_5 vM w (nI f) (nI t) n c k) (U := D.G) (fun n k c hk hc => ?_) (fun n c hc => ?_) FU 0 (Nat.zero_le _) (by unfold FU; omega)
  · have h := t_oB m o al (g := k) (by omega) hf ht
    have h1 := ansF_bd o (f := f) (e := t + 1) (by omega) k k
    by_cases ha : ansF D k k f (t + 1) = 0
    · rw [ha] at h
      simp (disch := omega) only [L_X9_suspectsBetween_5, B_X9_suspectsBetween_5, q_lit, nI_add, q_ck, q_cl, m.G, q_le, h, ha, if_true, Nat.le_refl, q_sb, ne_eq, not_true, decide_false, Nat.add_zero, Bool.false_eq_true, if_false]
      rw [if_neg (by omega)]
    · simp (disch := omega) only [L_X9_suspectsBetween_5, B_X9_suspectsBetween_5, q_lit, nI_add, q_ck, q_cl, m.G, q_le, h, ha, if_true, q_sb, ne_eq, not_false_eq_true, decide_true]
      rw [if_neg (by omega), if_neg (by omega)]
  · simp (disch := omega) only [L_X9_suspectsBetween_5, B_X9_suspectsBetween_5, q_lit, q_ck, q_cl, m.G, q_le, Nat.le_refl, if_true]
theorem fstF_min (p : Nat → Bool) (n : Nat) : ∀ d k, n - k = d → ∀ i, k ≤ i → i < n → (fstF p n k = 0 ∨ i < fstF p n k - 1) → p i = false := by
  intro d
  induction d with
  | zero => intro k h i h1 h2; omega
  | succ d ih =>
    intro k h i h1 h2 h3
    rw [fstF, dif_pos (by omega)] at h3
    by_cases c : p k = true
    · rw [if_pos c] at h3
      omega
    · rw [if_neg c] at h3
      by_cases hik : i = k
      · subst hik; exact Bool.eq_false_iff.mpr c
      · exact ih (k + 1) (by omega) i (by omega) h2 h3
theorem cntF_0 (p : Nat → Bool) (n : Nat) (h : ∀ i, i < n → p i = false) : cntF p n = 0 := by
  induction n with
  | zero => rfl
  | succ n ih =>
    simp only [cntF, ih fun i hi => h i (by omega), h n (by omega)]
    rfl
theorem t_cul {w : Nat → Int32} {D : Dn} {T : Nat} {vM : (Nat → Int32) × Int64} (m : M9 w D) (o : OkD T D) (al : Alt D) {f t j : Nat} (hf : f ≤ t) (ht : t < D.mi) (hj : j < D.G) (h1 : ansF D j j f (t + 1) ≠ 0) (h2 : ∀ i, i < j → ansF D i i f (t + 1) = 0) : ∀ n k, k ≤ j → j - k < n → L_X9_culprit_38 w (nI f) (nI t) n (nI k) vM = some (nI j, vM) := by
  have hG := o.G
  have hm := o.mi
  intro n
  induction n with
  | zero => intro k _ h; omega
  | succ n ih =>
    intro k hk hn
    have h := t_oB m o al (g := k) (by omega) hf ht
    have h3 := ansF_bd o (f := f) (e := t + 1) (by omega) k k
    by_cases hkj : k = j
    · subst hkj
      simp (disch := omega) only [L_X9_culprit_38, B_X9_culprit_38, h, q_lit, q_sb, q_eq, h1, if_false]
    · have h4 := h2 k (by omega)
      rw [h4] at h
      simp (disch := omega) only [L_X9_culprit_38, B_X9_culprit_38, h, q_lit, nI_add, q_sb, q_eq, if_true]
      exact ih (k + 1) (by omega) (by omega)
theorem a_37 {vN : Nat → Int32} {vG : Nat → Nat → Int32} {vU : Nat → Nat → Int32} {vR : Nat → Nat → Int32} {vM : (Nat → Int32) × Int64} {vnow : Nat → Int32} {vX : Nat → Int32} {vO : Nat → Int64} {D : Dn} {T : Nat} (m8 : M8 vN vG vU vR D) (m9 : M9 vnow D) (o : OkD T D) (al : Alt D) (x1 : Int32) (x2 : Int32) : AnsB (F_L_wasOut vX vN vG vR vO x1 x2) (F_X9_wasOut vM vnow x1 x2) vM := by
  have hG := o.G
  have hU := o.U
  have hR := o.R
  have hm := o.mi
  rcases gcase x1 D.G with ⟨g, hg, rfl⟩ | hb
  · rcases past_case (vX := vX) m8 m9 o x2 x2 with ⟨f, t, h1, h2, e1, e2, h3, h4⟩ | ⟨h3, h4⟩
    · subst e1
      have eft : f = t := (nI_eq (by omega) (by omega)).mp e2
      subst eft
      have h5 := u_wAT m8 o (g := g) (by omega) h1 h2
      have h6 := t_oB m9 o al (g := g) (by omega) h1 h2
      have h7 := ansF_bd o (f := f) (e := f + 1) (by omega) g g
      by_cases ha : ansF D g g f (f + 1) = 0
      · rw [ha] at h6
        simp (disch := omega) only [F_L_wasOut, F_X8_wasOut, F_X9_wasOut, u_rG_ok m8 o hg, t_isG_ok m9 o hg, h3, h4, h5, h6, ha, Nat.le_refl, q_lit, q_neg, nI_add, pk_mul, q_sb, q_lt0, q_ck, q_cl, q_le, q_lt, q_eq, q_m1e, q_e1m, q_m1l, e10, e20, e30, e40, e21, e31, e41, e32, e42, e43, eq_self, if_true, if_false, q_cn0, q_cn1, F_X9_fails, F_X9_isFailed]
        exact an_b0
      · have h8 : ¬ ansF D g g f (f + 1) ≤ 0 := by omega
        simp (disch := omega) only [F_L_wasOut, F_X8_wasOut, F_X9_wasOut, u_rG_ok m8 o hg, t_isG_ok m9 o hg, h3, h4, h5, h6, ha, h8, q_lit, q_neg, nI_add, pk_mul, q_sb, q_lt0, q_ck, q_cl, q_le, q_lt, q_eq, q_m1e, q_e1m, q_m1l, e10, e20, e30, e40, e21, e31, e41, e32, e42, e43, eq_self, if_true, if_false, q_cn0, q_cn1, F_X9_fails, F_X9_isFailed]
        exact an_b1
    · simp (disch := omega) only [F_L_wasOut, F_X8_wasOut, F_X9_wasOut, u_rG_ok m8 o hg, t_isG_ok m9 o hg, h3, h4, q_lit, q_neg, nI_add, pk_mul, q_sb, q_lt0, q_ck, q_cl, q_le, q_lt, q_eq, q_m1e, q_e1m, q_m1l, e10, e20, e30, e40, e21, e31, e41, e32, e42, e43, eq_self, if_true, if_false, q_cn0, q_cn1, F_X9_fails, F_X9_isFailed]
      exact an_bf (by decide)
  · simp (disch := omega) only [F_L_wasOut, F_X8_wasOut, F_X9_wasOut, u_rG_bad m8 o hb, t_isG_bad m9 o hb, q_lit, q_neg, nI_add, pk_mul, q_sb, q_lt0, q_ck, q_cl, q_le, q_lt, q_eq, q_m1e, q_e1m, q_m1l, e10, e20, e30, e40, e21, e31, e41, e32, e42, e43, eq_self, if_true, if_false, q_cn0, q_cn1, F_X9_fails, F_X9_isFailed]
    exact an_bf (by decide)
theorem a_38 {vN : Nat → Int32} {vG : Nat → Nat → Int32} {vU : Nat → Nat → Int32} {vR : Nat → Nat → Int32} {vM : (Nat → Int32) × Int64} {vnow : Nat → Int32} {vX : Nat → Int32} {vO : Nat → Int64} {D : Dn} {T : Nat} (m8 : M8 vN vG vU vR D) (m9 : M9 vnow D) (o : OkD T D) (al : Alt D) (x1 : Int32) (x2 : Int32) (x3 : Int32) : AnsB (F_L_hasAlibi vX vN vG vR vO x1 x2 x3) (F_X9_hasAlibi vM vnow x1 x2 x3) vM := by
  have hG := o.G
  have hU := o.U
  have hR := o.R
  have hm := o.mi
  rcases gcase x1 D.G with ⟨g, hg, rfl⟩ | hb
  · rcases past_case (vX := vX) m8 m9 o x2 x3 with ⟨f, t, h1, h2, e1, e2, h3, h4⟩ | ⟨h3, h4⟩
    · subst e1 e2
      have h5 := u_wAT m8 o (g := g) (by omega) h1 h2
      have h6 := t_oB m9 o al (g := g) (by omega) h1 h2
      have h7 := ansF_bd o (f := f) (e := t + 1) (by omega) g g
      by_cases ha : ansF D g g f (t + 1) = 0
      · rw [ha] at h6
        simp (disch := omega) only [F_L_hasAlibi, F_X8_hasAlibi, F_X9_hasAlibi, u_rG_ok m8 o hg, t_isG_ok m9 o hg, h3, h4, h5, h6, ha, q_lit, q_neg, nI_add, pk_mul, q_sb, q_lt0, q_ck, q_cl, q_le, q_lt, q_eq, q_m1e, q_e1m, q_m1l, e10, e20, e30, e40, e21, e31, e41, e32, e42, e43, eq_self, if_true, if_false, q_cn0, q_cn1, F_X9_fails, F_X9_isFailed]
        exact an_b1
      · simp (disch := omega) only [F_L_hasAlibi, F_X8_hasAlibi, F_X9_hasAlibi, u_rG_ok m8 o hg, t_isG_ok m9 o hg, h3, h4, h5, h6, ha, q_lit, q_neg, nI_add, pk_mul, q_sb, q_lt0, q_ck, q_cl, q_le, q_lt, q_eq, q_m1e, q_e1m, q_m1l, e10, e20, e30, e40, e21, e31, e41, e32, e42, e43, eq_self, if_true, if_false, q_cn0, q_cn1, F_X9_fails, F_X9_isFailed]
        exact an_b0
    · simp (disch := omega) only [F_L_hasAlibi, F_X8_hasAlibi, F_X9_hasAlibi, u_rG_ok m8 o hg, t_isG_ok m9 o hg, h3, h4, q_lit, q_neg, nI_add, pk_mul, q_sb, q_lt0, q_ck, q_cl, q_le, q_lt, q_eq, q_m1e, q_e1m, q_m1l, e10, e20, e30, e40, e21, e31, e41, e32, e42, e43, eq_self, if_true, if_false, q_cn0, q_cn1, F_X9_fails, F_X9_isFailed]
      exact an_bf (by decide)
  · simp (disch := omega) only [F_L_hasAlibi, F_X8_hasAlibi, F_X9_hasAlibi, u_rG_bad m8 o hb, t_isG_bad m9 o hb, q_lit, q_neg, nI_add, pk_mul, q_sb, q_lt0, q_ck, q_cl, q_le, q_lt, q_eq, q_m1e, q_e1m, q_m1l, e10, e20, e30, e40, e21, e31, e41, e32, e42, e43, eq_self, if_true, if_false, q_cn0, q_cn1, F_X9_fails, F_X9_isFailed]
    exact an_bf (by decide)
theorem a_39 {vN : Nat → Int32} {vG : Nat → Nat → Int32} {vU : Nat → Nat → Int32} {vR : Nat → Nat → Int32} {vM : (Nat → Int32) × Int64} {vnow : Nat → Int32} {vX : Nat → Int32} {vO : Nat → Int64} {D : Dn} {T : Nat} (m8 : M8 vN vG vU vR D) (m9 : M9 vnow D) (o : OkD T D) (al : Alt D) (x1 : Int32) (x2 : Int32) : Ans (F_L_suspects vX vN vG vR vO x1 x2) (F_X9_suspects vM vnow x1 x2) vM := by
  have hG := o.G
  have hU := o.U
  have hR := o.R
  have hm := o.mi
  rcases past_case (vX := vX) m8 m9 o x1 x2 with ⟨f, t, h1, h2, e1, e2, h3, h4⟩ | ⟨h3, h4⟩
  · subst e1 e2
    simp (disch := omega) only [F_L_suspects, F_X8_suspects, F_X9_suspects, h3, h4, u_cS m8 o h1 h2, t_sB m9 o al h1 h2, q_lit, q_neg, nI_add, pk_mul, q_sb, q_lt0, q_ck, q_cl, q_le, q_lt, q_eq, q_m1e, q_e1m, q_m1l, e10, e20, e30, e40, e21, e31, e41, e32, e42, e43, eq_self, if_true, if_false, q_cn0, q_cn1, F_X9_fails, F_X9_isFailed]
    exact an_ok
  · simp (disch := omega) only [F_L_suspects, F_X8_suspects, F_X9_suspects, h3, h4, q_lit, q_neg, nI_add, pk_mul, q_sb, q_lt0, q_ck, q_cl, q_le, q_lt, q_eq, q_m1e, q_e1m, q_m1l, e10, e20, e30, e40, e21, e31, e41, e32, e42, e43, eq_self, if_true, if_false, q_cn0, q_cn1, F_X9_fails, F_X9_isFailed]
    exact an_f (by decide)
theorem a_40 {vN : Nat → Int32} {vG : Nat → Nat → Int32} {vU : Nat → Nat → Int32} {vR : Nat → Nat → Int32} {vM : (Nat → Int32) × Int64} {vnow : Nat → Int32} {vX : Nat → Int32} {vO : Nat → Int64} {D : Dn} {T : Nat} (m8 : M8 vN vG vU vR D) (m9 : M9 vnow D) (o : OkD T D) (al : Alt D) (x1 : Int32) (x2 : Int32) : Ans (F_L_culprit vX vN vG vR vO x1 x2) (F_X9_culprit vM vnow x1 x2) vM := by
  have hG := o.G
  have hU := o.U
  have hR := o.R
  have hm := o.mi
  rcases past_case (vX := vX) m8 m9 o x1 x2 with ⟨f, t, h1, h2, e1, e2, h3, h4⟩ | ⟨h3, h4⟩
  · subst e1 e2
    have hc := cntF_le (fun k => decide (ansF D k k f (t + 1) ≠ 0)) D.G
    by_cases h1c : cntF (fun k => decide (ansF D k k f (t + 1) ≠ 0)) D.G = 1
    · have h6 := u_cS m8 o h1 h2
      have h7 := fun vM => t_sB (vM := vM) m9 o al h1 h2
      have h8 := fst1_nz (fun k => decide (ansF D k k f (t + 1) ≠ 0)) D.G _ 0 rfl
      have h9 := fstF_ok (fun k => decide (ansF D k k f (t + 1) ≠ 0)) D.G _ 0 rfl
      have h10 := fstF_min (fun k => decide (ansF D k k f (t + 1) ≠ 0)) D.G _ 0 rfl
      rw [h1c] at h6 h7
      cases hj : fstF (fun k => decide (ansF D k k f (t + 1) ≠ 0)) D.G 0 with
      | zero =>
        exfalso
        have := cntF_0 (fun k => decide (ansF D k k f (t + 1) ≠ 0)) D.G fun i hi => h10 i (Nat.zero_le _) hi (Or.inl hj)
        omega
      | succ j =>
        rw [hj] at h8 h9 h10
        have h11 : j < D.G ∧ ansF D j j f (t + 1) ≠ 0 := by
          rcases h9 with h | ⟨_, h, h'⟩
          · omega
          · exact ⟨by omega, of_decide_eq_true h'⟩
        have h12 := fun vM => t_cul (vM := vM) m9 o al h1 h2 h11.1 h11.2 (fun i hi => by
          have := h10 i (Nat.zero_le _) (by omega) (Or.inr (by omega))
          exact Decidable.byContradiction fun hne => by rw [decide_eq_true hne] at this; exact absurd this (by decide)) FU 0 (Nat.zero_le _) (by unfold FU; omega)
        simp (disch := omega) only [F_L_culprit, F_X8_culprit, F_X9_culprit, h3, h4, h6, h7, u_fS m8 o h1 h2, h8, h12, nz_s, q_lit, q_neg, nI_add, pk_mul, q_sb, q_lt0, q_ck, q_cl, q_le, q_lt, q_eq, q_m1e, q_e1m, q_m1l, e10, e20, e30, e40, e21, e31, e41, e32, e42, e43, eq_self, if_true, if_false, q_cn0, q_cn1, F_X9_fails, F_X9_isFailed]
        exact an_ok
    · simp (disch := omega) only [F_L_culprit, F_X8_culprit, F_X9_culprit, h3, h4, u_cS m8 o h1 h2, t_sB m9 o al h1 h2, h1c, q_lit, q_neg, nI_add, pk_mul, q_sb, q_lt0, q_ck, q_cl, q_le, q_lt, q_eq, q_m1e, q_e1m, q_m1l, e10, e20, e30, e40, e21, e31, e41, e32, e42, e43, eq_self, if_true, if_false, q_cn0, q_cn1, F_X9_fails, F_X9_isFailed]
      exact an_f (by decide)
  · simp (disch := omega) only [F_L_culprit, F_X8_culprit, F_X9_culprit, h3, h4, q_lit, q_neg, nI_add, pk_mul, q_sb, q_lt0, q_ck, q_cl, q_le, q_lt, q_eq, q_m1e, q_e1m, q_m1l, e10, e20, e30, e40, e21, e31, e41, e32, e42, e43, eq_self, if_true, if_false, q_cn0, q_cn1, F_X9_fails, F_X9_isFailed]
    exact an_f (by decide)
theorem a_41 {vN : Nat → Int32} {vG : Nat → Nat → Int32} {vU : Nat → Nat → Int32} {vR : Nat → Nat → Int32} {vM : (Nat → Int32) × Int64} {vnow : Nat → Int32} {vX : Nat → Int32} {vO : Nat → Int64} {D : Dn} {T : Nat} (m8 : M8 vN vG vU vR D) (m9 : M9 vnow D) (o : OkD T D) (al : Alt D) (x1 : Int32) : Ans (F_L_minutesOut vX vN vG vR vO x1) (F_X9_minutesOut vM vnow x1) vM := by
  have hG := o.G
  have hU := o.U
  have hR := o.R
  have hm := o.mi
  rcases gcase x1 D.G with ⟨g, hg, rfl⟩ | hb
  · have h1 := u_mA m8 o (g := g) (h := g) (f := 0) (e := D.mi) (by omega) (by omega) (Nat.zero_le _) (by omega)
    simp (disch := omega) only [F_L_minutesOut, F_X8_minutesOut, F_X9_minutesOut, F_X3_sumOfMinutesAway, m8.mi, u_rG_ok m8 o hg, t_isG_ok m9 o hg, h1, t_oA m9 o al, q_lit, q_neg, nI_add, pk_mul, q_sb, q_lt0, q_ck, q_cl, q_le, q_lt, q_eq, q_m1e, q_e1m, q_m1l, e10, e20, e30, e40, e21, e31, e41, e32, e42, e43, eq_self, if_true, if_false, q_cn0, q_cn1, F_X9_fails, F_X9_isFailed]
    exact an_ok
  · simp (disch := omega) only [F_L_minutesOut, F_X8_minutesOut, F_X9_minutesOut, u_rG_bad m8 o hb, t_isG_bad m9 o hb, q_lit, q_neg, nI_add, pk_mul, q_sb, q_lt0, q_ck, q_cl, q_le, q_lt, q_eq, q_m1e, q_e1m, q_m1l, e10, e20, e30, e40, e21, e31, e41, e32, e42, e43, eq_self, if_true, if_false, q_cn0, q_cn1, F_X9_fails, F_X9_isFailed]
    exact an_f (by decide)
theorem a_42 {vN : Nat → Int32} {vG : Nat → Nat → Int32} {vU : Nat → Nat → Int32} {vR : Nat → Nat → Int32} {vM : (Nat → Int32) × Int64} {vnow : Nat → Int32} {vX : Nat → Int32} {vO : Nat → Int64} {D : Dn} {T : Nat} (m8 : M8 vN vG vU vR D) (m9 : M9 vnow D) (o : OkD T D) (al : Alt D) (x1 : Int32) (x2 : Int32) : Ans (F_L_minutesTogether vX vN vG vR vO x1 x2) (F_X9_minutesTogether vM vnow x1 x2) vM := by
  have hG := o.G
  have hU := o.U
  have hR := o.R
  have hm := o.mi
  rcases gcase x1 D.G with ⟨g, hg, rfl⟩ | hb
  · rcases gcase x2 D.G with ⟨h, hh, rfl⟩ | hb
    · have h1 := u_mA m8 o (g := g) (h := h) (f := 0) (e := D.mi) (by omega) (by omega) (Nat.zero_le _) (by omega)
      simp (disch := omega) only [F_L_minutesTogether, F_X8_minutesTogether, F_X9_minutesTogether, F_X3_sumOfMinutesAway, m8.mi, u_rG_ok m8 o hg, t_isG_ok m9 o hg, u_rG_ok m8 o hh, t_isG_ok m9 o hh, h1, t_both m9 o, q_lit, q_neg, nI_add, pk_mul, q_sb, q_lt0, q_ck, q_cl, q_le, q_lt, q_eq, q_m1e, q_e1m, q_m1l, e10, e20, e30, e40, e21, e31, e41, e32, e42, e43, eq_self, if_true, if_false, q_cn0, q_cn1, F_X9_fails, F_X9_isFailed]
      exact an_ok
    · simp (disch := omega) only [F_L_minutesTogether, F_X8_minutesTogether, F_X9_minutesTogether, u_rG_ok m8 o hg, t_isG_ok m9 o hg, u_rG_bad m8 o hb, t_isG_bad m9 o hb, q_lit, q_neg, nI_add, pk_mul, q_sb, q_lt0, q_ck, q_cl, q_le, q_lt, q_eq, q_m1e, q_e1m, q_m1l, e10, e20, e30, e40, e21, e31, e41, e32, e42, e43, eq_self, if_true, if_false, q_cn0, q_cn1, F_X9_fails, F_X9_isFailed]
      exact an_f (by decide)
  · simp (disch := omega) only [F_L_minutesTogether, F_X8_minutesTogether, F_X9_minutesTogether, u_rG_bad m8 o hb, t_isG_bad m9 o hb, q_lit, q_neg, nI_add, pk_mul, q_sb, q_lt0, q_ck, q_cl, q_le, q_lt, q_eq, q_m1e, q_e1m, q_m1l, e10, e20, e30, e40, e21, e31, e41, e32, e42, e43, eq_self, if_true, if_false, q_cn0, q_cn1, F_X9_fails, F_X9_isFailed]
    exact an_f (by decide)
theorem a_46 {vN : Nat → Int32} {vG : Nat → Nat → Int32} {vU : Nat → Nat → Int32} {vR : Nat → Nat → Int32} {vM : (Nat → Int32) × Int64} {vnow : Nat → Int32} {vX : Nat → Int32} {vO : Nat → Int64} {D : Dn} {T : Nat} (m8 : M8 vN vG vU vR D) (m9 : M9 vnow D) (o : OkD T D) (x1 : Int32) : Ans (F_L_tipOf vX vN vG vR vO x1) (F_X9_tipOf vM vnow x1) vM := by
  have hG := o.G
  have hU := o.U
  have hR := o.R
  have hm := o.mi
  rcases gcase x1 D.G with ⟨g, hg, rfl⟩ | hb
  · have h1 := o.ou g hg
    rcases Nat.le_one_iff_eq_zero_or_eq_one.mp h1 with h | h
    all_goals simp (disch := omega) only [F_L_tipOf, F_X8_tipOf, F_X9_tipOf, u_rG_ok m8 o hg, t_isG_ok m9 o hg, u_isAway m8 o hg, t_away m9 o hg, u_tip m8 o hg, t_tip m9 o hg, h, q_lit, q_neg, nI_add, pk_mul, q_sb, q_lt0, q_ck, q_cl, q_le, q_lt, q_eq, q_m1e, q_e1m, q_m1l, e10, e20, e30, e40, e21, e31, e41, e32, e42, e43, eq_self, if_true, if_false, q_cn0, q_cn1, F_X9_fails, F_X9_isFailed]
    · exact an_f (by decide)
    · exact an_ok
  · simp (disch := omega) only [F_L_tipOf, F_X8_tipOf, F_X9_tipOf, u_rG_bad m8 o hb, t_gN_bad m9 o hb, t_isG_bad m9 o hb, q_lit, q_neg, nI_add, pk_mul, q_sb, q_lt0, q_ck, q_cl, q_le, q_lt, q_eq, q_m1e, q_e1m, q_m1l, e10, e20, e30, e40, e21, e31, e41, e32, e42, e43, eq_self, if_true, if_false, q_cn0, q_cn1, F_X9_fails, F_X9_isFailed]
    exact an_f (by decide)
