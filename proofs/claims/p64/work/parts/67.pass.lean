/-! passes() is true -/
def skD (D : Dn) (g : Nat) : Nat := D.so g + if D.ou g = 0 then 0 else if carr D g = 0 then D.ra else 0
theorem passD_we (D : Dn) {u : Nat} (hu : u < D.U) : (passD D).we u = newWe D u := by
  have e : (passD D) 11 u = (p3 (q2 D) (D.mi + 1) D.G) 11 u := by unfold passD p4; split <;> rfl
  refine Eq.trans e ?_
  show (if u < D.U then newWe (upD D 0 0 (D.mi + 1)) u else D 11 u) = _
  rw [if_pos hu]
  rfl
theorem passD_so (D : Dn) {g : Nat} (hg : g < D.G) : (passD D).so g = newSo D g := by
  have e : (passD D) 7 g = (p3 (q2 D) (D.mi + 1) D.G) 7 g := by unfold passD p4; split <;> rfl
  refine Eq.trans e ?_
  show (if g < D.G then newSo (q2 D) g else q2 D 7 g) = _
  rw [if_pos hg]
  rfl
theorem passD_pu (D : Dn) : (passD D).pu = D.pu + smF (drp D) D.U := by
  have e : (passD D) 0 5 = (p3 (q2 D) (D.mi + 1) D.G) 0 5 := by unfold passD p4; split <;> rfl
  exact e
section
variable {T : Nat} {v : KV} {D : Dn} {n : Nat} {Hs : Nat → Dn} {x2 : Int64} {x8 x10 x11 x12 : Int32} {a230 a236 : Nat → Int32}
theorem p269a (h : S7 T v D) {rec : Int64 → Int32 → Int32 → Int32 → Int32 → Int32 → Int32 → (Nat → Int32) → (Nat → Int32) → KV → Option (Int32 × KV)} {x4 : Int32} {k : Nat} (hk : k < D.U) : J_K_passes_269 rec x2 x4 x8 x10 x11 x12 (nI k) 1 a230 a236 v = J_K_passes_315 rec x2 x4 x8 x10 x11 x12 (nI k) 1 (nI k) (nI (D.we k - 1)) a230 a236 v := by
  have hwe := h.2.1.we k hk
  have e : (if (0 : Int32) < (nI (D.we k) - 1) then (nI (D.we k) - 1) else 0) = nI (D.we k - 1) := q_max0 (a := D.we k) (b := 1) (by omega) (by omega)
  unfold J_K_passes_269
  rw [if_neg (show ¬ (1 : Int32) = 0 by decide), show F_K_call__ v 25 (nI k) = _ from k25 h hk, q_sb]
  dsimp only
  rw [e]
theorem p269b (h : S7 T v D) {rec : Int64 → Int32 → Int32 → Int32 → Int32 → Int32 → Int32 → (Nat → Int32) → (Nat → Int32) → KV → Option (Int32 × KV)} {x4 : Int32} {k : Nat} (hk : k < D.U) : J_K_passes_269 rec x2 x4 x8 x10 x11 x12 (nI k) 0 a230 a236 v = J_K_passes_315 rec x2 x4 x8 x10 x11 x12 (nI k) 0 (nI k) (nI (if D.we k + D.ra ≤ 99 then D.we k + D.ra else 99)) a230 a236 v := by
  have hwe := h.2.1.we k hk
  have hra := h.2.1.ra
  have e : (if (nI (D.we k) + nI D.ra) < (99 : Int32) then (nI (D.we k) + nI D.ra) else 99) = nI (if D.we k + D.ra ≤ 99 then D.we k + D.ra else 99) := by
    rw [nI_add]
    exact q_min (x := D.we k + D.ra) (c := 99) (by omega) (by omega)
  unfold J_K_passes_269
  rw [if_pos rfl, show F_K_call__ v 25 (nI k) = _ from k25 h hk, q_sb]
  dsimp only
  rw [g_rain h, q_sb, e]
theorem p243a (h : S7 T v D) (hc : True) {rec : Int64 → Int32 → Int32 → Int32 → Int32 → Int32 → Int32 → (Nat → Int32) → (Nat → Int32) → KV → Option (Int32 × KV)} {x4 : Int32} {k : Nat} (hk : k < D.U) (c : D.ca k = 0) (m : Nat) : B_K_passes_243 rec x2 x4 x8 x10 x11 x12 (nI k) a230 a236 v = J_K_passes_269 rec x2 x4 x8 x10 x11 x12 (nI k) 1 a230 a236 v := by
  have hU := h.2.1.U
  unfold B_K_passes_243
  rw [g_umbrellaCount h, q_sb, if_neg (show ¬ nI D.U ≤ nI k by rw [q_le (by omega) (by omega)]; omega), show F_K_call__ v 26 (nI k) = _ from k26 h hk, q_sb]
  dsimp only
  rw [if_pos c]
  rfl
theorem p243b (h : S7 T v D) (hc : True) {rec : Int64 → Int32 → Int32 → Int32 → Int32 → Int32 → Int32 → (Nat → Int32) → (Nat → Int32) → KV → Option (Int32 × KV)} {x4 : Int32} {k : Nat} (hk : k < D.U) (c : ¬ D.ca k = 0) (m : Nat) : B_K_passes_243 rec x2 x4 x8 x10 x11 x12 (nI k) a230 a236 v = J_K_passes_269 rec x2 x4 x8 x10 x11 x12 (nI k) 0 a230 a236 v := by
  have hU := h.2.1.U
  unfold B_K_passes_243
  rw [g_umbrellaCount h, q_sb, if_neg (show ¬ nI D.U ≤ nI k by rw [q_le (by omega) (by omega)]; omega), show F_K_call__ v 26 (nI k) = _ from k26 h hk, q_sb]
  dsimp only
  rw [if_neg c]
  rfl
theorem ps1 (h : S7 T v D) : ∀ m k a230, k ≤ D.U → D.U - k < m → (∀ g, g < k → a230 g = nI (newWe D g)) → ∃ b, (∀ g, g < D.U → b g = nI (newWe D g)) ∧ L_K_passes_243 m x2 (nI D.mi) x8 x10 x11 (nI (D.pu + smF (drp D) k)) (nI k) a230 a236 v = L_K_passes_344 11 x2 (nI D.mi) x8 x10 x11 (nI (D.pu + smF (drp D) D.U)) (nI 0) b a236 v := by
  have o := h.2.1
  have hU := o.U
  have hra := o.ra
  have hpu := o.pu
  have hm := h.2.2.2
  intro m
  induction m with
  | zero => intro k a _ h9; omega
  | succ m ih =>
    intro k a hk hn hI
    by_cases hkU : k < D.U
    · have hwe := o.we k hkU
      have c1 : ¬ D.U ≤ k := by omega
      have hd := drp_sm D k
      obtain ⟨b, hb, eb⟩ := ih (k + 1) (upd a k (nI (newWe D k))) (by omega) (by omega) (fun g hg => by
        by_cases e : g = k
        · subst e; exact up_eq
        · rw [up_ne e]; exact hI g (by omega))
      refine ⟨b, hb, Eq.trans ?_ eb⟩
      have e8 : smF (drp D) (k + 1) = smF (drp D) k + drp D k := rfl
      show B_K_passes_243 (L_K_passes_243 m) x2 (nI D.mi) x8 x10 x11 _ (nI k) a a236 v = _
      by_cases c : D.ca k = 0
      · have w1 : newWe D k = D.we k - 1 := if_pos c
        rw [p243a h trivial hkU c 0, p269a h hkU]
        by_cases z : D.we k ≤ 0
        · have w2 : drp D k = 0 := by unfold drp; rw [if_pos c, if_pos (by omega)]
          rw [show D.pu + smF (drp D) (k + 1) = D.pu + smF (drp D) k by rw [e8, w2]; rfl, w1]
          simp (disch := omega) only [J_K_passes_315, J_K_passes_335, k25 h hkU, z, q_lit, q_neg, q_kS, q_kA, q_kN, q_kI, nI_add, pk_mul, q_sb, q_lt0, q_ck, q_cl, q_le, q_lt, q_eq, q_m1e, q_e1m, q_m1l, eq_self, if_true, if_false, e10, e01, Nat.not_lt_zero, q_kNl, q_nK, q_n1, q_01]
        · have w2 : drp D k = 1 := by unfold drp; rw [if_pos c, if_neg (by omega)]
          rw [show D.pu + smF (drp D) (k + 1) = D.pu + smF (drp D) k + 1 by rw [e8, w2]; rfl, w1]
          simp (disch := omega) only [J_K_passes_315, J_K_passes_335, k25 h hkU, z, q_lit, q_neg, q_kS, q_kA, q_kN, q_kI, nI_add, pk_mul, q_sb, q_lt0, q_ck, q_cl, q_le, q_lt, q_eq, q_m1e, q_e1m, q_m1l, eq_self, if_true, if_false, e10, e01, Nat.not_lt_zero, q_kNl, q_nK, q_n1, q_01]
      · have w1 : newWe D k = if D.we k + D.ra ≤ 99 then D.we k + D.ra else 99 := if_neg c
        have w2 : drp D k = 0 := if_neg c
        rw [p243b h trivial hkU c 0, p269b h hkU, show D.pu + smF (drp D) (k + 1) = D.pu + smF (drp D) k by rw [e8, w2]; rfl, w1]
        simp (disch := omega) only [J_K_passes_315, J_K_passes_335, q_lit, q_neg, q_kS, q_kA, q_kN, q_kI, nI_add, pk_mul, q_sb, q_lt0, q_ck, q_cl, q_le, q_lt, q_eq, q_m1e, q_e1m, q_m1l, eq_self, if_true, if_false, e10, e01, Nat.not_lt_zero, q_kNl, q_nK, q_n1, q_01]
    · have : k = D.U := by omega
      subst this
      refine ⟨a, hI, ?_⟩
      show B_K_passes_243 _ _ _ _ _ _ _ (nI D.U) _ _ v = _
      unfold B_K_passes_243
      rw [g_umbrellaCount h, q_sb, if_pos (show nI D.U ≤ nI D.U by rw [q_le (by omega) (by omega)]; omega)]
      rfl
theorem ps2 (h : S7 T v D) : ∀ m k a236, k ≤ D.G → D.G - k < m → (∀ g, g < k → a236 g = nI (skD D g)) → ∃ b, (∀ g, g < D.G → b g = nI (skD D g)) ∧ L_K_passes_344 m x2 (nI D.mi) x8 (nI D.G) (nI (D.no + smF (nsD D (D.mi + 1)) k)) x12 (nI k) a230 a236 v = J_K_passes_444 x2 x8 (nI D.G) (nI (D.no + smF (nsD D (D.mi + 1)) D.G)) x12 (if (D.mi + 1) % 60 = 0 then nI 1 else nI 0) a230 b v := by
  have o := h.2.1
  have hG := o.G
  have hra := o.ra
  have hno := o.no
  have hm := h.2.2.2
  intro m
  induction m with
  | zero => intro k a _ h9; omega
  | succ m ih =>
    intro k a hk hn hI
    by_cases hkG : k < D.G
    · have hso := o.so k hkG
      have hba := o.ba k hkG
      have hcl := carr_le D k
      have hU := o.U
      have c1 : ¬ D.G ≤ k := by omega
      have hns := ns_sm o (D.mi + 1) (n := k) (by omega)
      obtain ⟨b, hb, eb⟩ := ih (k + 1) (upd a k (nI (skD D k))) (by omega) (by omega) (fun g hg => by
        by_cases e : g = k
        · subst e; exact up_eq
        · rw [up_ne e]; exact hI g (by omega))
      refine ⟨b, hb, Eq.trans ?_ eb⟩
      have s396 : ∀ t3 : Nat, t3 ≤ 9 → skD D k = D.so k + t3 → J_K_passes_396 (L_K_passes_344 m) x2 (nI D.mi) x8 (nI D.G) (nI (D.no + smF (nsD D (D.mi + 1)) k)) x12 (nI k) (nI k) (nI (D.so k)) (nI t3) a230 a v = L_K_passes_344 m x2 (nI D.mi) x8 (nI D.G) (nI (D.no + smF (nsD D (D.mi + 1)) (k + 1))) x12 (nI (k + 1)) a230 (upd a k (nI (skD D k))) v := fun t3 h3 hs => by
        have e8 : smF (nsD D (D.mi + 1)) (k + 1) = smF (nsD D (D.mi + 1)) k + nsD D (D.mi + 1) k := rfl
        rw [hs, e8]
        cases hb : barksD D k (D.mi + 1)
        · have w : nsD D (D.mi + 1) k = 0 := by unfold nsD; rw [hb]; rfl
          rw [w, show D.no + (smF (nsD D (D.mi + 1)) k + 0) = D.no + smF (nsD D (D.mi + 1)) k from rfl]
          simp (disch := omega) only [J_K_passes_396, k23 h hkG, hb, Bool.toNat_false, q_lit, q_neg, q_kS, q_kA, q_kN, q_kI, nI_add, pk_mul, q_sb, q_lt0, q_ck, q_cl, q_sub, q_le, q_lt, q_eq, q_m1e, q_e1m, q_m1l, eq_self, if_true, if_false, e10, e01, Nat.not_lt_zero, q_kNl, q_nK, q_n1, q_01]
        · have w : nsD D (D.mi + 1) k = D.ba k := by unfold nsD; rw [hb]; rfl
          rw [w, ← Nat.add_assoc]
          simp (disch := omega) only [J_K_passes_396, k23 h hkG, k19 h hkG, hb, Bool.toNat_true, q_lit, q_neg, q_kS, q_kA, q_kN, q_kI, nI_add, pk_mul, q_sb, q_lt0, q_ck, q_cl, q_sub, q_le, q_lt, q_eq, q_m1e, q_e1m, q_m1l, eq_self, if_true, if_false, e10, e01, Nat.not_lt_zero, q_kNl, q_nK, q_n1, q_01]
      have k29' : F_K_call__ v (nI 29) (nI k) = some (bI (carr D k), v) := k29 h hkG
      rcases Nat.le_one_iff_eq_zero_or_eq_one.mp (o.ou k hkG) with e | e
      · rw [← s396 0 (by omega) (by unfold skD; rw [if_pos e])]
        simp (disch := omega) only [L_K_passes_344, B_K_passes_344, k22 h hkG, k20 h hkG, e, c1, q_lit, q_neg, q_kS, q_kA, q_kN, q_kI, nI_add, pk_mul, q_sb, q_lt0, q_ck, q_cl, q_sub, q_le, q_lt, q_eq, q_m1e, q_e1m, q_m1l, eq_self, if_true, if_false, e10, e01, Nat.not_lt_zero, q_kNl, q_nK, q_n1, q_01]
      · by_cases c : carr D k = 0
        · rw [← s396 D.ra hra (by unfold skD; rw [if_neg (by omega), if_pos c])]
          simp (disch := omega) only [L_K_passes_344, B_K_passes_344, k22 h hkG, k20 h hkG, k29', c, bI_0, g_rain h, e, c1, q_lit, q_neg, q_kS, q_kA, q_kN, q_kI, nI_add, pk_mul, q_sb, q_lt0, q_ck, q_cl, q_sub, q_le, q_lt, q_eq, q_m1e, q_e1m, q_m1l, eq_self, if_true, if_false, e10, e01, Nat.not_lt_zero, q_kNl, q_nK, q_n1, q_01]
        · obtain ⟨u, hu⟩ : ∃ u, carr D k = u + 1 := ⟨carr D k - 1, by omega⟩
          rw [← s396 0 (by omega) (by unfold skD; rw [if_neg (by omega), if_neg c])]
          simp (disch := omega) only [L_K_passes_344, B_K_passes_344, k22 h hkG, k20 h hkG, k29', hu, bI_s, e, c1, q_lit, q_neg, q_kS, q_kA, q_kN, q_kI, nI_add, pk_mul, q_sb, q_lt0, q_ck, q_cl, q_sub, q_le, q_lt, q_eq, q_m1e, q_e1m, q_m1l, eq_self, if_true, if_false, e10, e01, Nat.not_lt_zero, q_kNl, q_nK, q_n1, q_01]
    · have : k = D.G := by omega
      subst this
      refine ⟨a, hI, ?_⟩
      show B_K_passes_344 _ _ _ _ (nI D.G) _ _ (nI D.G) _ _ v = _
      unfold B_K_passes_344
      rw [if_pos (show nI D.G ≤ nI D.G by rw [q_le (by omega) (by omega)]; omega)]
      have e60 : (nI D.mi + 1) - (nI D.mi + 1) / 60 * 60 = nI ((D.mi + 1) % 60) := by
        rw [show nI D.mi + 1 = nI (D.mi + 1) from nI_add D.mi 1]
        exact q_mod (n := 60) (by omega) (by omega) (by omega)
      rw [e60]
      have := Nat.mod_lt (D.mi + 1) (show 0 < 60 by omega)
      by_cases c : (D.mi + 1) % 60 = 0
      · rw [if_pos (show nI ((D.mi + 1) % 60) = 0 by rw [c]; rfl), if_pos c]
        rfl
      · rw [if_neg (show ¬ nI ((D.mi + 1) % 60) = 0 from fun z => c ((nI_eq (b := 0) (by omega) (by omega)).mp z)), if_neg c]
        rfl
theorem ps5 (h : S8 T v D n Hs) (hn : 0 < n) {E : Dn} (hE : Hs (n - 1) = E) : ∃ v2, J_K_passes_609 (stV E) (nI 1) v = some (1, v2) ∧ S8 T v2 E (n - 1) Hs := by
  obtain ⟨v2, e8, h8, _⟩ := mu8 (xa := 0) h hn
  rw [hE] at h8
  obtain ⟨q, hn8, _⟩ := h.2.1
  refine ⟨v2, ?_, h8⟩
  unfold J_K_passes_609
  rw [if_neg (show ¬ nI 1 = (0 : Int32) by decide), show F_K_call__ v 8 0 = some (nI (n - 1), v2) from e8, q_sb]
  dsimp only
  rw [if_neg (show ¬ nI (n - 1) < (0 : Int32) by rw [show (0 : Int32) = nI 0 from rfl, q_lt (by omega) (by omega)]; omega), state_of h8.1.1, q_sb]
  exact if_pos (lgc_self _)
theorem ps4 {E : Dn} (h : S7 T v (passD D)) (hGe : (passD D).G = D.G) (o : OkD T D) (hI : ∀ g, g < D.G → a236 g = nI (skD D g)) : ∀ m k, k ≤ D.G → D.G - k < m → L_K_passes_562 m x2 (nI 1) (nI D.G) (nI k) a236 v = J_K_passes_609 x2 (nI 1) v := by
  have hG := o.G
  have hra := o.ra
  intro m
  induction m with
  | zero => intro k _ h9; omega
  | succ m ih =>
    intro k hk hn
    by_cases hkG : k < D.G
    · refine Eq.trans ?_ (ih (k + 1) (by omega) (by omega))
      have c1 : ¬ D.G ≤ k := by omega
      have hso := o.so k hkG
      have i1 := hI k hkG
      have e1 : (passD D).so k = if skD D k ≤ 999 then skD D k else 999 := by
        rw [passD_so D hkG]
        unfold newSo skD
        by_cases z : D.ou k = 0
        · rw [if_pos z, if_pos z, if_pos (by omega)]; rfl
        · rw [if_neg z, if_neg z]
          by_cases z2 : carr D k = 0
          · rw [if_pos z2, if_pos z2]
          · rw [if_neg z2, if_neg z2, if_pos (by omega)]; rfl
      have hsk : skD D k ≤ 1008 := by unfold skD; split <;> (try split) <;> omega
      have k22' := k22 h (show k < (passD D).G by omega)
      rw [e1] at k22'
      have e2 : (if nI (skD D k) < (999 : Int32) then nI (skD D k) else 999) = nI (if skD D k ≤ 999 then skD D k else 999) := q_min (x := skD D k) (c := 999) (by omega) (by omega)
      show B_K_passes_562 (L_K_passes_562 m) x2 (nI 1) (nI D.G) (nI k) a236 v = _
      unfold B_K_passes_562
      rw [if_neg (show ¬ nI D.G ≤ nI k by rw [q_le (by omega) (by omega)]; omega), if_neg (show ¬ nI 1 = (0 : Int32) by decide), show F_K_call__ v 22 (nI k) = _ from k22', q_sb, q_ck (by omega) (by omega)]
      dsimp only
      rw [q_cl (by omega), i1, e2, if_pos rfl, show nI k + 1 = nI (k + 1) from nI_add k 1]
      rfl
    · have : k = D.G := by omega
      subst this
      show B_K_passes_562 _ _ _ (nI D.G) (nI D.G) _ v = _
      unfold B_K_passes_562
      rw [if_pos (show nI D.G ≤ nI D.G by rw [q_le (by omega) (by omega)]; omega)]
theorem ps3 (h : S7 T v (passD D)) (hUe : (passD D).U = D.U) (o : OkD T D) (hI : ∀ g, g < D.U → a230 g = nI (newWe D g)) : ∀ m k, k ≤ D.U → D.U - k < m → L_K_passes_516 m x2 (nI 1) (nI D.G) (nI k) a230 a236 v = L_K_passes_562 11 x2 (nI 1) (nI D.G) (nI 0) a236 v := by
  have hU := o.U
  intro m
  induction m with
  | zero => intro k _ h9; omega
  | succ m ih =>
    intro k hk hn
    by_cases hkU : k < D.U
    · refine Eq.trans ?_ (ih (k + 1) (by omega) (by omega))
      have c1 : ¬ D.U ≤ k := by omega
      have hwe := newWe_le o hkU
      have i1 := hI k hkU
      have k25' := k25 h (show k < (passD D).U by omega)
      rw [passD_we D hkU] at k25'
      simp (disch := omega) only [L_K_passes_516, B_K_passes_516, g_umbrellaCount h, hUe, k25', i1, c1, q_lit, q_neg, q_kS, q_kA, q_kN, q_kI, nI_add, pk_mul, q_sb, q_lt0, q_ck, q_cl, q_sub, q_le, q_lt, q_eq, q_m1e, q_e1m, q_m1l, eq_self, if_true, if_false, e10, e01, Nat.not_lt_zero, q_kNl, q_nK, q_n1, q_01]
    · have : k = D.U := by omega
      subst this
      show B_K_passes_516 _ _ _ _ (nI D.U) _ _ v = _
      unfold B_K_passes_516
      rw [g_umbrellaCount h, hUe, q_sb, if_pos (show nI D.U ≤ nI D.U by rw [q_le (by omega) (by omega)]; omega)]
      rfl
end
