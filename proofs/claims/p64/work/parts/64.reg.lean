/-! register() is true -/
theorem q_nK {a : Nat} (ha : a < 2147483648) : (nI a = kN) = False := by
  refine eq_false fun h => ?_
  have := congrArg Int32.toInt h
  rw [nI_toInt ha, show kN.toInt = -101 by decide] at this
  omega
theorem q_kNl : (kN < nI 0) = True := eq_true (by decide)
theorem q_kNe : (nI 0 ≤ kN) = False := eq_false (by decide)
theorem smF_s (f : Nat → Nat) (n : Nat) : smF f (n + 1) = smF f n + f n := rfl
section
variable {T : Nat} {v : KV} {D : Dn}
def atF (D : Dn) : Nat → Nat
  | 0 => 0
  | n + 1 => D.ew n
def I1 (D : Dn) (j : Nat) (a b c : Nat → Int32) : Prop := ∀ g, a g = (if awF D g j = 0 then nI 0 else nI 1) ∧ (awF D g j ≠ 0 → b g = nI (awF D g j - 1)) ∧ c g = nI (srF D g 0 D.mi j)
theorem atF_s (D : Dn) (n : Nat) : atF D (n + 1) = D.ew n := rfl
theorem atF_le (o : OkD T D) {j : Nat} (hj : j < D.R) : atF D j ≤ D.ew j := by
  cases j with
  | zero => exact Nat.zero_le _
  | succ j => exact o.up j (j + 1) (Nat.le_succ j) hj
theorem atF_bd (o : OkD T D) {j : Nat} (hj : j ≤ D.R) : atF D j ≤ D.mi := by
  cases j with
  | zero => exact Nat.zero_le _
  | succ j => exact o.ew j hj
theorem rg1 (h : S7 T v D) : ∀ n j a32 a38 a44, j ≤ D.R → D.R - j < n → I1 D j a32 a38 a44 → ∃ b32 b38 b44, I1 D D.R b32 b38 b44 ∧ L_K_register_135 n (nI D.G) (nI D.U) (nI D.R) (nI D.mi) (nI 0) (nI 0) (nI 0) (nI (atF D j)) (nI 1) (nI j) a32 a38 a44 v = L_K_register_264 11 (nI D.G) (nI D.U) (nI D.mi) (nI 0) (nI 0) (nI 0) (nI (atF D D.R)) (nI 1) (nI 0) (nI 0) b32 b38 b44 v := by
  have o := h.2.1
  have al := h.2.2.1
  have hG := o.G
  have hU := o.U
  have hR := o.R
  have hm := h.2.2.2
  intro n
  induction n with
  | zero => intro j a32 a38 a44 _ h9; omega
  | succ n ih =>
    intro j a32 a38 a44 hj hn hI
    by_cases hjR : j < D.R
    · have hew := o.ew j hjR
      have heg := o.eg j hjR
      have hel := o.el j hjR
      have hat := atF_le o hjR
      have c1 : ¬ D.R ≤ j := by omega
      have c2 : ¬ D.ew j < atF D j := by omega
      have c3 : ¬ D.mi < D.ew j := by omega
      obtain ⟨i1, i2, i3⟩ := hI (D.eg j)
      have ha := al.1 j hjR
      have hsr := sr_bd o al (Nat.zero_le D.mi) (D.eg j) (n := j) (by omega)
      have hsr1 := sr_bd o al (Nat.zero_le D.mi) (D.eg j) (n := j + 1) (by omega)
      rcases Nat.le_one_iff_eq_zero_or_eq_one.mp hel with e | e
      · have hw : awF D (D.eg j) j ≠ 0 := ha.mp e
        rw [if_neg hw] at i1
        have i2 := i2 hw
        have hwl : awF D (D.eg j) j ≤ D.ew j + 1 := by
          rcases aw_le o (D.eg j) j (by omega) with z | ⟨z1, z2⟩
          · omega
          · have := o.up (j - 1) j (by omega) hjR
            omega
        have hs : srF D (D.eg j) 0 D.mi (j + 1) = srF D (D.eg j) 0 D.mi j + (D.ew j - (awF D (D.eg j) j - 1)) := by
          show srF D (D.eg j) 0 D.mi j + (if D.eg j = D.eg j then (if D.el j = 0 then clp 0 D.mi (D.ew j) - clp 0 D.mi (awF D (D.eg j) j - 1) else 0) else 0) = _
          rw [if_pos rfl, if_pos e, clp_id hew, clp_id (by omega)]
        have c4 : awF D (D.eg j) j - 1 ≤ D.ew j := by omega
        obtain ⟨b1, b2, b3, hb, eb⟩ := ih (j + 1) (upd a32 (D.eg j) (nI 0)) a38 (upd a44 (D.eg j) (nI (srF D (D.eg j) 0 D.mi (j + 1)))) (by omega) (by omega) (fun g => by
          obtain ⟨k1, k2, k3⟩ := hI g
          have w1 : awF D g (j + 1) = if D.eg j = g then (if D.el j = 0 then 0 else D.ew j + 1) else awF D g j := rfl
          have w2 : srF D g 0 D.mi (j + 1) = srF D g 0 D.mi j + (if D.eg j = g then (if D.el j = 0 then clp 0 D.mi (D.ew j) - clp 0 D.mi (awF D g j - 1) else 0) else 0) := rfl
          by_cases hg : D.eg j = g
          · subst hg
            rw [if_pos rfl, if_pos e] at w1
            rw [w1]
            exact ⟨up_eq, fun z => absurd rfl z, up_eq⟩
          · rw [if_neg hg] at w1 w2
            rw [w1, w2]
            exact ⟨(up_ne fun z => hg z.symm).trans k1, k2, (up_ne fun z => hg z.symm).trans k3⟩)
        refine ⟨b1, b2, b3, hb, Eq.trans ?_ eb⟩
        simp (disch := omega) only [L_K_register_135, B_K_register_135, J_K_register_207, J_K_register_245, k30 h hjR, k31 h hjR, k32 h hjR, e, c1, c2, c3, i1, i2, i3, hs, atF_s, Nat.sub_self, q_lit, q_neg, q_kS, q_kA, q_kN, q_kI, nI_add, pk_mul, q_sb, q_lt0, q_ck, q_cl, q_sub, q_le, q_lt, q_eq, q_m1e, q_e1m, q_m1l, eq_self, if_true, if_false, e10, e01]
      · have hw : awF D (D.eg j) j = 0 := Decidable.byContradiction fun z => by have := ha.mpr z; omega
        rw [if_pos hw] at i1
        obtain ⟨b1, b2, b3, hb, eb⟩ := ih (j + 1) (upd a32 (D.eg j) (nI 1)) (upd a38 (D.eg j) (nI (D.ew j))) a44 (by omega) (by omega) (fun g => by
          obtain ⟨k1, k2, k3⟩ := hI g
          have w1 : awF D g (j + 1) = if D.eg j = g then (if D.el j = 0 then 0 else D.ew j + 1) else awF D g j := rfl
          have w2 : srF D g 0 D.mi (j + 1) = srF D g 0 D.mi j + (if D.eg j = g then (if D.el j = 0 then clp 0 D.mi (D.ew j) - clp 0 D.mi (awF D g j - 1) else 0) else 0) := rfl
          by_cases hg : D.eg j = g
          · subst hg
            rw [if_pos rfl, if_neg (by omega)] at w1 w2
            rw [w1, w2, Nat.add_zero, Nat.add_sub_cancel]
            exact ⟨up_eq, fun _ => up_eq, k3⟩
          · rw [if_neg hg] at w1 w2
            rw [w1, w2]
            exact ⟨(up_ne fun z => hg z.symm).trans k1, fun z => (up_ne fun z => hg z.symm).trans (k2 z), k3⟩)
        refine ⟨b1, b2, b3, hb, Eq.trans ?_ eb⟩
        simp (disch := omega) only [L_K_register_135, B_K_register_135, J_K_register_207, J_K_register_245, k30 h hjR, k31 h hjR, k32 h hjR, e, c1, c2, c3, i1, atF_s, Nat.sub_zero, q_lit, q_neg, q_kS, q_kA, q_kN, q_kI, nI_add, pk_mul, q_sb, q_lt0, q_ck, q_cl, q_sub, q_le, q_lt, q_eq, q_m1e, q_e1m, q_m1l, eq_self, if_true, if_false, e10, e01]
    · have : j = D.R := by omega
      subst this
      refine ⟨a32, a38, a44, hI, ?_⟩
      show B_K_register_135 _ _ _ (nI D.R) _ _ _ _ _ _ (nI D.R) _ _ _ v = _
      unfold B_K_register_135
      rw [if_pos (show nI D.R ≤ nI D.R by rw [q_le (by omega) (by omega)]; omega)]
      rfl

theorem tot_out (h : S7 T v D) {g : Nat} (hg : g < D.G) : ansF D g g 0 D.mi = srF D g 0 D.mi D.R + (if D.ou g = 0 then 0 else D.mi - D.si g) ∧ (D.ou g ≠ 0 → D.si g ≤ D.mi) := by
  have o := h.2.1
  have al := h.2.2.1
  have hs := o.si g hg
  obtain ⟨s1, s2⟩ := sr_sum o al (Nat.zero_le D.mi) g D.R (Nat.le_refl _)
  have ha := al.2 g hg
  refine ⟨?_, fun _ => hs⟩
  unfold ansF
  rw [s1]
  by_cases ho : D.ou g = 0
  · rw [if_pos ho] at ha
    rw [ha]
    simp only [if_true, Nat.add_zero, ho]
  · rw [if_neg ho] at ha
    have s2 := s2 (by omega)
    have hn : ¬ awF D g D.R = 0 := by omega
    rw [if_neg hn, if_neg hn, if_neg hn, if_neg ho]
    have e1 : awF D g D.R - 1 = D.si g := by omega
    rw [e1, clp_id hs] at s2 ⊢
    have := (snc_bd (D := D) (Nat.zero_le D.mi) D.R).2
    omega

theorem r484 (h : S7 T v D) {rec : Int32 → Int32 → Int32 → Int32 → Int32 → Int32 → Int32 → Int32 → Int32 → Int32 → (Nat → Int32) → (Nat → Int32) → (Nat → Int32) → KV → Option (Int32 × KV)} {x1 x2 x5 x6 x7 x11 x13 : Int32} {a b c : Nat → Int32} {k : Nat} (hkG : k < D.G) : J_K_register_484 rec x1 x2 (nI D.mi) x5 x6 x7 x11 x13 (nI k) (nI (D.ou k)) a b c v = rec x1 x2 (nI D.mi) x5 x6 x7 x11 (nI 1) x13 (nI (k + 1)) a b c v := by
  have o := h.2.1
  have hG := o.G
  have hU := o.U
  have hR := o.R
  have hm := h.2.2.2
  have hsib := o.si k hkG
  have hgi := o.gi k hkG
  have hba := o.ba k hkG
  have hso := o.so k hkG
  have hou := o.ou k hkG
  have hyw := yawnD_le D
  rcases Nat.le_one_iff_eq_zero_or_eq_one.mp hou with e | e
  · simp (disch := omega) only [J_K_register_484, J_K_register_536, k40 h hkG, e, q_lit, q_neg, q_kS, q_kA, q_kN, q_kI, nI_add, pk_mul, q_sb, q_lt0, q_ck, q_cl, q_sub, q_le, q_lt, q_eq, q_m1e, q_e1m, q_m1l, eq_self, if_true, if_false, e10, e01]
  · by_cases z : D.so k = 0
    · have hz : tipD D k = D.gi k - (yawnD D + 0) := by unfold tipD; rw [if_pos z]
      simp (disch := omega) only [J_K_register_484, J_K_register_536, k40 h hkG, k18 h hkG, g_yawn h, k22 h hkG, e, z, hz, q_ss, q_max0, q_lit, q_neg, q_kS, q_kA, q_kN, q_kI, nI_add, pk_mul, q_sb, q_lt0, q_ck, q_cl, q_sub, q_le, q_lt, q_eq, q_m1e, q_e1m, q_m1l, eq_self, if_true, if_false, e10, e01]
    · have hz : tipD D k = D.gi k - (yawnD D + 1) := by unfold tipD; rw [if_neg z]
      simp (disch := omega) only [J_K_register_484, J_K_register_536, k40 h hkG, k18 h hkG, g_yawn h, k22 h hkG, e, z, hz, q_ss, q_max0, q_lit, q_neg, q_kS, q_kA, q_kN, q_kI, nI_add, pk_mul, q_sb, q_lt0, q_ck, q_cl, q_sub, q_le, q_lt, q_eq, q_m1e, q_e1m, q_m1l, eq_self, if_true, if_false, e10, e01]
theorem r436 (h : S7 T v D) {rec : Int32 → Int32 → Int32 → Int32 → Int32 → Int32 → Int32 → Int32 → Int32 → Int32 → (Nat → Int32) → (Nat → Int32) → (Nat → Int32) → KV → Option (Int32 × KV)} {x1 x2 x5 x6 x7 x11 x13 : Int32} {a b c : Nat → Int32} {k : Nat} (hkG : k < D.G) (hb : D.ou k ≠ 0 → b k = nI (D.si k)) : J_K_register_436 rec x1 x2 (nI D.mi) x5 x6 x7 x11 x13 (nI k) (nI (D.ou k)) (nI (D.ba k)) a b c v = rec x1 x2 (nI D.mi) x5 x6 x7 x11 (nI 1) x13 (nI (k + 1)) a b c v := by
  have o := h.2.1
  have hG := o.G
  have hU := o.U
  have hR := o.R
  have hm := h.2.2.2
  have hsib := o.si k hkG
  have hgi := o.gi k hkG
  have hba := o.ba k hkG
  have hso := o.so k hkG
  have hou := o.ou k hkG
  refine Eq.trans ?_ (r484 h hkG)
  cases hbk : barksD D k (D.mi + 1)
  · simp (disch := omega) only [J_K_register_436, k22 h hkG, k23 h hkG, hbk, Bool.toNat_false, Nat.not_lt_zero, q_lit, q_neg, q_kS, q_kA, q_kN, q_kI, nI_add, pk_mul, q_sb, q_lt0, q_ck, q_cl, q_sub, q_le, q_lt, q_eq, q_m1e, q_e1m, q_m1l, eq_self, if_true, if_false, e10, e01]
  · have hz := of_decide_eq_true hbk
    have e : D.ou k = 1 := by omega
    have hb := hb (by omega)
    have c1 : ¬ D.ba k ≤ 0 := by omega
    have c2 : ¬ D.mi + 1 - D.si k ≤ 10 := by omega
    simp (disch := omega) only [J_K_register_436, k22 h hkG, k23 h hkG, hbk, e, hb, c1, c2, Bool.toNat_true, Nat.not_lt_zero, q_lit, q_neg, q_kS, q_kA, q_kN, q_kI, nI_add, pk_mul, q_sb, q_lt0, q_ck, q_cl, q_sub, q_le, q_lt, q_eq, q_m1e, q_e1m, q_m1l, eq_self, if_true, if_false, e10, e01]
theorem r379 (h : S7 T v D) (cr : Car D) {rec : Int32 → Int32 → Int32 → Int32 → Int32 → Int32 → Int32 → Int32 → Int32 → Int32 → (Nat → Int32) → (Nat → Int32) → (Nat → Int32) → KV → Option (Int32 × KV)} {x1 x2 x5 x6 x7 x11 x13 : Int32} {a b c : Nat → Int32} {k : Nat} (hkG : k < D.G) {t : Int32} (hb : D.ou k ≠ 0 → b k = nI (D.si k)) : J_K_register_379 rec x1 x2 (nI D.mi) x5 x6 x7 x11 x13 (nI k) (nI (D.ou k)) (nI (ansF D k k 0 D.mi)) (if carr D k = 0 then kN else nI (carr D k - 1)) (nI (D.ba k)) t t a b c v = rec x1 x2 (nI D.mi) x5 x6 x7 x11 (nI 1) x13 (nI (k + 1)) a b c v := by
  have o := h.2.1
  have hG := o.G
  have hU := o.U
  have hR := o.R
  have hm := h.2.2.2
  have hsib := o.si k hkG
  have hgi := o.gi k hkG
  have hba := o.ba k hkG
  have hso := o.so k hkG
  have hou := o.ou k hkG
  refine Eq.trans ?_ (r436 h hkG hb)
  by_cases h0 : carr D k = 0
  · simp (disch := omega) only [J_K_register_379, k37 h hkG, k38 h hkG hkG, h0, q_lit, q_neg, q_kS, q_kA, q_kN, q_kI, nI_add, pk_mul, q_sb, q_lt0, q_ck, q_cl, q_sub, q_le, q_lt, q_eq, q_m1e, q_e1m, q_m1l, eq_self, if_true, if_false, e10, e01]
  · obtain ⟨z1, z2⟩ := carr_ok h0
    have hu : carr D k - 1 < D.U := by omega
    have e : D.ou k = 1 := by
      have := cr.1 _ hu (by omega)
      rw [z2, Nat.add_sub_cancel] at this
      exact this
    have hk1 : ¬ k + 1 = 0 := by omega
    simp (disch := omega) only [J_K_register_379, k37 h hkG, k38 h hkG hkG, h0, q_nK, e, k28 h hu, z2, hk1, Nat.add_sub_cancel, q_lit, q_neg, q_kS, q_kA, q_kN, q_kI, nI_add, pk_mul, q_sb, q_lt0, q_ck, q_cl, q_sub, q_le, q_lt, q_eq, q_m1e, q_e1m, q_m1l, eq_self, if_true, if_false, e10, e01]
theorem r308 (h : S7 T v D) (cr : Car D) {rec : Int32 → Int32 → Int32 → Int32 → Int32 → Int32 → Int32 → Int32 → Int32 → Int32 → (Nat → Int32) → (Nat → Int32) → (Nat → Int32) → KV → Option (Int32 × KV)} {x1 x2 x5 x6 x7 x11 x13 : Int32} {a b c : Nat → Int32} {k : Nat} (hkG : k < D.G) {t0 t1 : Int32} (ht : t0 + t1 = nI (ansF D k k 0 D.mi)) (ha : a k = nI (D.ou k)) (hb : D.ou k ≠ 0 → b k = nI (D.si k)) : J_K_register_308 rec x1 x2 (nI D.mi) x5 x6 x7 x11 x13 (nI k) (nI (D.ou k)) t0 t1 a b c v = rec x1 x2 (nI D.mi) (x5 + nI (D.ou k)) x6 x7 x11 (nI 1) (x13 + nI (ansF D k k 0 D.mi)) (nI (k + 1)) a b c v := by
  have o := h.2.1
  have hG := o.G
  have hU := o.U
  have hR := o.R
  have hm := h.2.2.2
  have hsib := o.si k hkG
  have hgi := o.gi k hkG
  have hba := o.ba k hkG
  have hso := o.so k hkG
  have hou := o.ou k hkG
  refine Eq.trans ?_ (r379 (t := if D.ou k = 0 then kN else nI (D.si k)) h cr hkG hb)
  rcases Nat.le_one_iff_eq_zero_or_eq_one.mp hou with e | e
  · simp (disch := omega) only [J_K_register_308, k29 h hkG, k19 h hkG, k21 h hkG, ht, ha, e, q_lit, q_neg, q_kS, q_kA, q_kN, q_kI, nI_add, pk_mul, q_sb, q_lt0, q_ck, q_cl, q_sub, q_le, q_lt, q_eq, q_m1e, q_e1m, q_m1l, eq_self, if_true, if_false, e10, e01]
  · have hb := hb (by omega)
    simp (disch := omega) only [J_K_register_308, k29 h hkG, k19 h hkG, k21 h hkG, ht, ha, hb, e, q_lit, q_neg, q_kS, q_kA, q_kN, q_kI, nI_add, pk_mul, q_sb, q_lt0, q_ck, q_cl, q_sub, q_le, q_lt, q_eq, q_m1e, q_e1m, q_m1l, eq_self, if_true, if_false, e10, e01]
theorem rg2 (h : S7 T v D) (cr : Car D) {a32 a38 a44 : Nat → Int32} {at9 : Int32} (hI : I1 D D.R a32 a38 a44) : ∀ n k, k ≤ D.G → D.G - k < n → L_K_register_264 n (nI D.G) (nI D.U) (nI D.mi) (nI (smF D.ou k)) (nI 0) (nI 0) at9 (nI 1) (nI (smF (fun g => ansF D g g 0 D.mi) k)) (nI k) a32 a38 a44 v = L_K_register_555 13 (nI D.G) (nI D.U) (nI D.mi) (nI (smF D.ou D.G)) (nI 0) (nI 0) at9 (nI 1) (nI (smF (fun g => ansF D g g 0 D.mi) D.G)) (nI 0) v := by
  have o := h.2.1
  have al := h.2.2.1
  have hG := o.G
  have hU := o.U
  have hR := o.R
  have hm := h.2.2.2
  intro n
  induction n with
  | zero => intro k _ h9; omega
  | succ n ih =>
    intro k hk hn
    by_cases hkG : k < D.G
    · refine Eq.trans ?_ (ih (k + 1) (by omega) (by omega))
      have c1 : ¬ D.G ≤ k := by omega
      obtain ⟨i1, i2, i3⟩ := hI k
      have ha := al.2 k hkG
      obtain ⟨ht, hsi⟩ := tot_out h hkG
      have hsib := o.si k hkG
      have e8 : smF D.ou (k + 1) = smF D.ou k + D.ou k := rfl
      have e9 : smF (fun g => ansF D g g 0 D.mi) (k + 1) = smF (fun g => ansF D g g 0 D.mi) k + ansF D k k 0 D.mi := rfl
      rw [e8, e9, ← nI_add, ← nI_add]
      rcases Nat.le_one_iff_eq_zero_or_eq_one.mp (o.ou k hkG) with e | e
      · rw [if_pos e] at ha ht
        rw [if_pos ha] at i1
        refine Eq.trans ?_ (r308 (rec := L_K_register_264 n) (t0 := a44 k) (t1 := nI 0) (a := a32) (b := a38) (c := a44) h cr hkG (by rw [i3, nI_add, ht]) (by rw [i1, e]) (fun z => absurd e z))
        simp (disch := omega) only [L_K_register_264, B_K_register_264, k20 h hkG, e, c1, q_lit, q_neg, q_kS, q_kA, q_kN, q_kI, nI_add, pk_mul, q_sb, q_lt0, q_ck, q_cl, q_sub, q_le, q_lt, q_eq, q_m1e, q_e1m, q_m1l, eq_self, if_true, if_false, e10, e01]
      · have en : ¬ D.ou k = 0 := by omega
        rw [if_neg en] at ha ht
        have hna : awF D k D.R ≠ 0 := by omega
        rw [if_neg hna] at i1
        have i2 := i2 hna
        rw [show awF D k D.R - 1 = D.si k by omega] at i2
        refine Eq.trans ?_ (r308 (rec := L_K_register_264 n) (t0 := a44 k) (t1 := nI D.mi - a38 k) (a := a32) (b := a38) (c := a44) h cr hkG (by rw [i3, i2, q_sub hsib, nI_add, ht]) (by rw [i1, e]) (fun _ => i2))
        simp (disch := omega) only [L_K_register_264, B_K_register_264, k20 h hkG, e, c1, q_lit, q_neg, q_kS, q_kA, q_kN, q_kI, nI_add, pk_mul, q_sb, q_lt0, q_ck, q_cl, q_sub, q_le, q_lt, q_eq, q_m1e, q_e1m, q_m1l, eq_self, if_true, if_false, e10, e01]
    · have : k = D.G := by omega
      subst this
      show B_K_register_264 _ (nI D.G) _ _ _ _ _ _ _ _ (nI D.G) _ _ _ v = _
      unfold B_K_register_264
      rw [if_pos (show nI D.G ≤ nI D.G by rw [q_le (by omega) (by omega)]; omega)]
      rfl
end
