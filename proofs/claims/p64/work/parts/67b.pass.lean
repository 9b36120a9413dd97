/-! passes() is true: its end -/
theorem passN_1 (D : Dn) : passN D 1 = passD D := rfl
section
variable {T : Nat} {v : KV} {D : Dn} {n : Nat} {Hs : Nat → Dn} {a230 a236 : Nat → Int32}
theorem ps6 (h : S8 T v D n Hs) (hm1 : D.mi + 1 ≤ 720) (h230 : ∀ g, g < D.U → a230 g = nI (newWe D g)) (h236 : ∀ g, g < D.G → a236 g = nI (skD D g)) : ∃ v2 n2 Hs2, J_K_passes_444 (stV D) (nI 1) (nI D.G) (nI (D.no + smF (nsD D (D.mi + 1)) D.G)) (nI (D.pu + smF (drp D) D.U)) (if (D.mi + 1) % 60 = 0 then nI 1 else nI 0) a230 a236 v = some (1, v2) ∧ S8 T v2 D n2 Hs2 := by
  have h7 := h.1.1
  have o := h7.2.1
  have hG := o.G
  have hU := o.U
  have hm := h7.2.2.2
  have hco := o.co
  have hno0 := o.no
  have hpu0 := o.pu
  have hli0 := o.li
  have hns := ns_sm o (D.mi + 1) (n := D.G) (Nat.le_refl _)
  have hdr := drp_sm D D.U
  obtain ⟨v2, e4, h4⟩ := mu4 h (c := 1) (by omega) (by omega) hm1
  rw [passN_1] at e4 h4
  have hmo : D.co ≤ (passD D).co := co_mono D 1
  rw [q_sub hmo] at e4
  have h2 := h4.1.1
  have hli : (passD D).li = D.li := passD_0 D (by decide) (by decide) (by decide) (by decide)
  have hGe : (passD D).G = D.G := passD_0 D (by decide) (by decide) (by decide) (by decide)
  have hUe : (passD D).U = D.U := passD_0 D (by decide) (by decide) (by decide) (by decide)
  have e8 : F_K_call__ v (nI 4) (nI 1) = some (nI ((passD D).co - D.co), v2) := e4
  have c5 := ps3 (x2 := stV D) (a230 := a230) (a236 := a236) h2 hUe o h230 13 0 (Nat.zero_le _) (by omega)
  have c6 := ps4 (x2 := stV D) (a236 := a236) (E := D) h2 hGe o h236 11 0 (Nat.zero_le _) (by omega)
  obtain ⟨q, hn8, _⟩ := h.2.1
  obtain ⟨v3, c7, h3⟩ := ps5 h4 (keepN_pos n) (keepH_last hn8 Hs D)
  refine ⟨v3, _, _, Eq.trans ?_ (c5.trans (c6.trans c7)), h3⟩
  have hco2 := passD_co D
  have hno2 := passD_no D
  have hpu2 := passD_pu D
  by_cases z : (D.mi + 1) % 60 = 0
  · rw [if_pos z] at hco2 hno2
    rw [if_pos z]
    by_cases w : D.no + smF (nsD D (D.mi + 1)) D.G ≤ D.li
    · rw [if_pos w] at hco2
      rw [hco2, Nat.sub_self] at e8
      simp (disch := omega) only [J_K_passes_444, J_K_passes_476, J_K_passes_494, e8, g_noiseLimit h2, hli, w, g_noise h2, hno2, g_puddle h2, hpu2, q_lit, q_neg, q_kS, q_kA, q_kN, q_kI, nI_add, pk_mul, q_sb, q_lt0, q_ck, q_cl, q_sub, q_le, q_lt, q_eq, q_m1e, q_e1m, q_m1l, eq_self, if_true, if_false, e10, e01, Nat.not_lt_zero, q_kNl, q_nK, q_n1, q_01]
    · rw [if_neg w] at hco2
      rw [hco2, Nat.add_sub_cancel_left] at e8
      simp (disch := omega) only [J_K_passes_444, J_K_passes_476, J_K_passes_494, e8, g_noiseLimit h2, hli, w, g_noise h2, hno2, g_puddle h2, hpu2, q_lit, q_neg, q_kS, q_kA, q_kN, q_kI, nI_add, pk_mul, q_sb, q_lt0, q_ck, q_cl, q_sub, q_le, q_lt, q_eq, q_m1e, q_e1m, q_m1l, eq_self, if_true, if_false, e10, e01, Nat.not_lt_zero, q_kNl, q_nK, q_n1, q_01]
  · rw [if_neg z] at hco2 hno2
    rw [if_neg z]
    rw [hco2, Nat.sub_self] at e8
    simp (disch := omega) only [J_K_passes_444, J_K_passes_476, J_K_passes_494, e8, g_noise h2, hno2, g_puddle h2, hpu2, q_lit, q_neg, q_kS, q_kA, q_kN, q_kI, nI_add, pk_mul, q_sb, q_lt0, q_ck, q_cl, q_sub, q_le, q_lt, q_eq, q_m1e, q_e1m, q_m1l, eq_self, if_true, if_false, e10, e01, Nat.not_lt_zero, q_kNl, q_nK, q_n1, q_01]
theorem ps7 (h : S8 T v D n Hs) (hm1 : D.mi + 1 ≤ 720) : ∃ v2 n2 Hs2, J_K_passes_208 (stV D) (nI D.mi) (nI 1) v = some (1, v2) ∧ S8 T v2 D n2 Hs2 := by
  have h7 := h.1.1
  have o := h7.2.1
  have hG := o.G
  have hU := o.U
  obtain ⟨b, hb, eb⟩ := ps1 (x2 := stV D) (x8 := nI 1) (x10 := nI D.G) (x11 := nI D.no) (a236 := fun _ => 0) h7 13 0 (fun _ => 0) (Nat.zero_le _) (by omega) (fun g hg => absurd hg (Nat.not_lt_zero g))
  obtain ⟨b2, hb2, eb2⟩ := ps2 (x2 := stV D) (x8 := nI 1) (x12 := nI (D.pu + smF (drp D) D.U)) (a230 := b) h7 11 0 (fun _ => 0) (Nat.zero_le _) (by omega) (fun g hg => absurd hg (Nat.not_lt_zero g))
  obtain ⟨v2, n2, H2, e3, h3⟩ := ps6 h hm1 hb hb2
  refine ⟨v2, n2, H2, ?_, h3⟩
  unfold J_K_passes_208
  rw [g_guestCount h7, q_sb, g_noise h7, q_sb, g_puddle h7, q_sb]
  exact eb.trans (eb2.trans e3)
theorem ps8 (h : S8 T v D n Hs) {c : Nat} (h1 : 1 ≤ c) (h2 : c ≤ 100) : ∃ v2 n2 Hs2, J_K_passes_101 (stV D) (nI D.mi) (nI c) (nI (passN D c).co) (nI D.co) (nI 1) v = some (1, v2) ∧ S8 T v2 D n2 Hs2 := by
  have h7 := h.1.1
  have hm := h7.2.2.2
  have hco := h7.2.1.co
  by_cases hc : D.mi + c ≤ 720
  · obtain ⟨v2, e4, h4⟩ := mu4 h h1 (by omega) hc
    have h27 := h4.1.1
    have hmo := co_mono D c
    have hcb := h27.2.1.co
    rw [passN_mi] at hcb
    obtain ⟨v3, e8, h8, _⟩ := mu8 (xa := nI 0) h4 (keepN_pos n)
    obtain ⟨q, hn8, _⟩ := h.2.1
    rw [keepH_last hn8] at h8
    obtain ⟨v5, n5, H5, e5, h5⟩ := ps7 h8 (by omega)
    refine ⟨v5, n5, H5, Eq.trans ?_ e5, h5⟩
    have hrg : F_K_register v2 = some (nI 1, v2) := register_of h27 h4.1.2
    have hk9 : keepN n ≤ 8 := by unfold keepN; split <;> omega
    simp (disch := omega) only [J_K_passes_101, e4, hc, g_complaints h27, g_minute h27, passN_mi, hrg, e8, q_lit, q_neg, q_kS, q_kA, q_kN, q_kI, nI_add, pk_mul, q_sb, q_lt0, q_ck, q_cl, q_sub, q_le, q_lt, q_eq, q_m1e, q_e1m, q_m1l, eq_self, if_true, if_false, e10, e01, Nat.not_lt_zero, q_kNl, q_nK, q_n1, q_01]
  · have e4 := mu4f h h1 (by omega) (by omega)
    have hst := state_of h7
    refine ⟨v, n, Hs, ?_, h⟩
    simp (disch := omega) only [J_K_passes_101, e4, hc, hst, lgc_self, q_lit, q_neg, q_kS, q_kA, q_kN, q_kI, nI_add, pk_mul, q_sb, q_lt0, q_ck, q_cl, q_sub, q_le, q_lt, q_eq, q_m1e, q_e1m, q_m1l, eq_self, if_true, if_false, e10, e01, Nat.not_lt_zero, q_kNl, q_nK, q_n1, q_01]
theorem passes_of (h : S8 T v D n Hs) (p1 : Int32) : ∃ v2 n2 Hs2, F_K_passes v p1 = some (1, v2) ∧ S8 T v2 D n2 Hs2 := by
  have h7 := h.1.1
  have hm := h7.2.2.2
  have hco := h7.2.1.co
  obtain ⟨m, hm9, em⟩ := and_le p1 (c := 255) (by omega)
  have em : p1 &&& 255 = nI m := em
  have e100 : nI m - nI m / 100 * 100 = nI (m % 100) := q_mod (n := 100) (by omega) (by omega) (by omega)
  have hlt := Nat.mod_lt m (show 0 < 100 by omega)
  have ec : (1 + ((p1 &&& 255) - (p1 &&& 255) / 100 * 100)) = nI (1 + m % 100) := by
    rw [em, e100]
    exact nI_add 1 (m % 100)
  obtain ⟨v2, n2, H2, e2, h2⟩ := ps8 h (c := 1 + m % 100) (by omega) (by omega)
  refine ⟨v2, n2, H2, Eq.trans ?_ e2, h2⟩
  have hmo := co_mono D (1 + m % 100)
  have hcb : (passN D (1 + m % 100)).co ≤ 1000000 := by
    have := fun k => passN_mi D k
    have key : ∀ k, (passN D k).co ≤ D.co + k := by
      intro k
      induction k with
      | zero => exact Nat.le_refl _
      | succ k ih =>
        show (passD (passN D k)).co ≤ _
        rw [passD_co]
        split
        · split <;> omega
        · omega
    have := key (1 + m % 100)
    omega
  have c1 : ¬ (passN D (1 + m % 100)).co < D.co := by omega
  have k0 : F_K_call__ v (nI 41) (nI 0) = some (nI D.co, v) := k41 h7 (n := 0) (by omega)
  have k1 := k41 h7 (n := 1 + m % 100) (by omega)
  have kb := k41b h7
  have r0 : F_K_call__ v (nI 4) (nI 0) = some (kA, v) := mu4r h (c := 0) (Or.inl (by omega)) (by omega)
  have r1 : F_K_call__ v (nI 4) (nI 241) = some (kA, v) := mu4r h (c := 241) (Or.inr (by omega)) (by omega)
  unfold F_K_passes
  rw [ec, state_of h7, q_sb]
  dsimp only
  rw [g_minute h7, q_sb, show F_K_call__ v 41 (nI (1 + m % 100)) = _ from k1, q_sb]
  dsimp only
  rw [g_complaints h7, q_sb, if_neg (show ¬ nI (passN D (1 + m % 100)).co < nI D.co by rw [q_lt (by omega) (by omega)]; exact c1), show F_K_call__ v 41 0 = _ from k0, q_sb]
  dsimp only
  rw [if_pos rfl, show F_K_call__ v 41 241 = _ from kb, q_sb]
  dsimp only
  rw [if_pos (show kA = -103 from rfl), show F_K_call__ v 4 0 = _ from r0, q_sb]
  dsimp only
  rw [if_pos (show kA = -103 from rfl), show F_K_call__ v 4 241 = _ from r1, q_sb]
  dsimp only
  rw [if_pos (show kA = -103 from rfl)]
  rfl
end
