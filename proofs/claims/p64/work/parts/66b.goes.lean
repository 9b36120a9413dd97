/-! goes() is true -/
theorem keepH_last {n : Nat} (hn : n ≤ 8) (Hs : Nat → Dn) (D : Dn) : keepH Hs n D (keepN n - 1) = D := by
  unfold keepH keepN
  by_cases c : n = 8
  · rw [if_pos c, if_pos c, if_neg (by omega)]
  · rw [if_neg c, if_neg c, if_neg (by omega)]
theorem keepN_pos (n : Nat) : 0 < keepN n := by unfold keepN; split <;> omega
theorem smF_up {f f' : Nat → Nat} {g : Nat} (h : ∀ i, i ≠ g → f' i = f i) : ∀ n, g < n → smF f' n + f g = smF f n + f' g := by
  intro n
  induction n with
  | zero => intro hg; omega
  | succ n ih =>
    intro hg
    by_cases e : g = n
    · subst e
      have h2 : ∀ m, m ≤ g → smF f' m = smF f m := by
        intro m
        induction m with
        | zero => intro _; rfl
        | succ m ih2 =>
          intro hm
          show smF f' m + f' m = smF f m + f m
          rw [ih2 (by omega), h m (by omega)]
      show smF f' g + f' g + f g = smF f g + f g + f' g
      rw [h2 g (Nat.le_refl _)]
      omega
    · have := ih (by omega)
      show smF f' n + f' n + f g = smF f n + f n + f' g
      rw [h n (fun z => e z.symm)]
      omega
theorem q_n1 : (nI 1 = nI 0) = False := eq_false (by decide)
theorem q_01 : (nI 0 = nI 1) = False := eq_false (by decide)
section
variable {T : Nat} {v : KV} {D : Dn} {n : Nat} {Hs : Nat → Dn} {rec : Int64 → Int32 → Int32 → KV → Option (Int32 × KV)} {x1 : Int64}
theorem yawn_0 {D : Dn} {R : Nat} (hR : D.R = R + 1) (he : D.ew R = D.mi) : yawnD D = 0 := by
  unfold yawnD latD
  rw [hR, if_neg (Nat.succ_ne_zero R), Nat.add_sub_cancel, he, Nat.sub_self]
  rfl
theorem g536 (h : S8 T v D n Hs) (hn : 0 < n) {R k : Nat} (hR : D.R = R + 1) (he : D.ew R = D.mi) (hg : D.eg R = k) : ∃ v2, J_K_goes_536 rec x1 (nI 1) (nI k) (nI R) v = rec x1 (nI 1) (nI (k + 1)) v2 ∧ S8 T v2 (Hs (n - 1)) (n - 1) Hs := by
  obtain ⟨v2, e8, h8, _⟩ := mu8 (xa := nI 0) h hn
  refine ⟨v2, ?_, h8⟩
  have h7 := h.1.1
  have hlt : R < D.R := by omega
  have hy := yawn_0 hR he
  have hRb := h7.2.1.R
  have hm := h7.2.2.2
  have hGb := h7.2.1.G
  have hgb := h7.2.1.eg R hlt
  obtain ⟨q, hn8, _⟩ := h.2.1
  have hrg := register_of h7 h.1.2
  have hrg : F_K_register v = some (nI 1, v) := hrg
  simp (disch := omega) only [J_K_goes_536, J_K_goes_609, g_entryCount h7, k30 h7 hlt, g_minute h7, k31 h7 hlt, g_yawn h7, hrg, e8, hR, he, hg, hy, q_lit, q_neg, q_kS, q_kA, q_kN, q_kI, nI_add, pk_mul, q_sb, q_lt0, q_ck, q_cl, q_sub, q_le, q_lt, q_eq, q_m1e, q_e1m, q_m1l, eq_self, if_true, if_false, e10, e01, Nat.not_lt_zero, q_kNl, q_nK]
theorem carr_leave (cr : Car D) {g : Nat} (ho : D.ou g = 0) : carr (leaveD D g) g = takeD D g := by
  have c2 := car_leave cr ho
  by_cases t : takeD D g = 0
  · rw [t]
    by_cases z : carr (leaveD D g) g = 0
    · exact z
    · obtain ⟨a, b⟩ := carr_ok z
      rw [leave_ca, if_neg (by omega)] at b
      rw [leave_U] at a
      have := cr.1 _ (show carr (leaveD D g) g - 1 < D.U by omega) (by omega)
      rw [b, Nat.add_sub_cancel, ho] at this
      exact absurd this (by decide)
  · obtain ⟨a, b⟩ := take_ca t
    have := carr_of c2 (g := g) (u := takeD D g - 1) (by rw [leave_U]; omega) (by rw [leave_ca, if_pos (by omega)])
    omega
theorem bI_0 : bI 0 = kN := rfl
theorem bI_s (n : Nat) : bI (n + 1) = nI n := rfl
theorem goes_out (h : S8 T v D n Hs) {k : Nat} (hk : k < D.G) (e : D.ou k = 1) : ∃ v2 n2 Hs2, B_K_goes_10 rec x1 (nI 1) (nI k) v = rec x1 (nI 1) (nI (k + 1)) v2 ∧ S8 T v2 D n2 Hs2 := by
  have h7 := h.1.1
  have cr := h.1.2
  have o := h7.2.1
  have hG := o.G
  have hU := o.U
  have hR := o.R
  have hm := h7.2.2.2
  have hti := o.ti
  have htp := tipD_le o hk
  have c1 : ¬ D.G ≤ k := by omega
  have hsm : smF D.ou D.G ≤ 1 * D.G := smF_le fun i hi => o.ou i hi
  have k29' : F_K_call__ v (nI 29) (nI k) = some (bI (carr D k), v) := k29 h7 hk
  have hcl := carr_le D k
  by_cases r : D.R < 60
  · obtain ⟨v2, e3, h3⟩ := mu3 h hk e r
    have h37 := h3.1.1
    have hk2 : k < (retD D k).G := by rw [ret_G]; exact hk
    have hR2 : D.R < (retD D k).R := by rw [ret_R]; omega
    have hou : (retD D k).ou k = 0 := by rw [ret_ou, if_pos rfl]
    have hc2 := carr_in h3.1.2 hou
    have hel : (retD D k).el D.R = 0 := by rw [ret_el, if_pos rfl]
    have hks : smF (retD D k).ou (retD D k).G = smF D.ou D.G - 1 := by
      rw [ret_G]
      have := smF_up (f := D.ou) (f' := (retD D k).ou) (g := k) (fun i hi => by rw [ret_ou, if_neg hi]) D.G hk
      rw [hou, e] at this
      omega
    have hsp : 1 ≤ smF D.ou D.G := by
      have := smF_up (f := D.ou) (f' := (retD D k).ou) (g := k) (fun i hi => by rw [ret_ou, if_neg hi]) D.G hk
      rw [hou, e] at this
      omega
    have hr60 : ¬ D.R = 60 := by omega
    obtain ⟨v3, e5, h5⟩ := g536 (rec := rec) (x1 := x1) (k := k) h3 (keepN_pos n) (ret_R D k) (by rw [ret_ew, if_pos rfl, ret_mi]) (by rw [ret_eg, if_pos rfl])
    obtain ⟨q, hn8, _⟩ := h.2.1
    rw [keepH_last hn8] at h5
    have s2 : J_K_goes_202 rec x1 (nI k) (nI D.R) v2 = J_K_goes_536 rec x1 (nI 1) (nI k) (nI D.R) v2 := by
      simp (disch := omega) only [J_K_goes_202, k29 h37 hk2, hc2, k32 h37 hR2, hel, q_n1, q_lit, q_neg, q_kS, q_kA, q_kN, q_kI, nI_add, pk_mul, q_sb, q_lt0, q_ck, q_cl, q_sub, q_le, q_lt, q_eq, q_m1e, q_e1m, q_m1l, eq_self, if_true, if_false, e10, e01, Nat.not_lt_zero, q_kNl, q_nK]
    have s1 : J_K_goes_103 rec x1 (nI k) (nI D.R) (nI (smF D.ou D.G)) (nI D.ti) (nI (tipD D k)) (bI (carr D k)) (nI 1) v = J_K_goes_202 rec x1 (nI k) (nI D.R) v2 := by
      by_cases c0 : carr D k = 0
      · simp (disch := omega) only [J_K_goes_103, e3, hr60, ret_ti, g_tips h37, k20 h37 hk2, hou, g_keys h37, hks, c0, bI_0, q_n1, q_lit, q_neg, q_kS, q_kA, q_kN, q_kI, nI_add, pk_mul, q_sb, q_lt0, q_ck, q_cl, q_sub, q_le, q_lt, q_eq, q_m1e, q_e1m, q_m1l, eq_self, if_true, if_false, e10, e01, Nat.not_lt_zero, q_kNl, q_nK]
      · obtain ⟨u, hu⟩ : ∃ u, carr D k = u + 1 := ⟨carr D k - 1, by omega⟩
        have hu2 : u < (retD D k).U := by rw [ret_U]; omega
        have hca2 : (retD D k).ca u = 0 := by rw [ret_ca, if_pos hu]
        simp (disch := omega) only [J_K_goes_103, e3, hr60, ret_ti, g_tips h37, k20 h37 hk2, hou, g_keys h37, hks, hu, bI_s, k26 h37 hu2, hca2, q_n1, q_lit, q_neg, q_kS, q_kA, q_kN, q_kI, nI_add, pk_mul, q_sb, q_lt0, q_ck, q_cl, q_sub, q_le, q_lt, q_eq, q_m1e, q_e1m, q_m1l, eq_self, if_true, if_false, e10, e01, Nat.not_lt_zero, q_kNl, q_nK]
    refine ⟨v3, _, _, Eq.trans ?_ (s1.trans (s2.trans e5)), h5⟩
    simp (disch := omega) only [B_K_goes_10, g_guestCount h7, g_entryCount h7, g_keys h7, g_tips h7, k20 h7 hk, k40 h7 hk, k29', mu2o h hk e, k39 h7 hk, e, c1, q_n1, q_lit, q_neg, q_kS, q_kA, q_kN, q_kI, nI_add, pk_mul, q_sb, q_lt0, q_ck, q_cl, q_sub, q_le, q_lt, q_eq, q_m1e, q_e1m, q_m1l, eq_self, if_true, if_false, e10, e01, Nat.not_lt_zero, q_kNl, q_nK]
  · have r60 : D.R = 60 := by omega
    have s1 : J_K_goes_103 rec x1 (nI k) (nI D.R) (nI (smF D.ou D.G)) (nI D.ti) (nI (tipD D k)) (bI (carr D k)) (nI 1) v = rec x1 (nI 1) (nI (k + 1)) v := by
      simp (disch := omega) only [J_K_goes_103, J_K_goes_609, mu3f h hk e r60, r60, q_n1, q_lit, q_neg, q_kS, q_kA, q_kN, q_kI, nI_add, pk_mul, q_sb, q_lt0, q_ck, q_cl, q_sub, q_le, q_lt, q_eq, q_m1e, q_e1m, q_m1l, eq_self, if_true, if_false, e10, e01, Nat.not_lt_zero, q_kNl, q_nK]
    refine ⟨v, n, Hs, Eq.trans ?_ s1, h⟩
    simp (disch := omega) only [B_K_goes_10, g_guestCount h7, g_entryCount h7, g_keys h7, g_tips h7, k20 h7 hk, k40 h7 hk, k29', mu2o h hk e, k39 h7 hk, e, c1, q_n1, q_lit, q_neg, q_kS, q_kA, q_kN, q_kI, nI_add, pk_mul, q_sb, q_lt0, q_ck, q_cl, q_sub, q_le, q_lt, q_eq, q_m1e, q_e1m, q_m1l, eq_self, if_true, if_false, e10, e01, Nat.not_lt_zero, q_kNl, q_nK]
theorem gb9 (h : S7 T v D) {x5 x6 x7 x8 : Int32} {g : Nat} (hg : g < D.G) : L_K_goes_257 rec 13 x1 (nI g) x5 x6 x7 x8 kN (nI D.U - nI 1) v = J_K_goes_372 rec x1 (nI g) x5 x6 x7 x8 (bI (takeD D g)) v := by
  have hU := h.2.1.U
  rw [show nI D.U - nI 1 = nz D.U from nz_q D.U]
  by_cases hr : D.ra = 0
  · have ht : takeD D g = 0 := if_pos hr
    rw [ht, bI_0]
    show B_K_goes_257 _ _ x1 (nI g) x5 x6 x7 x8 kN (nz D.U) v = _
    unfold B_K_goes_257
    split
    · rfl
    · rw [g_rain h, q_sb, hr]
      exact if_pos (show nI 0 ≤ (0 : Int32) by decide)
  · exact gbest h hr hg D.U 13 0 (Nat.le_refl _) (by omega) (Or.inl ⟨rfl, fun u h1 h2 => by omega⟩)
theorem goes_in (h : S8 T v D n Hs) {k : Nat} (hk : k < D.G) (e : D.ou k = 0) : ∃ v2 n2 Hs2, B_K_goes_10 rec x1 (nI 1) (nI k) v = rec x1 (nI 1) (nI (k + 1)) v2 ∧ S8 T v2 D n2 Hs2 := by
  have h7 := h.1.1
  have cr := h.1.2
  have o := h7.2.1
  have hG := o.G
  have hU := o.U
  have hR := o.R
  have hm := h7.2.2.2
  have hti := o.ti
  have c1 : ¬ D.G ≤ k := by omega
  have hsm : smF D.ou D.G ≤ 1 * D.G := smF_le fun i hi => o.ou i hi
  have k39' : F_K_call__ v (nI 39) (nI k) = some (bI (takeD D k), v) := by rw [k39 h7 hk, if_pos e]; rfl
  have htl := takeD_le o k
  have s0 : ∀ x7 : Int32, J_K_goes_372 rec x1 (nI k) (nI D.R) (nI (smF D.ou D.G)) x7 (bI (takeD D k)) (bI (takeD D k)) v = J_K_goes_408 rec x1 (nI k) (nI D.R) (nI (smF D.ou D.G)) x7 (bI (takeD D k)) (nI 1) v := fun x7 => by
    simp (disch := omega) only [J_K_goes_372, mu3o h hk e, mu5o h hk e, q_n1, q_01, q_lit, q_neg, q_kS, q_kA, q_kN, q_kI, nI_add, pk_mul, q_sb, q_lt0, q_ck, q_cl, q_le, q_lt, q_eq, q_m1e, q_e1m, q_m1l, eq_self, if_true, if_false, e10, e01, Nat.not_lt_zero, q_kNl, q_nK]
  by_cases r : D.R < 60
  · obtain ⟨v2, e3, h3⟩ := mu2 h hk e r
    have h37 := h3.1.1
    have hk2 : k < (leaveD D k).G := by rw [leave_G]; exact hk
    have hR2 : D.R < (leaveD D k).R := by rw [leave_R]; omega
    have hou : (leaveD D k).ou k = 1 := by rw [leave_ou, if_pos rfl]
    have hsi : (leaveD D k).si k = D.mi := by rw [leave_si, if_pos rfl]
    have hso : (leaveD D k).so k = 0 := by rw [leave_so, if_pos rfl]
    have hel : (leaveD D k).el D.R = 1 := by rw [leave_el, if_pos rfl]
    have k29' : F_K_call__ v2 (nI 29) (nI k) = some (bI (takeD D k), v2) := by rw [k29 h37 hk2, carr_leave cr e]; rfl
    have hks : smF (leaveD D k).ou D.G = smF D.ou D.G + 1 := by
      have := smF_up (f := D.ou) (f' := (leaveD D k).ou) (g := k) (fun i hi => by rw [leave_ou, if_neg hi]) D.G hk
      rw [hou, e] at this
      omega
    have hr60 : ¬ D.R = 60 := by omega
    obtain ⟨v3, e5, h5⟩ := g536 (rec := rec) (x1 := x1) (k := k) h3 (keepN_pos n) (leave_R D k) (by rw [leave_ew, if_pos rfl, leave_mi]) (by rw [leave_eg, if_pos rfl])
    obtain ⟨q, hn8, _⟩ := h.2.1
    rw [keepH_last hn8] at h5
    have s1 : J_K_goes_408 rec x1 (nI k) (nI D.R) (nI (smF D.ou D.G)) (nI D.ti) (bI (takeD D k)) (nI 1) v = J_K_goes_536 rec x1 (nI 1) (nI k) (nI D.R) v2 := by
      simp (disch := omega) only [J_K_goes_408, e3, hr60, hks, k20 h37 hk2, hou, k21 h37 hk2, hsi, g_minute h37, leave_mi, k29', k22 h37 hk2, hso, g_tips h37, leave_ti, k32 h37 hR2, hel, q_n1, q_01, q_lit, q_neg, q_kS, q_kA, q_kN, q_kI, nI_add, pk_mul, q_sb, q_lt0, q_ck, q_cl, q_le, q_lt, q_eq, q_m1e, q_e1m, q_m1l, eq_self, if_true, if_false, e10, e01, Nat.not_lt_zero, q_kNl, q_nK]
    refine ⟨v3, _, _, Eq.trans ?_ ((s0 _).trans (s1.trans e5)), h5⟩
    simp (disch := omega) only [B_K_goes_10, gb9 h7 hk, g_guestCount h7, g_umbrellaCount h7, g_entryCount h7, g_keys h7, g_tips h7, k20 h7 hk, k39', e, c1, q_n1, q_01, q_lit, q_neg, q_kS, q_kA, q_kN, q_kI, nI_add, pk_mul, q_sb, q_lt0, q_ck, q_cl, q_le, q_lt, q_eq, q_m1e, q_e1m, q_m1l, eq_self, if_true, if_false, e10, e01, Nat.not_lt_zero, q_kNl, q_nK]
  · have r60 : D.R = 60 := by omega
    have s1 : J_K_goes_408 rec x1 (nI k) (nI D.R) (nI (smF D.ou D.G)) (nI D.ti) (bI (takeD D k)) (nI 1) v = rec x1 (nI 1) (nI (k + 1)) v := by
      simp (disch := omega) only [J_K_goes_408, J_K_goes_609, mu2f h hk e r60, r60, q_n1, q_01, q_lit, q_neg, q_kS, q_kA, q_kN, q_kI, nI_add, pk_mul, q_sb, q_lt0, q_ck, q_cl, q_le, q_lt, q_eq, q_m1e, q_e1m, q_m1l, eq_self, if_true, if_false, e10, e01, Nat.not_lt_zero, q_kNl, q_nK]
    refine ⟨v, n, Hs, Eq.trans ?_ ((s0 _).trans s1), h⟩
    simp (disch := omega) only [B_K_goes_10, gb9 h7 hk, g_guestCount h7, g_umbrellaCount h7, g_entryCount h7, g_keys h7, g_tips h7, k20 h7 hk, k39', e, c1, q_n1, q_01, q_lit, q_neg, q_kS, q_kA, q_kN, q_kI, nI_add, pk_mul, q_sb, q_lt0, q_ck, q_cl, q_le, q_lt, q_eq, q_m1e, q_e1m, q_m1l, eq_self, if_true, if_false, e10, e01, Nat.not_lt_zero, q_kNl, q_nK]
theorem goes_lp : ∀ m k v n Hs, k ≤ D.G → D.G - k < m → S8 T v D n Hs → ∃ v2 n2 Hs2, L_K_goes_10 m x1 (nI 1) (nI k) v = J_K_goes_615 x1 (nI 1) v2 ∧ S8 T v2 D n2 Hs2 := by
  intro m
  induction m with
  | zero => intro k v n Hs _ h9; omega
  | succ m ih =>
    intro k v n Hs hk hm h
    have hG := h.1.1.2.1.G
    by_cases hkG : k < D.G
    · have st : ∃ v2 n2 Hs2, B_K_goes_10 (L_K_goes_10 m) x1 (nI 1) (nI k) v = L_K_goes_10 m x1 (nI 1) (nI (k + 1)) v2 ∧ S8 T v2 D n2 Hs2 := by
        rcases Nat.le_one_iff_eq_zero_or_eq_one.mp (h.1.1.2.1.ou k hkG) with e | e
        · exact goes_in h hkG e
        · exact goes_out h hkG e
      obtain ⟨v2, n2, H2, e2, h2⟩ := st
      obtain ⟨v3, n3, H3, e3, h3⟩ := ih (k + 1) v2 n2 H2 (by omega) (by omega) h2
      exact ⟨v3, n3, H3, Eq.trans e2 e3, h3⟩
    · have : k = D.G := by omega
      subst this
      refine ⟨v, n, Hs, ?_, h⟩
      show B_K_goes_10 _ x1 (nI 1) (nI D.G) v = _
      unfold B_K_goes_10
      rw [g_guestCount h.1.1, q_sb, if_pos (show nI D.G ≤ nI D.G by rw [q_le (by omega) (by omega)]; omega)]
theorem goes_of (h : S8 T v D n Hs) : ∃ v2 n2 Hs2, F_K_goes v = some (1, v2) ∧ S8 T v2 D n2 Hs2 := by
  have hG := h.1.1.2.1.G
  obtain ⟨v2, n2, H2, e2, h2⟩ := goes_lp (x1 := stV D) 11 0 v n Hs (Nat.zero_le _) (by omega) h
  refine ⟨v2, n2, H2, ?_, h2⟩
  unfold F_K_goes
  rw [state_of h.1.1, q_sb]
  refine Eq.trans e2 ?_
  unfold J_K_goes_615
  rw [if_neg (show ¬ nI 1 = (0 : Int32) by decide), state_of h2.1.1, q_sb]
  exact if_pos (lgc_self _)
end
