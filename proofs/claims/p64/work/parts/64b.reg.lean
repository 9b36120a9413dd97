/-! register() is true: umbrellas, and the end -/
theorem cntF_s (p : Nat → Bool) (n : Nat) : cntF p (n + 1) = cntF p n + (if p n then 1 else 0) := rfl
theorem fd_nn {a b : UInt64} (ha : FP.Core.val64 a ≠ .nan) (hb : fd_fin (FP.Core.val64 b) = true) : FP.Core.val64 (FP.ddiv a b) ≠ .nan := by
  show FP.Core.val64 (FP.Core.ddiv a b) ≠ .nan
  rw [FP.Core.val64_ddiv]
  revert ha hb
  generalize FP.Core.val64 a = x
  generalize FP.Core.val64 b = y
  intro ha hb
  cases y with
  | nan => exact absurd hb (by decide)
  | inf s => exact absurd hb (by simp [fd_fin])
  | fin t d r =>
    have hd : ¬ d = 0 := by
      intro h
      subst h
      exact absurd hb (by simp [fd_fin])
    cases x with
    | nan => exact absurd rfl ha
    | inf s => exact FP.Core.Datum.noConfusion
    | fin s c q =>
      show (if d = 0 then (if c = 0 then FP.Core.Datum.nan else .inf (s != t)) else FP.Core.roundRatio _ (s != t) c d (q - r)) ≠ .nan
      rw [if_neg hd]
      exact FP.Core.roundRatio_ne_nan _ _ _ _ _
theorem fd_eq {a b : UInt64} (ha : FP.Core.val64 a ≠ .nan) (hb : fd_fin (FP.Core.val64 b) = true) : Op.cmpValue (FP.dcmp (FP.ddiv a b) (FP.ddiv a b)) .l = 0 := by
  rw [show FP.dcmp (FP.ddiv a b) (FP.ddiv a b) = some .eq from FP.Core.dcmp_self (fd_nn ha hb)]
  rfl
theorem fd_00 : Op.cmpValue (FP.dcmp FP.dconst0 FP.dconst0) .l = 0 := by decide +kernel
theorem ff_00 : Op.cmpValue (FP.fcmp FP.fconst0 FP.fconst0) .l = 0 := by decide +kernel
theorem ff_eq : ∀ a, a < 11 → ∀ b, b < 11 → b ≠ 0 → Op.cmpValue (FP.fcmp (FP.fdiv (FP.i2f (nI a)) (FP.i2f (nI b))) (FP.fdiv (FP.i2f (nI a)) (FP.i2f (nI b)))) .l = 0 := by decide +kernel
section
variable {T : Nat} {v : KV} {D : Dn}
theorem r682 (h : S7 T v D) {rec : Int32 → Int32 → Int32 → Int32 → Int32 → Int32 → Int32 → Int32 → Int32 → Int32 → KV → Option (Int32 × KV)} {x1 x2 x4 x5 x6 x7 x11 x13 : Int32} {k : Nat} (hk : k < D.U) : J_K_register_682 rec x1 x2 x4 x5 x6 x7 x11 x13 (nI k) (if D.ca k = 0 then kN else nI (D.ca k - 1)) (nI (D.we k)) v = rec x1 x2 x4 x5 x6 x7 x11 (nI 1) x13 (nI (k + 1)) v := by
  have o := h.2.1
  have hG := o.G
  have hU := o.U
  have hR := o.R
  have hm := h.2.2.2
  have hwe := o.we k hk
  have hca := o.ca k hk
  by_cases e : D.ca k = 0
  · by_cases w : D.we k ≤ 50
    · have w2 : ¬ 50 < D.we k := by omega
      simp (disch := omega) only [J_K_register_682, J_K_register_707, k27 h hk, e, w, w2, and_self, q_kNe, q_lit, q_neg, q_kS, q_kA, q_kN, q_kI, nI_add, pk_mul, q_sb, q_lt0, q_ck, q_cl, q_sub, q_le, q_lt, q_eq, q_m1e, q_e1m, q_m1l, eq_self, if_true, if_false, e10, e01]
    · have w2 : 50 < D.we k := by omega
      simp (disch := omega) only [J_K_register_682, J_K_register_707, k27 h hk, e, w, w2, and_false, q_kNe, q_lit, q_neg, q_kS, q_kA, q_kN, q_kI, nI_add, pk_mul, q_sb, q_lt0, q_ck, q_cl, q_sub, q_le, q_lt, q_eq, q_m1e, q_e1m, q_m1l, eq_self, if_true, if_false, e10, e01]
  · simp (disch := omega) only [J_K_register_682, J_K_register_707, k27 h hk, e, false_and, Nat.zero_le, q_lit, q_neg, q_kS, q_kA, q_kN, q_kI, nI_add, pk_mul, q_sb, q_lt0, q_ck, q_cl, q_sub, q_le, q_lt, q_eq, q_m1e, q_e1m, q_m1l, eq_self, if_true, if_false, e10, e01]
theorem r620 (h : S7 T v D) (cr : Car D) {rec : Int32 → Int32 → Int32 → Int32 → Int32 → Int32 → Int32 → Int32 → Int32 → Int32 → KV → Option (Int32 × KV)} {x1 x2 x4 x5 x6 x7 x11 x13 : Int32} {k : Nat} (hk : k < D.U) : J_K_register_620 rec x1 x2 x4 x5 x6 x7 x11 x13 (nI k) (if D.ca k = 0 then kN else nI (D.ca k - 1)) (nI (D.we k)) v = rec x1 x2 x4 x5 x6 x7 x11 (nI 1) x13 (nI (k + 1)) v := by
  have o := h.2.1
  have hG := o.G
  have hU := o.U
  have hR := o.R
  have hm := h.2.2.2
  have hwe := o.we k hk
  have hca := o.ca k hk
  refine Eq.trans ?_ (r682 h hk)
  have w1 : ¬ 100 ≤ D.we k := by omega
  by_cases e : D.ca k = 0
  · simp (disch := omega) only [J_K_register_620, J_K_register_649, J_K_register_661, k26 h hk, e, w1, q_kNl, Nat.not_lt_zero, q_lit, q_neg, q_kS, q_kA, q_kN, q_kI, nI_add, pk_mul, q_sb, q_lt0, q_ck, q_cl, q_sub, q_le, q_lt, q_eq, q_m1e, q_e1m, q_m1l, eq_self, if_true, if_false, e10, e01]
  · have hg : D.ca k - 1 < D.G := by omega
    have hc := carr_of cr (g := D.ca k - 1) hk (by omega)
    have hk1 : ¬ k + 1 = 0 := by omega
    simp (disch := omega) only [J_K_register_620, J_K_register_649, J_K_register_661, k26 h hk, e, w1, q_nK, k29 h hg, hc, hk1, Nat.add_sub_cancel, Nat.not_lt_zero, q_lit, q_neg, q_kS, q_kA, q_kN, q_kI, nI_add, pk_mul, q_sb, q_lt0, q_ck, q_cl, q_sub, q_le, q_lt, q_eq, q_m1e, q_e1m, q_m1l, eq_self, if_true, if_false, e10, e01]
theorem rg3 (h : S7 T v D) (cr : Car D) {x4 x5 at9 x13 : Int32} : ∀ n k, k ≤ D.U → D.U - k < n → L_K_register_555 n (nI D.G) (nI D.U) x4 x5 (nI (cntF (fun u => decide (D.ca u = 0)) k)) (nI (cntF (fun u => decide (D.ca u ≠ 0 ∧ D.ca u ≠ D.ow u + 1)) k)) at9 (nI 1) x13 (nI k) v = J_K_register_723 (nI D.G) x4 x5 (nI (cntF (fun u => decide (D.ca u = 0)) D.U)) (nI (cntF (fun u => decide (D.ca u ≠ 0 ∧ D.ca u ≠ D.ow u + 1)) D.U)) at9 (nI 1) x13 v := by
  have o := h.2.1
  have hG := o.G
  have hU := o.U
  intro n
  induction n with
  | zero => intro k _ h9; omega
  | succ n ih =>
    intro k hkU hn
    by_cases hk : k < D.U
    · refine Eq.trans ?_ (ih (k + 1) (by omega) (by omega))
      have c1 : ¬ D.U ≤ k := by omega
      have hca := o.ca k hk
      have how := o.ow k hk
      by_cases e : D.ca k = 0
      · have e1 : cntF (fun u => decide (D.ca u = 0)) (k + 1) = cntF (fun u => decide (D.ca u = 0)) k + 1 := by rw [cntF_s, if_pos (decide_eq_true e)]
        have e2 : cntF (fun u => decide (D.ca u ≠ 0 ∧ D.ca u ≠ D.ow u + 1)) (k + 1) = cntF (fun u => decide (D.ca u ≠ 0 ∧ D.ca u ≠ D.ow u + 1)) k := by rw [cntF_s, if_neg (by rw [decide_eq_false (fun z => z.1 e)]; decide), Nat.add_zero]
        rw [e1, e2, ← nI_add]
        refine Eq.trans ?_ (r620 (rec := L_K_register_555 n) h cr hk)
        simp (disch := omega) only [L_K_register_555, B_K_register_555, k28 h hk, k25 h hk, k26 h hk, e, c1, q_kNl, q_lit, q_neg, q_kS, q_kA, q_kN, q_kI, nI_add, pk_mul, q_sb, q_lt0, q_ck, q_cl, q_sub, q_le, q_lt, q_eq, q_m1e, q_e1m, q_m1l, eq_self, if_true, if_false, e10, e01]
      · have e1 : cntF (fun u => decide (D.ca u = 0)) (k + 1) = cntF (fun u => decide (D.ca u = 0)) k + 0 := by rw [cntF_s, if_neg (by rw [decide_eq_false e]; decide)]
        by_cases w : D.ca k - 1 = D.ow k
        · have e2 : cntF (fun u => decide (D.ca u ≠ 0 ∧ D.ca u ≠ D.ow u + 1)) (k + 1) = cntF (fun u => decide (D.ca u ≠ 0 ∧ D.ca u ≠ D.ow u + 1)) k := by rw [cntF_s, if_neg (by rw [decide_eq_false (fun z => z.2 (by omega))]; decide), Nat.add_zero]
          rw [e1, e2, ← nI_add]
          refine Eq.trans ?_ (r620 (rec := L_K_register_555 n) h cr hk)
          simp (disch := omega) only [L_K_register_555, B_K_register_555, k28 h hk, k25 h hk, k26 h hk, k24 h hk, e, c1, w, Nat.not_lt_zero, q_lit, q_neg, q_kS, q_kA, q_kN, q_kI, nI_add, pk_mul, q_sb, q_lt0, q_ck, q_cl, q_sub, q_le, q_lt, q_eq, q_m1e, q_e1m, q_m1l, eq_self, if_true, if_false, e10, e01]
        · have e2 : cntF (fun u => decide (D.ca u ≠ 0 ∧ D.ca u ≠ D.ow u + 1)) (k + 1) = cntF (fun u => decide (D.ca u ≠ 0 ∧ D.ca u ≠ D.ow u + 1)) k + 1 := by rw [cntF_s, if_pos (decide_eq_true ⟨e, by omega⟩)]
          rw [e1, e2, ← nI_add, ← nI_add]
          refine Eq.trans ?_ (r620 (rec := L_K_register_555 n) h cr hk)
          simp (disch := omega) only [L_K_register_555, B_K_register_555, k28 h hk, k25 h hk, k26 h hk, k24 h hk, e, c1, w, Nat.not_lt_zero, q_lit, q_neg, q_kS, q_kA, q_kN, q_kI, nI_add, pk_mul, q_sb, q_lt0, q_ck, q_cl, q_sub, q_le, q_lt, q_eq, q_m1e, q_e1m, q_m1l, eq_self, if_true, if_false, e10, e01]
    · have : k = D.U := by omega
      subst this
      show B_K_register_555 _ _ (nI D.U) _ _ _ _ _ _ _ (nI D.U) v = _
      unfold B_K_register_555
      rw [if_pos (show nI D.U ≤ nI D.U by rw [q_le (by omega) (by omega)]; omega)]
theorem mean_of (h : S7 T v D) : F_X8_meanMinutesOut (v.1) (v.2.2.1) (v.2.2.2.1) (v.2.2.2.2.2.1) = some (if D.G = 0 then FP.dconst0 else FP.ddiv (FP.i2d (nI (smF (fun g => ansF D g g 0 D.mi) D.G))) (FP.i2d (nI D.G))) := by
  have m8 := h.1
  have o := h.2.1
  have hG := o.G
  have hm := o.mi
  have hb : ∀ n, n ≤ D.G → smF (fun g => ansF D g g 0 D.mi) n ≤ 960 * n := fun n hn => smF_le fun k hk => Nat.le_trans (ansF_bd o (Nat.zero_le _) k k) hm
  by_cases h0 : D.G = 0
  · rw [if_pos h0]
    simp (disch := omega) only [F_X8_meanMinutesOut, q_lit, m8.G, q_eq, h0, eq_self, if_true]
  · rw [if_neg h0]
    have hs := hb D.G (Nat.le_refl _)
    have hnn := fd_div (fd_num (smF (fun g => ansF D g g 0 D.mi) D.G)) (fd_cnt D.G (by omega) h0)
    have e : F_X8_meanMinutesOut (v.1) (v.2.2.1) (v.2.2.2.1) (v.2.2.2.2.2.1) = L_X8_meanMinutesOut_21 (v.1) (v.2.2.1) (v.2.2.2.1) (v.2.2.2.2.2.1) FU (nI D.G) 0 0 := by
      unfold F_X8_meanMinutesOut
      rw [m8.G, if_neg (show ¬ nI D.G = (0 : Int32) from fun h => h0 ((nI_eq (by omega) (by omega)).mp h))]
    rw [e]
    refine lp_acc (L := fun f k (a : Int32) => L_X8_meanMinutesOut_21 (v.1) (v.2.2.1) (v.2.2.2.1) (v.2.2.2.2.2.1) f (nI D.G) a k) (a := fun n => nI (smF (fun g => ansF D g g 0 D.mi) n)) (U := D.G) (fun f k hk => ?_) (fun f => ?_) FU 0 (Nat.zero_le _) (by unfold FU; omega)
    · have h1 := u_mA m8 o (g := k) (h := k) (f := 0) (e := D.mi) (by omega) (by omega) (Nat.zero_le _) (by omega)
      have c1 : ¬ D.G ≤ k := by omega
      simp (disch := omega) only [L_X8_meanMinutesOut_21, B_X8_meanMinutesOut_21, F_X3_sumOfMinutesAway, q_lit, nI_add, m8.mi, q_le, c1, if_false, h1, q_sb, smF]
    · rw [L_X8_meanMinutesOut_21]
      unfold B_X8_meanMinutesOut_21
      dsimp only
      rw [if_pos (show nI D.G ≤ nI D.G by rw [q_le (by omega) (by omega)]; exact Nat.le_refl _)]
      exact q_cnP hnn
theorem share_of (h : S7 T v D) : F_X8_shareOut (v.1) (v.2.2.1) (v.2.2.2.1) = some (if D.G = 0 then FP.fconst0 else FP.fdiv (FP.i2f (nI (smF D.ou D.G))) (FP.i2f (nI D.G))) := by
  have m8 := h.1
  have o := h.2.1
  have hG := o.G
  by_cases h0 : D.G = 0
  · rw [if_pos h0]
    unfold F_X8_shareOut
    rw [m8.G, h0]
    exact if_pos rfl
  · rw [if_neg h0]
    have ha : smF D.ou D.G ≤ 1 * D.G := smF_le fun k hk => o.ou k hk
    obtain ⟨h1, h2⟩ := ff_all (smF D.ou D.G) (by omega) D.G (by omega) h0
    have hz : ¬ nI D.G = (0 : Int32) := fun h => h0 ((nI_eq (by omega) (by omega)).mp h)
    unfold F_X8_shareOut
    rw [m8.G, if_neg hz, u_away_n m8 o, q_sb]
    exact q_cnP h1
theorem at_lat (D : Dn) : atF D D.R = latD D := by
  unfold latD
  cases hr : D.R with
  | zero => rfl
  | succ n => rfl
theorem rg4 (h : S7 T v D) : J_K_register_723 (nI D.G) (nI D.mi) (nI (smF D.ou D.G)) (nI (cntF (fun u => decide (D.ca u = 0)) D.U)) (nI (cntF (fun u => decide (D.ca u ≠ 0 ∧ D.ca u ≠ D.ow u + 1)) D.U)) (nI (atF D D.R)) (nI 1) (nI (smF (fun g => ansF D g g 0 D.mi) D.G)) v = some (1, v) := by
  have o := h.2.1
  have hG := o.G
  have hU := o.U
  have hR := o.R
  have hm := h.2.2.2
  have hl := latD_le o
  have hy : (if ((nI D.mi - nI (atF D D.R)) / 30) < 9 then ((nI D.mi - nI (atF D D.R)) / 30) else 9) = nI (yawnD D) := by
    rw [at_lat, show (30 : Int32) = nI 30 from rfl, show (9 : Int32) = nI 9 from rfl, q_sub hl, q_div (by omega) (by omega) (by omega), q_min (by omega) (by omega)]
    rfl
  unfold J_K_register_723
  rw [if_neg (show ¬ nI 1 = (0 : Int32) by decide), g_keys h, q_sb, if_pos rfl, g_stand h, q_sb, if_pos rfl, g_borrowed h, q_sb, if_pos rfl, g_yawn h, q_sb, if_pos hy.symm, mean_of h, q_sb]
  by_cases h0 : D.G = 0
  · rw [if_pos h0, if_pos (show nI D.G = (0 : Int32) by rw [h0]; rfl)]
    unfold J_K_register_793
    rw [if_pos fd_00, share_of h, q_sb, if_pos h0, if_pos (show nI D.G = (0 : Int32) by rw [h0]; rfl)]
    exact if_pos ff_00
  · have hz : ¬ nI D.G = (0 : Int32) := fun h => h0 ((nI_eq (by omega) (by omega)).mp h)
    have ha : smF D.ou D.G ≤ 1 * D.G := smF_le fun k hk => o.ou k hk
    obtain ⟨h1, h2⟩ := ff_all (smF D.ou D.G) (by omega) D.G (by omega) h0
    have hnn := fd_div (fd_num (smF (fun g => ansF D g g 0 D.mi) D.G)) (fd_cnt D.G (by omega) h0)
    rw [if_neg h0, if_neg hz, q_cnP hnn]
    unfold J_K_register_793
    rw [if_pos (fd_eq (fd_num _) (fd_cnt D.G (by omega) h0)), share_of h, q_sb, if_neg h0, if_neg hz, q_cnP h1]
    exact if_pos (ff_eq _ (by omega) _ (by omega) h0)
theorem register_of (h : S7 T v D) (cr : Car D) : F_K_register v = some (1, v) := by
  have o := h.2.1
  have hG := o.G
  have hU := o.U
  have hR := o.R
  have hm := h.2.2.2
  have c1 : ¬ 10 < D.G := by omega
  have c2 : ¬ 12 < D.U := by omega
  have c3 : ¬ 60 < D.R := by omega
  have c4 : ¬ 720 < D.mi := by omega
  obtain ⟨b1, b2, b3, hb, eb⟩ := rg1 h 61 0 (fun _ => nI 0) (fun _ => nI 0) (fun _ => nI 0) (Nat.zero_le _) (by omega) (fun g => ⟨rfl, fun z => absurd rfl z, rfl⟩)
  have e2 := rg2 (at9 := nI (atF D D.R)) h cr hb 11 0 (Nat.zero_le _) (by omega)
  have e3 := rg3 (x4 := nI D.mi) (x5 := nI (smF D.ou D.G)) (at9 := nI (atF D D.R)) (x13 := nI (smF (fun g => ansF D g g 0 D.mi) D.G)) h cr 13 0 (Nat.zero_le _) (by omega)
  have e5 := eb.trans (e2.trans (e3.trans (rg4 h)))
  unfold F_K_register
  rw [g_guestCount h, q_sb, g_umbrellaCount h, q_sb, g_entryCount h, q_sb, g_minute h, q_sb, if_neg (show ¬ (10 : Int32) < nI D.G by rw [show (10 : Int32) = nI 10 from rfl, q_lt (by omega) (by omega)]; omega), if_neg (show ¬ (12 : Int32) < nI D.U by rw [show (12 : Int32) = nI 12 from rfl, q_lt (by omega) (by omega)]; omega), if_neg (show ¬ (60 : Int32) < nI D.R by rw [show (60 : Int32) = nI 60 from rfl, q_lt (by omega) (by omega)]; omega), if_neg (show ¬ (720 : Int32) < nI D.mi by rw [show (720 : Int32) = nI 720 from rfl, q_lt (by omega) (by omega)]; omega)]
  rw [show F_K_call__ v 18 (nI D.G) = some (kI, v) from k18b h, q_sb]
  dsimp only
  rw [if_pos (show kI = -104 from rfl), show F_K_call__ v 25 (nI D.U) = some (kI, v) from k25b h, q_sb]
  dsimp only
  rw [if_pos (show kI = -104 from rfl), show F_K_call__ v 30 (nI D.R) = some (kI, v) from k30b h, q_sb]
  dsimp only
  rw [if_pos (show kI = -104 from rfl), show F_K_call__ v 42 (nI D.G) = some (kI, v) from k42b h, q_sb]
  dsimp only
  rw [if_pos (show kI = -104 from rfl)]
  exact e5
end
