/-! the two fractions -/
theorem fd_msk (x : UInt64) (h : x.toNat % 2 ^ 63 ≤ 9218868437227405312) : x &&& 0x7fffffffffffffff ≤ 0x7ff0000000000000 := by
  rw [UInt64.le_iff_toNat_le, UInt64.toNat_and]
  show x.toNat &&& (2 ^ 63 - 1) ≤ 9218868437227405312
  rw [Nat.and_two_pow_sub_one_eq_mod]
  exact h
def fd_fin (d : FP.Core.Datum) : Bool := match d with
  | .fin _ c _ => c != 0
  | _ => false
theorem fd_cnt : ∀ b, b < 11 → b ≠ 0 → fd_fin (FP.Core.val64 (FP.i2d (nI b))) = true := by decide +kernel
theorem fd_num (n : Nat) : FP.Core.val64 (FP.i2d (nI n)) ≠ .nan := by
  show FP.Core.val64 (FP.Core.i2d (nI n)) ≠ .nan
  rw [FP.Core.val64_i2d]
  exact FP.Core.roundRatio_ne_nan _ _ _ _ _
theorem fd_div {a b : UInt64} (ha : FP.Core.val64 a ≠ .nan) (hb : fd_fin (FP.Core.val64 b) = true) : (FP.ddiv a b) &&& 0x7fffffffffffffff ≤ 0x7ff0000000000000 := by
  refine fd_msk _ ((FP.Core.ne_nan _).mp ?_)
  show FP.Core.val64 (FP.Core.ddiv a b) ≠ .nan
  rw [FP.Core.val64_ddiv]
  revert ha hb
  generalize FP.Core.val64 a = x
  generalize FP.Core.val64 b = y
  intro ha hb
  cases y with
  | nan => exact absurd hb (by decide)
  | inf s => exact absurd hb (by simp [fd_fin])
  | fin t d r =>
    have hd : ¬ d = 0 := by
      intro h
      subst h
      exact absurd hb (by simp [fd_fin])
    cases x with
    | nan => exact absurd rfl ha
    | inf s => exact FP.Core.Datum.noConfusion
    | fin s c q =>
      show (if d = 0 then (if c = 0 then FP.Core.Datum.nan else .inf (s != t)) else FP.Core.roundRatio _ (s != t) c d (q - r)) ≠ .nan
      rw [if_neg hd]
      exact FP.Core.roundRatio_ne_nan _ _ _ _ _
theorem ff_all : ∀ a, a < 11 → ∀ b, b < 11 → b ≠ 0 → ((FP.fdiv (FP.i2f (nI a)) (FP.i2f (nI b))) &&& 0x7fffffff ≤ 0x7f800000 ∧ (FP.f2d (FP.fdiv (FP.i2f (nI a)) (FP.i2f (nI b)))) &&& 0x7fffffffffffffff ≤ 0x7ff0000000000000) := by decide +kernel
theorem ff_0 : (FP.f2d FP.fconst0) &&& 0x7fffffffffffffff ≤ 0x7ff0000000000000 := by decide +kernel
theorem q_cnP {α : Type} {P : Prop} {i : Decidable P} {k : Option α} (h : P) : @cn α P i k = k := if_pos h
theorem a_43 {vX vN : Nat → Int32} {vG vU vR : Nat → Nat → Int32} {vM : (Nat → Int32) × Int64} {vnow : Nat → Int32} {D : Dn} {T : Nat} (m8 : M8 vN vG vU vR D) (m9 : M9 vnow D) (o : OkD T D) (al : Alt D) : ∃ v M', F_X8_meanMinutesOut vX vN vG vR = some v ∧ F_X9_meanMinutesOut vM vnow = some (v, M') ∧ ∀ k, k ≠ 3 → M'.1 k = vM.1 k := by
  have hG := o.G
  have hm := o.mi
  have hb : ∀ n, n ≤ D.G → smF (fun g => ansF D g g 0 D.mi) n ≤ 960 * n := fun n hn => smF_le fun k hk => Nat.le_trans (ansF_bd o (Nat.zero_le _) k k) hm
  by_cases h0 : D.G = 0
  · refine ⟨FP.dconst0, (va_up vM.1 3 (nI 0), vM.2), ?_, ?_, fun _ hk => va_up_ne _ _ hk⟩
    · simp (disch := omega) only [F_X8_meanMinutesOut, q_lit, m8.G, q_eq, h0, eq_self, if_true]
    · have hF : FU = 4999 + 1 := rfl
      unfold F_X9_meanMinutesOut
      rw [q_lt0, hF, L_X9_meanMinutesOut_9]
      simp (disch := omega) only [B_X9_meanMinutesOut_9, q_lit, q_ck, q_cl, m9.G, q_le, h0, Nat.le_refl, if_true, q_eq, eq_self]
  · have hs := hb D.G (Nat.le_refl _)
    have hnn := fd_div (fd_num (smF (fun g => ansF D g g 0 D.mi) D.G)) (fd_cnt D.G (by omega) h0)
    refine ⟨FP.ddiv (FP.i2d (nI (smF (fun g => ansF D g g 0 D.mi) D.G))) (FP.i2d (nI D.G)), (va_up vM.1 3 0, vM.2), ?_, ?_, fun _ hk => va_up_ne _ _ hk⟩
    · have e : F_X8_meanMinutesOut vX vN vG vR = L_X8_meanMinutesOut_21 vX vN vG vR FU (nI D.G) 0 0 := by
        unfold F_X8_meanMinutesOut
        rw [m8.G, if_neg (show ¬ nI D.G = (0 : Int32) from fun h => h0 ((nI_eq (by omega) (by omega)).mp h))]
      rw [e]
      refine lp_acc (L := fun f k (a : Int32) => L_X8_meanMinutesOut_21 vX vN vG vR f (nI D.G) a k) (a := fun n => nI (smF (fun g => ansF D g g 0 D.mi) n)) (U := D.G) (fun f k hk => ?_) (fun f => ?_) FU 0 (Nat.zero_le _) (by unfold FU; omega)
      · have h1 := u_mA m8 o (g := k) (h := k) (f := 0) (e := D.mi) (by omega) (by omega) (Nat.zero_le _) (by omega)
        have c1 : ¬ D.G ≤ k := by omega
        simp (disch := omega) only [L_X8_meanMinutesOut_21, B_X8_meanMinutesOut_21, F_X3_sumOfMinutesAway, q_lit, nI_add, m8.mi, q_le, c1, if_false, h1, q_sb, smF]
      · rw [L_X8_meanMinutesOut_21]
        unfold B_X8_meanMinutesOut_21
        dsimp only
        rw [if_pos (show nI D.G ≤ nI D.G by rw [q_le (by omega) (by omega)]; exact Nat.le_refl _)]
        exact q_cnP hnn
    · unfold F_X9_meanMinutesOut
      rw [q_lt0]
      refine lp_acc (L := fun f k (a : Int32) => L_X9_meanMinutesOut_9 vnow f a k (va_up vM.1 3 0, vM.2)) (a := fun n => nI (smF (fun g => ansF D g g 0 D.mi) n)) (U := D.G) (fun f k hk => ?_) (fun f => ?_) FU 0 (Nat.zero_le _) (by unfold FU; omega)
      · have h1 := t_oA m9 o al (g := k) (by omega)
        have c1 : ¬ D.G ≤ k := by omega
        simp (disch := omega) only [L_X9_meanMinutesOut_9, B_X9_meanMinutesOut_9, q_lit, nI_add, q_ck, q_cl, m9.G, q_le, c1, if_false, h1, q_sb, smF]
      · rw [L_X9_meanMinutesOut_9]
        unfold B_X9_meanMinutesOut_9
        dsimp only
        have e7 : vnow (Int32.toNatClampNeg 7) = nI D.G := m9.G
        have k7 : ∀ {α : Type} (z : Option α), ck 7 306 z = z := fun z => q_ck (n := 7) (by omega) (by omega)
        rw [e7, k7, if_pos (show nI D.G ≤ nI D.G by rw [q_le (by omega) (by omega)]; exact Nat.le_refl _), k7, if_neg (show ¬ nI D.G = (0 : Int32) from fun h => h0 ((nI_eq (by omega) (by omega)).mp h)), k7]
        exact q_cnP hnn
theorem a_44 {vX vN : Nat → Int32} {vG vU vR : Nat → Nat → Int32} {vM : (Nat → Int32) × Int64} {vnow : Nat → Int32} {D : Dn} {T : Nat} (m8 : M8 vN vG vU vR D) (m9 : M9 vnow D) (o : OkD T D) : ∃ v M', F_X8_shareOut vX vN vG = some v ∧ F_X9_shareOut vM vnow = some (v, M') ∧ (FP.f2d v) &&& 0x7fffffffffffffff ≤ 0x7ff0000000000000 ∧ ∀ k, k ≠ 3 → M'.1 k = vM.1 k := by
  have hG := o.G
  have e7 : vnow (Int32.toNatClampNeg 7) = nI D.G := m9.G
  have k7 : ∀ {α : Type} (z : Option α), ck 7 306 z = z := fun z => q_ck (n := 7) (by omega) (by omega)
  by_cases h0 : D.G = 0
  · refine ⟨FP.fconst0, (va_up vM.1 3 0, vM.2), ?_, ?_, ff_0, fun _ hk => va_up_ne _ _ hk⟩
    · unfold F_X8_shareOut
      rw [m8.G, h0]
      exact if_pos rfl
    · unfold F_X9_shareOut
      rw [q_lt0, k7, e7, h0]
      exact if_pos rfl
  · have ha : smF D.ou D.G ≤ 1 * D.G := smF_le fun k hk => o.ou k hk
    obtain ⟨h1, h2⟩ := ff_all (smF D.ou D.G) (by omega) D.G (by omega) h0
    have hz : ¬ nI D.G = (0 : Int32) := fun h => h0 ((nI_eq (by omega) (by omega)).mp h)
    refine ⟨FP.fdiv (FP.i2f (nI (smF D.ou D.G))) (FP.i2f (nI D.G)), (va_up vM.1 3 0, vM.2), ?_, ?_, h2, fun _ hk => va_up_ne _ _ hk⟩
    · unfold F_X8_shareOut
      rw [m8.G, if_neg hz, u_away_n m8 o, q_sb]
      exact q_cnP h1
    · unfold F_X9_shareOut
      rw [q_lt0, k7, e7, if_neg hz, t_away_n m9 o, q_sb, k7]
      exact q_cnP h1
