/-! the two fractions -/
theorem fd_msk (x : UInt64) (h : x.toNat % 2 ^ 63 ≤ 9218868437227405312) : x &&& 0x7fffffffffffffff ≤ 0x7ff0000000000000 := by
  rw [UInt64.le_iff_toNat_le, UInt64.toNat_and]
  show x.toNat &&& (2 ^ 63 - 1) ≤ 9218868437227405312
  rw [Nat.and_two_pow_sub_one_eq_mod]
  exact h
def fd_fin (d : FP.Core.Datum) : Bool := match d with
  | .fin _ c _ => c != 0
  | _ => false
theorem fd_cnt : ∀ b, b < 11 → b ≠ 0 → fd_fin (FP.Core.val64 (FP.i2d (nI b))) = true := by decide +kernel
theorem fd_num (n : Nat) : FP.Core.val64 (FP.i2d (nI n)) ≠ .nan := by
  show FP.Core.val64 (FP.Core.i2d (nI n)) ≠ .nan
  rw [FP.Core.val64_i2d]
  exact FP.Core.roundRatio_ne_nan _ _ _ _ _
theorem fd_div {a b : UInt64} (ha : FP.Core.val64 a ≠ .nan) (hb : fd_fin (FP.Core.val64 b) = true) : (FP.ddiv a b) &&& 0x7fffffffffffffff ≤ 0x7ff0000000000000 := by
  refine fd_msk _ ((FP.Core.ne_nan _).mp ?_)
  show FP.Core.val64 (FP.Core.ddiv a b) ≠ .nan
  rw [FP.Core.val64_ddiv]
  revert ha hb
  generalize FP.Core.val64 a = x
  generalize FP.Core.val64 b = y
  intro ha hb
  cases y with
  | nan => exact absurd hb (by decide)
  | inf s => exact absurd hb (by simp [fd_fin])
  | fin t d r =>
    have hd : ¬ d = 0 := by
      intro h
      subst h
      exact absurd hb (by simp [fd_fin])
    cases x with
    | nan => exact absurd rfl ha
    | inf s => exact FP.Core.Datum.noConfusion
    | fin s c q =>
      show (if d = 0 then (if c = 0 then FP.Core.Datum.nan else .inf (s != t)) else FP.Core.roundRatio _ (s != t) c d (q - r)) ≠ .nan
      rw [if_neg hd]
      exact FP.Core.roundRatio_ne_nan _ _ _ _ _
theorem ff_all : ∀ a, a < 11 → ∀ b, b < 11 → b ≠ 0 → ((FP.fdiv (FP.i2f (nI a)) (FP.i2f (nI b))) &&& 0x7fffffff ≤ 0x7f800000 ∧ (FP.f2d (FP.fdiv (FP.i2f (nI a)) (FP.i2f (nI b)))) &&& 0x7fffffffffffffff ≤ 0x7ff0000000000000) := by decide +kernel
theorem ff_0 : (FP.f2d FP.fconst0) &&& 0x7fffffffffffffff ≤ 0x7ff0000000000000 := by decide +kernel
theorem q_cnP {α : Type} {P : Prop} {i : Decidable P} {k : Option α} (h : P) : @cn α P i k = k := if_pos h
