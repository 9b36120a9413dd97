/-! answers about names, errors, written bytes -/
theorem bad2 {α : Type} {x : Int32} {G : Nat} (h : badI x G) (hG : G ≤ 1000) {a b : α} {i1 : Decidable (x < nI 0)} {i2 : Decidable (x < nI G)} : @ite _ (x < nI 0) i1 a (@ite _ (x < nI G) i2 b a) = a := by
  rcases h with h | ⟨n, h1, h2, rfl⟩
  · rw [if_pos h]
  · rw [if_neg (fun h => by rw [q_lt (by omega) (by omega)] at h; omega), if_neg (fun h => by rw [q_lt (by omega) (by omega)] at h; omega)]
theorem find_nm {D : Dn} {T : Nat} (o : OkD T D) {l : Nat → Nat} {n : Nat} (h : isNm l n = false) : findD D l n = 0 := by
  rcases fstF_ok (eqN D l n) D.G _ 0 rfl with e | ⟨h1, h2, h3⟩
  · exact e
  · exfalso
    have hk : fstF (eqN D l n) D.G 0 - 1 < D.G := by omega
    obtain ⟨e1, e2⟩ := (eqN_iff D l n _).mp h3
    have h4 := o.ln _ hk
    have : isNm l n = true := (isNm_iff l n).mpr ⟨by omega, fun i hi => by
      have := o.lt _ i hk (by omega)
      rw [e2 i hi] at this
      exact this⟩
    rw [h] at this
    exact absurd this (by decide)
theorem find_le (D : Dn) (l : Nat → Nat) (n : Nat) : findD D l n ≤ D.G := by
  rcases fstF_ok (eqN D l n) D.G _ 0 rfl with e | ⟨_, h2, _⟩
  · unfold findD; omega
  · exact h2
theorem va3 {f : Nat → Int32} {x : Int32} {k : Nat} (h : k ≠ 3) : va_up f 3 x k = f k := va_up_ne _ _ h
theorem va3_1 {f : Nat → Int32} {x : Int32} : va_up f 3 x 1 = f 1 := rfl
theorem va3_2 {f : Nat → Int32} {x : Int32} : va_up f 3 x 2 = f 2 := rfl
theorem va3_9 {f : Nat → Int32} {x : Int32} : va_up f 3 x 9 = f 9 := rfl
theorem va3_0 {f : Nat → Int32} {x : Int32} : va_up f 3 x 0 = f 0 := rfl
theorem f_m10 : m1 < nI 0 := by decide
theorem f_m1c : m1 ≤ nI 0 := by decide
theorem f_0m1 : ¬ nI 0 ≤ m1 := by decide
theorem q_m10 {i : Decidable (m1 < nI 0)} {α : Type} {a b : α} : @ite _ (m1 < nI 0) i a b = a := if_pos f_m10
theorem q_m1c {i : Decidable (m1 ≤ nI 0)} {α : Type} {a b : α} : @ite _ (m1 ≤ nI 0) i a b = a := if_pos f_m1c
theorem q_0m1 {i : Decidable (nI 0 ≤ m1)} {α : Type} {a b : α} : @ite _ (nI 0 ≤ m1) i a b = b := if_neg f_0m1
