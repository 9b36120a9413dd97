/-! the text read: the head, load -/
def D00 : Dn := fun _ _ => 0
theorem ok_00 {T : Nat} (hT : T ≤ 600) : OkD T D00 :=
  ⟨hT, Nat.zero_le _, Nat.zero_le _, Nat.zero_le _, Nat.zero_le _, Nat.zero_le _, Nat.zero_le _, Nat.zero_le _, Nat.zero_le _, Nat.zero_le _, Nat.zero_le _, fun k hk => absurd hk (Nat.not_lt_zero k), fun k i hk => absurd hk (Nat.not_lt_zero k), fun k hk => absurd hk (Nat.not_lt_zero k), fun k hk => absurd hk (Nat.not_lt_zero k), fun k hk => absurd hk (Nat.not_lt_zero k), fun k hk => absurd hk (Nat.not_lt_zero k), fun k hk => absurd hk (Nat.not_lt_zero k), fun k hk => absurd hk (Nat.not_lt_zero k), fun k hk => absurd hk (Nat.not_lt_zero k), fun k hk => absurd hk (Nat.not_lt_zero k), fun k hk => absurd hk (Nat.not_lt_zero k), fun k hk => absurd hk (Nat.not_lt_zero k), fun k hk => absurd hk (Nat.not_lt_zero k), fun k hk => absurd hk (Nat.not_lt_zero k), fun k hk => absurd hk (Nat.not_lt_zero k), fun j k _ hk => absurd hk (Nat.not_lt_zero k)⟩
theorem m8_00 (vN : Nat → Int32) (vG vU vR : Nat → Nat → Int32) : ∃ r, F_X3_clear vN vG vU vR = some r ∧ M8 r.1 r.2.1 r.2.2.1 r.2.2.2 D00 :=
  ⟨_, rfl, rfl, rfl, rfl, rfl, rfl, rfl, rfl, rfl, rfl, rfl, fun k i hk => absurd hk (Nat.not_lt_zero k), fun k hk => absurd hk (Nat.not_lt_zero k), fun k hk => absurd hk (Nat.not_lt_zero k), fun k hk => absurd hk (Nat.not_lt_zero k), fun k hk => absurd hk (Nat.not_lt_zero k), fun k hk => absurd hk (Nat.not_lt_zero k), fun k hk => absurd hk (Nat.not_lt_zero k), fun k hk => absurd hk (Nat.not_lt_zero k), fun k hk => absurd hk (Nat.not_lt_zero k), fun k hk => absurd hk (Nat.not_lt_zero k), fun k hk => absurd hk (Nat.not_lt_zero k), fun k hk => absurd hk (Nat.not_lt_zero k), fun k hk => absurd hk (Nat.not_lt_zero k), fun k hk => absurd hk (Nat.not_lt_zero k)⟩
theorem okn_00 {T : Nat} (hT : T ≤ 600) : OkN T D00 := ⟨ok_00 hT, ⟨fun n hn => absurd hn (Nat.not_lt_zero n), fun g hg => absurd hg (Nat.not_lt_zero g)⟩, Nat.zero_le _⟩
theorem eqE (f : Nat) (x : Int32) (q : Nat → Int32) : L_X6_empty_2 (f + 1) x q = B_X6_empty_2 (L_X6_empty_2 f) x q := rfl
theorem empt {vQF : Nat → Int32} : F_X6_empty vQF = some (upd (upd vQF 0 (nI 0)) 1 (nI 0)) := by
  have hF : FU = 4997 + 3 := rfl
  unfold F_X6_empty
  rw [hF, eqE]
  unfold B_X6_empty_2
  rw [if_neg (show ¬ (2 : Int32) ≤ 0 by decide), show ∀ z : Option (Nat → Int32), ck 0 2 z = z from fun z => q_ck (n := 0) (by omega) (by omega), q_lt0, eqE]
  unfold B_X6_empty_2
  rw [if_neg (show ¬ (2 : Int32) ≤ 0 + 1 by decide), show ∀ z : Option (Nat → Int32), ck (0 + 1) 2 z = z from fun z => q_ck (n := 1) (by omega) (by omega), q_lt0, eqE]
  unfold B_X6_empty_2
  rw [if_pos (show (2 : Int32) ≤ 0 + 1 + 1 by decide)]
  rfl
