/-! the two systems' first values -/
def DI : Dn := fun f k => (([[0, 2, 90, 0, 0, 0, 0, 3, 3, 0], [3, 3, 4], [97, 110, 110, 0, 0, 98, 111, 98, 0, 0, 99, 108, 101, 111, 0], [5, 8, 3], [4, 0, 0], [], [], [], [], [], [0, 1, 1], [60, 10, 0], [], [], [], []] : List (List Nat)).getD f []).getD k 0
theorem k3 {P : Nat → Prop} {k : Nat} (hk : k < 3) (h0 : P 0) (h1 : P 1) (h2 : P 2) : P k := by
  match k, hk with
  | 0, _ => exact h0
  | 1, _ => exact h1
  | 2, _ => exact h2
theorem okd_i : OkD 0 DI := by
  have hl : ∀ k, k < 3 → ∀ i, i < DI.ln k → 97 ≤ DI.lt (5 * k + i) ∧ DI.lt (5 * k + i) ≤ 122 := by decide
  exact ⟨by decide, by decide, by decide, by decide, by decide, by decide, by decide, by decide, by decide, by decide, by decide, by decide, fun k i hk hi => hl k hk i hi, by decide, by decide, by decide, by decide, by decide, by decide, by decide, by decide, by decide, by decide, by decide, by decide, by decide, fun j k _ h => absurd h (Nat.not_lt_zero k)⟩
theorem alt_i : Alt DI := ⟨fun n hn => absurd hn (Nat.not_lt_zero n), by decide⟩
theorem okn_i : OkN 0 DI := ⟨okd_i, alt_i, by decide⟩
def L8i (r : (Nat → Int32) × (Nat → Int32) × (Nat → Int32) × (Nat → Nat → Int32) × (Nat → Nat → Int32) × (Nat → Nat → Int32) × (Nat → Int32) × (Nat → Nat → Int32) × (Nat → Nat → Int32) × (Nat → Nat → Int32) × (Nat → Int32) × (Nat → Int32) × (Nat → Nat → Int32)) : List Int32 := [r.1 0, r.2.2.1 0, r.2.2.1 1, r.2.2.1 2, r.2.2.1 3, r.2.2.1 4, r.2.2.1 5, r.2.2.1 6, r.2.2.2.1 0 0, r.2.2.2.2.1 0 0, r.2.2.2.2.2.1 0 0, r.2.2.2.1 1 (0 * 5 + 0), r.2.2.2.1 1 (0 * 5 + 1), r.2.2.2.1 1 (0 * 5 + 2), r.2.2.2.1 1 (1 * 5 + 0), r.2.2.2.1 1 (1 * 5 + 1), r.2.2.2.1 1 (1 * 5 + 2), r.2.2.2.1 1 (2 * 5 + 0), r.2.2.2.1 1 (2 * 5 + 1), r.2.2.2.1 1 (2 * 5 + 2), r.2.2.2.1 1 (2 * 5 + 3), r.2.2.2.1 2 0, r.2.2.2.1 3 0, r.2.2.2.1 4 0, r.2.2.2.1 5 0, r.2.2.2.1 6 0, r.2.2.2.1 7 0, r.2.2.2.2.1 1 0, r.2.2.2.2.1 2 0, r.2.2.2.2.1 3 0, r.2.2.2.1 2 1, r.2.2.2.1 3 1, r.2.2.2.1 4 1, r.2.2.2.1 5 1, r.2.2.2.1 6 1, r.2.2.2.1 7 1, r.2.2.2.2.1 1 1, r.2.2.2.2.1 2 1, r.2.2.2.2.1 3 1, r.2.2.2.1 2 2, r.2.2.2.1 3 2, r.2.2.2.1 4 2, r.2.2.2.1 5 2, r.2.2.2.1 6 2, r.2.2.2.1 7 2, r.2.2.2.2.1 1 2, r.2.2.2.2.1 2 2, r.2.2.2.2.1 3 2, r.2.2.2.2.2.2.2.2.2.2.1 0, r.2.2.2.2.2.2.2.2.2.2.1 1, r.2.2.2.2.2.2.2.2.2.2.2.1 0, r.2.2.2.2.2.2.2.2.2.2.2.1 1, r.2.2.2.2.2.2.2.2.2.2.2.2 0 0]
def L9i (r : Nat → Int32) : List Int32 := [r 0, r 1, r 2, r 3, r 4, r 5, r 6, r 7, r 8, r 9, r (10 + 8 * 0 + 0), r (10 + 8 * 0 + 1), r (10 + 8 * 0 + 2), r (10 + 8 * 0 + 3), r (10 + 8 * 0 + 4), r (10 + 8 * 0 + 5), r (10 + 8 * 0 + 6), r (10 + 8 * 0 + 7), r (10 + 8 * 1 + 0), r (10 + 8 * 1 + 1), r (10 + 8 * 1 + 2), r (10 + 8 * 1 + 3), r (10 + 8 * 1 + 4), r (10 + 8 * 1 + 5), r (10 + 8 * 1 + 6), r (10 + 8 * 1 + 7), r (10 + 8 * 2 + 0), r (10 + 8 * 2 + 1), r (10 + 8 * 2 + 2), r (10 + 8 * 2 + 3), r (10 + 8 * 2 + 4), r (10 + 8 * 2 + 5), r (10 + 8 * 2 + 6), r (10 + 8 * 2 + 7), r (90 + 3 * 0 + 0), r (90 + 3 * 0 + 1), r (90 + 3 * 0 + 2), r (90 + 3 * 1 + 0), r (90 + 3 * 1 + 1), r (90 + 3 * 1 + 2), r (90 + 3 * 2 + 0), r (90 + 3 * 2 + 1), r (90 + 3 * 2 + 2)]
set_option maxRecDepth 100000 in
theorem i8_eval : F_X8_init.map L8i = some [m1, nI (Dn.mi DI), nI (Dn.ra DI), nI (Dn.li DI), nI (Dn.no DI), nI (Dn.co DI), nI (Dn.pu DI), nI (Dn.ti DI), nI (Dn.G DI), nI (Dn.U DI), nI (Dn.R DI), nI (Dn.lt DI (5 * 0 + 0)), nI (Dn.lt DI (5 * 0 + 1)), nI (Dn.lt DI (5 * 0 + 2)), nI (Dn.lt DI (5 * 1 + 0)), nI (Dn.lt DI (5 * 1 + 1)), nI (Dn.lt DI (5 * 1 + 2)), nI (Dn.lt DI (5 * 2 + 0)), nI (Dn.lt DI (5 * 2 + 1)), nI (Dn.lt DI (5 * 2 + 2)), nI (Dn.lt DI (5 * 2 + 3)), nI (Dn.ln DI 0), nI (Dn.gi DI 0), nI (Dn.ba DI 0), if Dn.ou DI 0 = 0 then m1 else nI (Dn.si DI 0), nI (Dn.so DI 0), nI (Dn.wk DI 0), nI (Dn.ow DI 0), nI (Dn.we DI 0), if Dn.ca DI 0 = 0 then m1 else nI (Dn.ca DI 0 - 1), nI (Dn.ln DI 1), nI (Dn.gi DI 1), nI (Dn.ba DI 1), if Dn.ou DI 1 = 0 then m1 else nI (Dn.si DI 1), nI (Dn.so DI 1), nI (Dn.wk DI 1), nI (Dn.ow DI 1), nI (Dn.we DI 1), if Dn.ca DI 1 = 0 then m1 else nI (Dn.ca DI 1 - 1), nI (Dn.ln DI 2), nI (Dn.gi DI 2), nI (Dn.ba DI 2), if Dn.ou DI 2 = 0 then m1 else nI (Dn.si DI 2), nI (Dn.so DI 2), nI (Dn.wk DI 2), nI (Dn.ow DI 2), nI (Dn.we DI 2), if Dn.ca DI 2 = 0 then m1 else nI (Dn.ca DI 2 - 1), nI 0, nI 0, nI 0, nI 0, nI 0] := by decide +kernel
theorem i8_m : ∃ r, F_X8_init = some r ∧ M8 r.2.2.1 r.2.2.2.1 r.2.2.2.2.1 r.2.2.2.2.2.1 DI ∧ r.1 0 = m1 ∧ r.2.2.2.2.2.2.2.2.2.2.1 0 = nI 0 ∧ r.2.2.2.2.2.2.2.2.2.2.1 1 = nI 0 ∧ (∀ s, s < 2 → r.2.2.2.2.2.2.2.2.2.2.2.1 s = nI 0) ∧ r.2.2.2.2.2.2.2.2.2.2.2.2 0 0 = nI 0 := by
  obtain ⟨r, e, h⟩ := Option.map_eq_some_iff.mp i8_eval
  simp only [L8i, List.cons.injEq, and_true] at h
  obtain ⟨hx, n0, n1, n2, n3, n4, n5, n6, gc, uc, rc, l00, l01, l02, l10, l11, l12, l20, l21, l22, l23, a0, b0, c0, d0, e0, f0, u0, v0, w0, a1, b1, c1, d1, e1, f1, u1, v1, w1, a2, b2, c2, d2, e2, f2, u2, v2, w2, h0, h1, q0, q1, bb⟩ := h
  have hl : ∀ k i, k < 3 → i < DI.ln k → r.2.2.2.1 1 (k * 5 + i) = nI (DI.lt (5 * k + i)) := by
    intro k i hk hi
    match k, i, hk, hi with
    | 0, 0, _, _ => exact l00
    | 0, 1, _, _ => exact l01
    | 0, 2, _, _ => exact l02
    | 0, i + 3, _, hi => exact absurd hi (Nat.not_lt.mpr (Nat.le_add_left 3 i))
    | 1, 0, _, _ => exact l10
    | 1, 1, _, _ => exact l11
    | 1, 2, _, _ => exact l12
    | 1, i + 3, _, hi => exact absurd hi (Nat.not_lt.mpr (Nat.le_add_left 3 i))
    | 2, 0, _, _ => exact l20
    | 2, 1, _, _ => exact l21
    | 2, 2, _, _ => exact l22
    | 2, 3, _, _ => exact l23
    | 2, i + 4, _, hi => exact absurd hi (Nat.not_lt.mpr (Nat.le_add_left 4 i))
  refine ⟨r, e, ⟨n0, n1, n2, n3, n4, n5, n6, gc, uc, rc, hl, fun k hk => k3 (P := fun k => r.2.2.2.1 2 k = nI (Dn.ln DI k)) hk a0 a1 a2, fun k hk => k3 (P := fun k => r.2.2.2.1 3 k = nI (Dn.gi DI k)) hk b0 b1 b2, fun k hk => k3 (P := fun k => r.2.2.2.1 4 k = nI (Dn.ba DI k)) hk c0 c1 c2, fun k hk => k3 (P := fun k => r.2.2.2.1 5 k = if Dn.ou DI k = 0 then m1 else nI (Dn.si DI k)) hk d0 d1 d2, fun k hk => k3 (P := fun k => r.2.2.2.1 6 k = nI (Dn.so DI k)) hk e0 e1 e2, fun k hk => k3 (P := fun k => r.2.2.2.1 7 k = nI (Dn.wk DI k)) hk f0 f1 f2, fun k hk hw => absurd (k3 (P := fun k => Dn.wk DI k = 0) hk rfl rfl rfl) hw, fun k hk => k3 (P := fun k => r.2.2.2.2.1 1 k = nI (Dn.ow DI k)) hk u0 u1 u2, fun k hk => k3 (P := fun k => r.2.2.2.2.1 2 k = nI (Dn.we DI k)) hk v0 v1 v2, fun k hk => k3 (P := fun k => r.2.2.2.2.1 3 k = if Dn.ca DI k = 0 then m1 else nI (Dn.ca DI k - 1)) hk w0 w1 w2, fun k h => absurd h (Nat.not_lt_zero k), fun k h => absurd h (Nat.not_lt_zero k), fun k h => absurd h (Nat.not_lt_zero k)⟩, hx, h0, h1, ?_, bb⟩
  intro s hs
  match s, hs with
  | 0, _ => exact q0
  | 1, _ => exact q1

