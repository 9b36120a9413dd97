/-! the law from its entry: what the start knows -/
abbrev LA (s : State) : Nat → Prop := fun q => s.heap.size ≤ q
theorem fl_sub {b : Nat} {s : State} (hgv : (Jvm.Cond.and given_1 narrow_1).before #[Value.ref b] s = true) : ∀ w ∈ flatC (Jvm.Cond.and given_1 narrow_1), w.before #[Value.ref b] s = true := flat_of_before _ hgv
def tmS (i : Nat) : Term := match SRl[i]? with
  | some q => Term.string q.1 q.2.1
  | none => Term.string "" 0
theorem fq {b : Nat} {s : State} (hgv : (Jvm.Cond.and given_1 narrow_1).before #[Value.ref b] s = true) {c : Cond} (i : Nat) (h : (flatC (Jvm.Cond.and given_1 narrow_1))[i]? = some c) : c.before #[Value.ref b] s = true := fl_sub hgv c (List.mem_of_getElem? h)
def pS : List Nat := [273, 378, 387, 396, 403, 1164, 1174, 1181, 1188, 1196, 1203, 1210, 1217, 1227, 1232, 1248, 415, 449, 483, 515, 540, 557, 593, 613, 637, 656, 682, 706, 734, 750, 771, 796, 824, 862, 894, 912, 938, 958, 990, 1023, 1040, 1077, 1112, 1148]
theorem pr_ex : ∀ i, i < 44 → (flatC (Jvm.Cond.and given_1 narrow_1))[pS.getD i 0]? = some (Cond.exactly (tmS i) "java/lang/String") := by decide +kernel
theorem pr_co : ∀ i, i < 16 → (flatC (Jvm.Cond.and given_1 narrow_1))[pS.getD i 0 + 1]? = some (Cond.eq (.field (tmS i) "java/lang/String" "coder" "B") (.int 0)) := by decide +kernel
theorem pr_ar : ∀ i, i < 16 → (flatC (Jvm.Cond.and given_1 narrow_1))[pS.getD i 0 + 2]? = some (Cond.arrayOf (.field (tmS i) "java/lang/String" "value" "[B") .byte) := by decide +kernel
theorem pr_le : ∀ i, i < 16 → (flatC (Jvm.Cond.and given_1 narrow_1))[pS.getD i 0 + 3]? = some (Cond.eq (.length (.field (tmS i) "java/lang/String" "value" "[B")) (.int (Int32.ofNat (lenS.getD i 0)))) := by decide +kernel
theorem pr_el : ∀ i, i < 16 → ∀ j, j < lenS.getD i 0 → (flatC (Jvm.Cond.and given_1 narrow_1))[pS.getD i 0 + (4 + j)]? = some (Cond.eq (.elem (.field (tmS i) "java/lang/String" "value" "[B") (.int (Int32.ofNat j))) (.int ((bytS.getD i []).getD j 0))) := by decide +kernel
def pN : List Nat := [254, 227, 269, 240, 226, 268, 242, 256, 270, 241, 255, 228]
theorem pr_nc0 : ∀ i, i < 12 → (flatC (Jvm.Cond.and given_1 narrow_1))[pN.getD i 0]? = (NCl[i]?).map (fun q => Cond.not (.castable q.1 q.2)) := by decide +kernel
theorem pr_nc : ∀ q ∈ NCl, Cond.not (.castable q.1 q.2) ∈ flatC (Jvm.Cond.and given_1 narrow_1) := by
  intro q hq
  obtain ⟨i, hi⟩ := List.mem_iff_getElem?.mp hq
  have hl : i < 12 := (List.getElem?_eq_some_iff.mp hi).1
  have h := pr_nc0 i hl
  rw [hi] at h
  exact List.mem_of_getElem? h
theorem tx1 {A0 : Array Value} {s : State} {T : Term} {L : Nat} {bs : List Int32} (hL : L < 2 ^ 31) (h1 : (Cond.exactly T "java/lang/String").before A0 s = true) (h2 : (Cond.eq (.field T "java/lang/String" "coder" "B") (.int 0)).before A0 s = true) (h3 : (Cond.arrayOf (.field T "java/lang/String" "value" "[B") .byte).before A0 s = true) (h4 : (Cond.eq (.length (.field T "java/lang/String" "value" "[B")) (.int (Int32.ofNat L))).before A0 s = true) (h5 : ∀ j, j < L → (Cond.eq (.elem (.field T "java/lang/String" "value" "[B") (.int (Int32.ofNat j))) (.int (bs.getD j 0))).before A0 s = true) : ∃ q : Nat × Nat, T.eval A0 s none [] s = some (.ref q.1) ∧ va_O "java/lang/String" q.1 (LA s) s s.heap ∧ va_OF "java/lang/String" "coder" "B" (.int 0) q.1 (LA s) s s.heap ∧ va_OF "java/lang/String" "value" "[B" (.ref q.2) q.1 (LA s) s s.heap ∧ va_T .byte q.2 L (fun j => .int (bs.getD j 0)) (LA s) s s.heap := by
  have hi : ∀ i : Nat, i < 1 → i = 0 := fun i h => by omega
  obtain ⟨k, v, h, he⟩ := vk_Sof (N := 1) (tm := fun _ => T) (len := [L]) (byt := [bs]) (A := LA s) (args := A0) (s := s) (fun i h => by rw [hi i h]; exact hL) (fun i _ => h1) (fun i _ => h2) (fun i _ => h3) (fun i h => by rw [hi i h]; exact h4) (fun i h j hj => by rw [hi i h] at hj ⊢; exact h5 j hj) (fun i j h1 h2 h3 => absurd ((hi i h1).trans (hi j h2).symm) h3) (fun a h => Nat.not_le.mpr h)
  exact ⟨(k 0, v 0), he 0 (by omega), h.1 0 (by omega)⟩
theorem of_fun {o n d : String} {v v' : Value} {a : Nat} {B : Nat → Prop} {U : State} {H : Heap} (h : va_OF o n d v a B U H) (h' : va_OF o n d v' a B U H) : v = v' := by
  obtain ⟨c1, k1, i1, f1, e1, x1, -, x3, -, x5, -⟩ := h
  obtain ⟨c2, k2, i2, f2, e2, y1, -, y3, -, y5, -⟩ := h'
  rw [x1] at y1
  cases y1
  rw [x3] at y3
  cases y3
  rw [x5] at y5
  exact Option.some.inj y5
theorem t_fun {ty : FieldType} {t N N' : Nat} {f f' : Nat → Value} {B : Nat → Prop} {U : State} {H : Heap} (h : va_T ty t N f B U H) (h' : va_T ty t N' f' B U H) : Int32.ofNat N = Int32.ofNat N' ∧ ∀ k, k < N → k < N' → f k = f' k := by
  obtain ⟨c1, x1, -, -, -, x5, x6, -⟩ := h
  obtain ⟨c2, y1, -, -, -, y5, y6, -⟩ := h'
  rw [x1] at y1
  cases y1
  refine ⟨x5.symm.trans y5, fun k hN hN' => ?_⟩
  have := (x6 k hN).symm.trans (y6 k hN')
  exact Option.some.inj this
theorem tx_ne : ∀ i, i < 16 → ∀ j, j < 16 → i ≠ j → Int32.ofNat (lenS.getD i 0) ≠ Int32.ofNat (lenS.getD j 0) ∨ (bytS.getD i []).getD 0 0 ≠ (bytS.getD j []).getD 0 0 ∨ (1 < lenS.getD i 0 ∧ 1 < lenS.getD j 0 ∧ (bytS.getD i []).getD 1 0 ≠ (bytS.getD j []).getD 1 0) := by decide +kernel
theorem tx_pos : ∀ i, i < 16 → 0 < lenS.getD i 0 ∧ lenS.getD i 0 < 2 ^ 31 := by decide +kernel
/-- the texts' addresses -/
def adrS (b : Nat) (s : State) (i : Nat) : Nat := match (tmS i).eval #[Value.ref b] s none [] s with
  | some (.ref a) => a
  | _ => 0
theorem adr_of {b : Nat} {s : State} {i a : Nat} (h : (tmS i).eval #[Value.ref b] s none [] s = some (.ref a)) : adrS b s i = a := by
  unfold adrS
  rw [h]
theorem known_S {b : Nat} {s : State} (hgv : (Jvm.Cond.and given_1 narrow_1).before #[Value.ref b] s = true) : ∃ adV : Nat → Nat, vk_S 16 lenS bytS (adrS b s) adV (LA s) s s.heap := by
  have hq := fl_sub hgv
  have h0 : ∀ i : Nat, ∃ q : Nat × Nat, i < 16 → (tmS i).eval #[Value.ref b] s none [] s = some (.ref q.1) ∧ va_O "java/lang/String" q.1 (LA s) s s.heap ∧ va_OF "java/lang/String" "coder" "B" (.int 0) q.1 (LA s) s s.heap ∧ va_OF "java/lang/String" "value" "[B" (.ref q.2) q.1 (LA s) s s.heap ∧ va_T .byte q.2 (lenS.getD i 0) (fun j => .int ((bytS.getD i []).getD j 0)) (LA s) s s.heap := by
    intro i
    by_cases hi : i < 16
    · obtain ⟨q, h⟩ := tx1 (s := s) (T := tmS i) (tx_pos i hi).2 (fq hgv _ (pr_ex i (Nat.lt_of_lt_of_le hi (by decide)))) (fq hgv _ (pr_co i hi)) (fq hgv _ (pr_ar i hi)) (fq hgv _ (pr_le i hi)) (fun j hj => fq hgv _ (pr_el i hi j hj))
      exact ⟨q, fun _ => h⟩
    · exact ⟨(0, 0), fun h => absurd h hi⟩
  obtain ⟨ad, had⟩ := Classical.axiomOfChoice h0
  have e : ∀ i, i < 16 → adrS b s i = (ad i).1 := fun i hi => adr_of (had i hi).1
  refine ⟨fun i => (ad i).2, fun i hi => by rw [e i hi]; exact (had i hi).2, fun i j hi hj he => ?_⟩
  rw [e i hi, e j hj] at he
  refine Decidable.byContradiction fun hij => ?_
  have a1 := (had i hi).2.2.2.1
  have a2 := (had j hj).2.2.2.1
  rw [he] at a1
  have a3 := of_fun a1 a2
  have a4 : (ad i).2 = (ad j).2 := by injection a3
  have t1 := (had i hi).2.2.2.2
  have t2 := (had j hj).2.2.2.2
  rw [a4] at t1
  obtain ⟨g1, g2⟩ := t_fun t1 t2
  rcases tx_ne i hi j hj hij with h | h | ⟨l1, l2, h⟩
  · exact h g1
  · have g3 := g2 0 (tx_pos i hi).1 (tx_pos j hj).1
    apply h
    injection g3
  · have g3 := g2 1 l1 l2
    apply h
    injection g3
theorem known_R {b : Nat} {s : State} (hgv : (Jvm.Cond.and given_1 narrow_1).before #[Value.ref b] s = true) {q : String × Nat × String × Nat} (hi : q.2.2.2 < 44) (ht : tmS q.2.2.2 = Term.string q.1 q.2.1) (hw : (Cond.stringRef q.1 q.2.1 q.2.2.1).before #[Value.ref b] s = true) : vk_R q.1 q.2.1 q.2.2.1 (adrS b s q.2.2.2) s := by
  have hx := fq hgv _ (pr_ex q.2.2.2 hi)
  rw [ht] at hx
  obtain ⟨a, c, cA, kA, q1, -⟩ := Cond.exactly_spec (args := #[Value.ref b]) (first := s) (o := none) (s := s) (idx := []) hx
  have : adrS b s q.2.2.2 = a := adr_of (by rw [ht]; exact q1)
  rw [this]
  exact vk_R.of hw q1
theorem dg_DigitOnes : ∀ j : Nat, j < 100 → (flatC (Jvm.Cond.and given_1 narrow_1))[14 + j]? = some (Cond.eq (.elem (Term.static "java/lang/Integer" "DigitOnes" "[B") (.int (Int32.ofNat j))) (.int (nI (48 + j % 10)))) := by decide +kernel
theorem dg_DigitTens : ∀ j : Nat, j < 100 → (flatC (Jvm.Cond.and given_1 narrow_1))[117 + j]? = some (Cond.eq (.elem (Term.static "java/lang/Integer" "DigitTens" "[B") (.int (Int32.ofNat j))) (.int (nI (48 + j / 10)))) := by decide +kernel
