/-! a night loads -/
theorem gtx_len : ∀ (gs : List (Nat × Nat)) k, k + gs.length ≤ 6 → (∀ q ∈ gs, q.1 < 10 ∧ q.2 < 10) → (gtx k gs).length ≤ 19 * gs.length := by
  intro gs
  induction gs with
  | nil => intro k _ _; exact Nat.le_refl _
  | cons q gs ih =>
    intro k hk hq
    have hk : k + (gs.length + 1) ≤ 6 := hk
    obtain ⟨q1, q2⟩ := hq q List.mem_cons_self
    have h1 := glen (k := k) (by omega) q1 q2
    have h2 := ih (k + 1) (by omega) (fun z hz => hq z (List.mem_cons_of_mem _ hz))
    show (gline k q.1 q.2 ++ gtx (k + 1) gs).length ≤ 19 * (gs.length + 1)
    rw [List.length_append]
    omega
theorem utx_len : ∀ (us : List (Nat × Nat)), (∀ q ∈ us, q.1 < 6 ∧ q.2 < 100) → (utx us).length ≤ 17 * us.length := by
  intro us
  induction us with
  | nil => intro _; exact Nat.le_refl _
  | cons q us ih =>
    intro hq
    obtain ⟨q1, q2⟩ := hq q List.mem_cons_self
    have h1 := ulen q1 q2
    have h2 := ih (fun z hz => hq z (List.mem_cons_of_mem _ hz))
    show (uline q.1 q.2 ++ utx us).length ≤ 17 * (us.length + 1)
    rw [List.length_append]
    omega
theorem by_b : ∀ i, i < 16 → ∀ x ∈ bytsN i, x < 256 := by decide +kernel
theorem by_d : ∀ d, d < 128 → ∀ x ∈ digs d, x < 256 := by decide +kernel
def Bys (L : List Nat) : Prop := ∀ x ∈ L, x < 256
theorem Bys.app {A B : List Nat} (h : Bys A) (g : Bys B) : Bys (A ++ B) := fun x hx => (List.mem_append.mp hx).elim (h x) (g x)
theorem bys_32 : Bys [32] := by unfold Bys; decide
theorem bys_59 : Bys [59] := by unfold Bys; decide
theorem Bys.get {L : List Nat} (h : Bys L) (i : Nat) : L.getD i 0 < 256 := by
  rw [List.getD_eq_getElem?_getD]
  by_cases c : i < L.length
  · rw [List.getElem?_eq_getElem c]
    exact h _ (List.getElem_mem c)
  · rw [List.getElem?_eq_none (by omega)]
    exact (by decide : (0 : Nat) < 256)
theorem bys_g {k g d : Nat} (hk : k < 6) (hg : g < 10) (hd : d < 10) : Bys (gline k g d) := by
  unfold gline
  refine ((((Bys.app (by_b 12 (by omega)) (by_b (6 + k) (by omega))).app bys_32).app (by_d g (by omega))).app ?_)
  split
  · exact by_b 13 (by omega)
  · exact (Bys.app (by_b 14 (by omega)) (by_d d (by omega))).app (by_b 13 (by omega))
theorem bys_u {k c : Nat} (hk : k < 6) (hc : c < 100) : Bys (uline k c) := by
  unfold uline
  exact ((((Bys.app (by_b 15 (by omega)) (by_b (6 + k) (by omega))).app bys_32).app (by_d c (by omega))).app bys_59)
theorem bys_gtx : ∀ (gs : List (Nat × Nat)) k, k + gs.length ≤ 6 → (∀ q ∈ gs, q.1 < 10 ∧ q.2 < 10) → Bys (gtx k gs) := by
  intro gs
  induction gs with
  | nil => intro k _ _ x hx; exact absurd hx List.not_mem_nil
  | cons q gs ih =>
    intro k hk hq
    have hk : k + (gs.length + 1) ≤ 6 := hk
    obtain ⟨q1, q2⟩ := hq q List.mem_cons_self
    exact (bys_g (by omega) q1 q2).app (ih (k + 1) (by omega) (fun z hz => hq z (List.mem_cons_of_mem _ hz)))
theorem bys_utx : ∀ (us : List (Nat × Nat)), (∀ q ∈ us, q.1 < 6 ∧ q.2 < 100) → Bys (utx us) := by
  intro us
  induction us with
  | nil => intro _ x hx; exact absurd hx List.not_mem_nil
  | cons q us ih =>
    intro hq
    obtain ⟨q1, q2⟩ := hq q List.mem_cons_self
    exact (bys_u q1 q2).app (ih (fun z hz => hq z (List.mem_cons_of_mem _ hz)))
theorem load_ok : LoadOk := by
  intro T v D n Hs p0 p1 h
  obtain ⟨a, b, gs, us, ha, hb, hg1, hg6, hgs, hu, hus, e0⟩ := night_of p0 p1
  obtain ⟨_, ⟨q, _, hq8, hH0, _, _⟩, _, hB0, hT6⟩ := h
  have hus6 : ∀ q ∈ us, q.1 < 6 ∧ q.2 < 100 := fun q hq => ⟨by have := (hus q hq).1; omega, (hus q hq).2⟩
  have l1 := gtx_len gs 0 (by omega) hgs
  have l2 := utx_len us hus6
  have l0 : (headT a b).length ≤ 12 := by
    have hd1 := dg_1 a (by omega)
    have hd2 := dg_3 b hb
    unfold headT
    simp only [List.length_append, List.length_cons, List.length_nil, digs_len, bl_5]
    omega
  have hlen : (headT a b ++ gtx 0 gs ++ utx us).length ≤ 300 := by
    simp only [List.length_append]
    omega
  have hby : Bys (headT a b ++ gtx 0 gs ++ utx us) := by
    refine Bys.app (Bys.app ?_ (bys_gtx gs 0 (by omega) hgs)) (bys_utx us hus6)
    unfold headT
    exact ((((Bys.app (by_b 5 (by omega)) (by_d a (by omega))).app bys_32).app (by_d b hb)).app bys_59)
  obtain ⟨B, e1, hB⟩ := feeds_of (v := v) (tS := fun j => (headT a b ++ gtx 0 gs ++ utx us).getD j 0) hB0 (fun i => hby.get i) hlen
  have hX : Txt B (headT a b ++ gtx 0 gs ++ utx us) := ⟨hB, by omega, fun i => hby.get i⟩
  obtain ⟨P, N, G, U, R, D2, e2, m2, o2, cr2⟩ := rt_of (vP := v.2.1) (vN0 := v.2.2.2.2.2.2.1) (vG0 := v.2.2.2.2.2.2.2.1) (vU0 := v.2.2.2.2.2.2.2.2.1) (vR0 := v.2.2.2.2.2.2.2.2.2.1) (T := T) hX ha hb hg6 hgs hu hus (List.append_assoc _ _ _) hT6
  obtain ⟨c, e3, m3⟩ := u_copy (vN := v.2.2.1) (vG := v.2.2.2.1) (vU := v.2.2.2.2.1) (vR := v.2.2.2.2.2.1) m2 o2.1
  refine ⟨_, _, (va_up (v.1) 0 (-1), P, c.1, c.2.1, c.2.2.1, c.2.2.2, N, G, U, R, va_up (v.2.2.2.2.2.2.2.2.2.2.1) 1 0, v.2.2.2.2.2.2.2.2.2.2.2.1, upd (upd (v.2.2.2.2.2.2.2.2.2.2.2.2.1) 0 (nI 0)) 1 (nI 0), v.2.2.2.2.2.2.2.2.2.2.2.2.2.1, va_up B 0 (fun _ => 0), v.2.2.2.2.2.2.2.2.2.2.2.2.2.2.2), D2, fun _ => D2, e0, by omega, e1, ?_, ⟨⟨⟨m3, o2⟩, cr2⟩, ⟨q, Nat.zero_le _, hq8, hH0, rfl, fun j hj => absurd hj (Nat.not_lt_zero j)⟩, fun s hs => Or.inl ?_, rfl, hT6⟩, rfl⟩
  · rw [kc1_11]
    have er : F_X8_load (v.1) (v.2.1) (v.2.2.1) (v.2.2.2.1) (v.2.2.2.2.1) (v.2.2.2.2.2.1) (v.2.2.2.2.2.2.1) (v.2.2.2.2.2.2.2.1) (v.2.2.2.2.2.2.2.2.1) (v.2.2.2.2.2.2.2.2.2.1) (v.2.2.2.2.2.2.2.2.2.2.1) (v.2.2.2.2.2.2.2.2.2.2.2.2.1) B = some (0, nI D2.G, va_up (v.1) 0 (-1), P, c.1, c.2.1, c.2.2.1, c.2.2.2, N, G, U, R, va_up (v.2.2.2.2.2.2.2.2.2.2.1) 1 0, upd (upd (v.2.2.2.2.2.2.2.2.2.2.2.2.1) 0 (nI 0)) 1 (nI 0), va_up B 0 (fun _ => 0)) := by
      unfold F_X8_load F_X8_readInput
      rw [e2, q_sb, q_lt0, q_lt0]
      dsimp only
      rw [if_pos (show va_up (v.1) 0 (-1) 0 = (-1 : Int32) from rfl), e3, q_sb, q_lt0, empt, q_sb, q_sb]
      dsimp only
      rw [if_pos (show va_up (v.1) 0 (-1) 0 = (-1 : Int32) from rfl), m3.G]
    unfold F_arm_load
    refine bnd er ?_
    exact if_pos rfl
  · show upd (upd (v.2.2.2.2.2.2.2.2.2.2.2.2.1) 0 (nI 0)) 1 (nI 0) s = nI 0
    rcases (show s = 0 ∨ s = 1 by omega) with z | z
    · subst z; rfl
    · subst z; rfl
theorem law_true {xs : Nat → Int32} {nL : Nat} (hn : nL ≤ 260) : F_K_law xs nL = some 1 := law_of load_ok hn
