/-! copies, history, snapshots -/
theorem u_copy {vN vN1 : Nat → Int32} {vG vU vR vG1 vU1 vR1 : Nat → Nat → Int32} {D : Dn} {T : Nat} (m : M8 vN1 vG1 vU1 vR1 D) (o : OkD T D) : ∃ r, F_X3_copyFrom vN vG vU vR vN1 vG1 vU1 vR1 = some r ∧ M8 r.1 r.2.1 r.2.2.1 r.2.2.2 D := by
  have hG := o.G
  have hU := o.U
  have hR := o.R
  refine ⟨_, rfl, ?_⟩
  exact ⟨m.mi,
  m.ra,
  m.li,
  m.no,
  m.co,
  m.pu,
  m.ti,
  m.G,
  m.U,
  m.R,
  fun k i (hk : k < D.G) (hi : i < D.ln k) => (sb_cpy0 (f := vG1 1) (by have := (o.ln k hk).2; omega)).trans (m.lt k i hk hi),
  fun k (hk : k < D.G) => (sb_cpy0 (f := vG1 2) (by omega)).trans (m.ln k hk),
  fun k (hk : k < D.G) => (sb_cpy0 (f := vG1 3) (by omega)).trans (m.gi k hk),
  fun k (hk : k < D.G) => (sb_cpy0 (f := vG1 4) (by omega)).trans (m.ba k hk),
  fun k (hk : k < D.G) => (sb_cpy0 (f := vG1 5) (by omega)).trans (m.si k hk),
  fun k (hk : k < D.G) => (sb_cpy0 (f := vG1 6) (by omega)).trans (m.so k hk),
  fun k (hk : k < D.G) => (sb_cpy0 (f := vG1 7) (by omega)).trans (m.wk k hk),
  fun k (hk : k < D.G) h0 => (sb_cpy0 (f := vG1 8) (by omega)).trans (m.wa k hk h0),
  fun k (hk : k < D.U) => (sb_cpy0 (f := vU1 1) (by omega)).trans (m.ow k hk),
  fun k (hk : k < D.U) => (sb_cpy0 (f := vU1 2) (by omega)).trans (m.we k hk),
  fun k (hk : k < D.U) => (sb_cpy0 (f := vU1 3) (by omega)).trans (m.ca k hk),
  fun k (hk : k < D.R) => (sb_cpy0 (f := vR1 1) (by omega)).trans (m.ew k hk),
  fun k (hk : k < D.R) => (sb_cpy0 (f := vR1 2) (by omega)).trans (m.eg k hk),
  fun k (hk : k < D.R) => (sb_cpy0 (f := vR1 3) (by omega)).trans (m.el k hk)⟩
theorem u_copyr {vN vN1 : Nat → Int32} {vG vU vR vG1 vU1 vR1 : Nat → Nat → Int32} {D : Dn} {T : Nat} (m : M8 vN1 vG1 vU1 vR1 D) (o : OkD T D) : ∃ r, F_X3_copyFrom_r vN1 vG1 vU1 vR1 vN vG vU vR = some r ∧ M8 r.1 r.2.1 r.2.2.1 r.2.2.2 D := by
  have hG := o.G
  have hU := o.U
  have hR := o.R
  refine ⟨_, rfl, ?_⟩
  exact ⟨m.mi,
  m.ra,
  m.li,
  m.no,
  m.co,
  m.pu,
  m.ti,
  m.G,
  m.U,
  m.R,
  fun k i (hk : k < D.G) (hi : i < D.ln k) => (sb_cpy0 (f := vG1 1) (by have := (o.ln k hk).2; omega)).trans (m.lt k i hk hi),
  fun k (hk : k < D.G) => (sb_cpy0 (f := vG1 2) (by omega)).trans (m.ln k hk),
  fun k (hk : k < D.G) => (sb_cpy0 (f := vG1 3) (by omega)).trans (m.gi k hk),
  fun k (hk : k < D.G) => (sb_cpy0 (f := vG1 4) (by omega)).trans (m.ba k hk),
  fun k (hk : k < D.G) => (sb_cpy0 (f := vG1 5) (by omega)).trans (m.si k hk),
  fun k (hk : k < D.G) => (sb_cpy0 (f := vG1 6) (by omega)).trans (m.so k hk),
  fun k (hk : k < D.G) => (sb_cpy0 (f := vG1 7) (by omega)).trans (m.wk k hk),
  fun k (hk : k < D.G) h0 => (sb_cpy0 (f := vG1 8) (by omega)).trans (m.wa k hk h0),
  fun k (hk : k < D.U) => (sb_cpy0 (f := vU1 1) (by omega)).trans (m.ow k hk),
  fun k (hk : k < D.U) => (sb_cpy0 (f := vU1 2) (by omega)).trans (m.we k hk),
  fun k (hk : k < D.U) => (sb_cpy0 (f := vU1 3) (by omega)).trans (m.ca k hk),
  fun k (hk : k < D.R) => (sb_cpy0 (f := vR1 1) (by omega)).trans (m.ew k hk),
  fun k (hk : k < D.R) => (sb_cpy0 (f := vR1 2) (by omega)).trans (m.eg k hk),
  fun k (hk : k < D.R) => (sb_cpy0 (f := vR1 3) (by omega)).trans (m.el k hk)⟩
def rw9 (e : Nat → Int32) (j : Nat) : Nat → Int32 := fun i => e (306 * j + i)
def keepN (n : Nat) : Nat := if n = 8 then 8 else n + 1
def keepH (Hs : Nat → Dn) (n : Nat) (D : Dn) (j : Nat) : Dn := if n = 8 then (if j < 7 then Hs (j + 1) else D) else (if j < n then Hs j else D)
def M8v (v : NV) (D : Dn) : Prop := M8 v.1 v.2.1 v.2.2.1 v.2.2.2 D
theorem u_rem {vN vH : Nat → Int32} {vG vU vR : Nat → Nat → Int32} {vHV : Nat → NV} {D : Dn} {T n q : Nat} (m : M8 vN vG vU vR D) (o : OkD T D) (hn : n ≤ 8) (hq : q < 8) (h0 : vH 0 = nI q) (h1 : vH 1 = nI n) : ∃ r, F_X2_remember vN vG vU vR vH vHV = some r ∧ r.1 0 = nI ((q + 1) % 8) ∧ r.1 1 = nI (keepN n) ∧ (∀ j, j ≠ q → r.2 j = vHV j) ∧ M8v (r.2 q) D := by
  obtain ⟨u, e1, e2⟩ := u_copyr (vN := (vHV q).1) (vG := (vHV q).2.1) (vU := (vHV q).2.2.1) (vR := (vHV q).2.2.2) m o
  refine ⟨(va_up (va_up vH 0 (nI ((q + 1) % 8))) 1 (nI (keepN n)), va_up vHV q (u.1, u.2.1, u.2.2.1, u.2.2.2)), ?_, rfl, rfl, fun j hj => va_up_ne _ _ hj, ?_⟩
  · have hd : (q + 1) / 8 * 8 ≤ q + 1 := Nat.div_mul_le_self _ _
    have hm : q + 1 - (q + 1) / 8 * 8 = (q + 1) % 8 := by omega
    have h2 : va_up vH 0 (nI ((q + 1) % 8)) 1 = nI n := h1
    have h3 : (if n + 1 < 8 then nI (n + 1) else nI 8) = nI (keepN n) := by
      unfold keepN
      split
      · rw [if_neg (by omega)]
      · split
        · rfl
        · exact congrArg nI (by omega)
    simp (disch := omega) only [F_X2_remember, q_lit, nI_add, q_ck, q_cl, q_lt0, h0, e1, q_sb, q_div, pk_mul, q_sub, hm, h2, q_lt, h3]
  · show M8v (va_up vHV q (u.1, u.2.1, u.2.2.1, u.2.2.2) q) D
    rw [va_eq]
    exact e2
def OkN (T : Nat) (D : Dn) : Prop := OkD T D ∧ Alt D ∧ D.mi ≤ 720
