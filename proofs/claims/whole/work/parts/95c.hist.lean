/-! copies, history, snapshots -/
theorem M9.cong {w w' : Nat → Int32} {D : Dn} (m : M9 w D) (hG : D.G ≤ 10) (hU : D.U ≤ 12) (hR : D.R ≤ 60) (h : ∀ i, i < 306 → w' i = w i) : M9 w' D :=
  ⟨(h _ (by omega)).trans m.mi,
  (h _ (by omega)).trans m.ra,
  (h _ (by omega)).trans m.li,
  (h _ (by omega)).trans m.no,
  (h _ (by omega)).trans m.co,
  (h _ (by omega)).trans m.pu,
  (h _ (by omega)).trans m.ti,
  (h _ (by omega)).trans m.G,
  (h _ (by omega)).trans m.U,
  (h _ (by omega)).trans m.R,
  fun k (hk : k < D.G) => (h _ (by omega)).trans (m.nm k hk),
  fun k (hk : k < D.G) => (h _ (by omega)).trans (m.gi k hk),
  fun k (hk : k < D.G) => (h _ (by omega)).trans (m.ba k hk),
  fun k (hk : k < D.G) => (h _ (by omega)).trans (m.ou k hk),
  fun k (hk : k < D.G) => (h _ (by omega)).trans (m.si k hk),
  fun k (hk : k < D.G) => (h _ (by omega)).trans (m.so k hk),
  fun k (hk : k < D.G) => (h _ (by omega)).trans (m.wa k hk),
  fun k (hk : k < D.G) => (h _ (by omega)).trans (m.wk k hk),
  fun k (hk : k < D.U) => (h _ (by omega)).trans (m.ow k hk),
  fun k (hk : k < D.U) => (h _ (by omega)).trans (m.we k hk),
  fun k (hk : k < D.U) => (h _ (by omega)).trans (m.ca k hk),
  fun k (hk : k < D.R) => (h _ (by omega)).trans (m.ew k hk),
  fun k (hk : k < D.R) => (h _ (by omega)).trans (m.eg k hk),
  fun k (hk : k < D.R) => (h _ (by omega)).trans (m.el k hk)⟩
theorem u_copy {vN vN1 : Nat → Int32} {vG vU vR vG1 vU1 vR1 : Nat → Nat → Int32} {D : Dn} {T : Nat} (m : M8 vN1 vG1 vU1 vR1 D) (o : OkD T D) : ∃ r, F_X3_copyFrom vN vG vU vR vN1 vG1 vU1 vR1 = some r ∧ M8 r.1 r.2.1 r.2.2.1 r.2.2.2 D := by
  have hG := o.G
  have hU := o.U
  have hR := o.R
  refine ⟨_, rfl, ?_⟩
  exact ⟨m.mi,
  m.ra,
  m.li,
  m.no,
  m.co,
  m.pu,
  m.ti,
  m.G,
  m.U,
  m.R,
  fun k i (hk : k < D.G) (hi : i < D.ln k) => (sb_cpy0 (f := vG1 1) (by have := (o.ln k hk).2; omega)).trans (m.lt k i hk hi),
  fun k (hk : k < D.G) => (sb_cpy0 (f := vG1 2) (by omega)).trans (m.ln k hk),
  fun k (hk : k < D.G) => (sb_cpy0 (f := vG1 3) (by omega)).trans (m.gi k hk),
  fun k (hk : k < D.G) => (sb_cpy0 (f := vG1 4) (by omega)).trans (m.ba k hk),
  fun k (hk : k < D.G) => (sb_cpy0 (f := vG1 5) (by omega)).trans (m.si k hk),
  fun k (hk : k < D.G) => (sb_cpy0 (f := vG1 6) (by omega)).trans (m.so k hk),
  fun k (hk : k < D.G) => (sb_cpy0 (f := vG1 7) (by omega)).trans (m.wk k hk),
  fun k (hk : k < D.G) h0 => (sb_cpy0 (f := vG1 8) (by omega)).trans (m.wa k hk h0),
  fun k (hk : k < D.U) => (sb_cpy0 (f := vU1 1) (by omega)).trans (m.ow k hk),
  fun k (hk : k < D.U) => (sb_cpy0 (f := vU1 2) (by omega)).trans (m.we k hk),
  fun k (hk : k < D.U) => (sb_cpy0 (f := vU1 3) (by omega)).trans (m.ca k hk),
  fun k (hk : k < D.R) => (sb_cpy0 (f := vR1 1) (by omega)).trans (m.ew k hk),
  fun k (hk : k < D.R) => (sb_cpy0 (f := vR1 2) (by omega)).trans (m.eg k hk),
  fun k (hk : k < D.R) => (sb_cpy0 (f := vR1 3) (by omega)).trans (m.el k hk)⟩
theorem u_copyr {vN vN1 : Nat → Int32} {vG vU vR vG1 vU1 vR1 : Nat → Nat → Int32} {D : Dn} {T : Nat} (m : M8 vN1 vG1 vU1 vR1 D) (o : OkD T D) : ∃ r, F_X3_copyFrom_r vN1 vG1 vU1 vR1 vN vG vU vR = some r ∧ M8 r.1 r.2.1 r.2.2.1 r.2.2.2 D := by
  have hG := o.G
  have hU := o.U
  have hR := o.R
  refine ⟨_, rfl, ?_⟩
  exact ⟨m.mi,
  m.ra,
  m.li,
  m.no,
  m.co,
  m.pu,
  m.ti,
  m.G,
  m.U,
  m.R,
  fun k i (hk : k < D.G) (hi : i < D.ln k) => (sb_cpy0 (f := vG1 1) (by have := (o.ln k hk).2; omega)).trans (m.lt k i hk hi),
  fun k (hk : k < D.G) => (sb_cpy0 (f := vG1 2) (by omega)).trans (m.ln k hk),
  fun k (hk : k < D.G) => (sb_cpy0 (f := vG1 3) (by omega)).trans (m.gi k hk),
  fun k (hk : k < D.G) => (sb_cpy0 (f := vG1 4) (by omega)).trans (m.ba k hk),
  fun k (hk : k < D.G) => (sb_cpy0 (f := vG1 5) (by omega)).trans (m.si k hk),
  fun k (hk : k < D.G) => (sb_cpy0 (f := vG1 6) (by omega)).trans (m.so k hk),
  fun k (hk : k < D.G) => (sb_cpy0 (f := vG1 7) (by omega)).trans (m.wk k hk),
  fun k (hk : k < D.G) h0 => (sb_cpy0 (f := vG1 8) (by omega)).trans (m.wa k hk h0),
  fun k (hk : k < D.U) => (sb_cpy0 (f := vU1 1) (by omega)).trans (m.ow k hk),
  fun k (hk : k < D.U) => (sb_cpy0 (f := vU1 2) (by omega)).trans (m.we k hk),
  fun k (hk : k < D.U) => (sb_cpy0 (f := vU1 3) (by omega)).trans (m.ca k hk),
  fun k (hk : k < D.R) => (sb_cpy0 (f := vR1 1) (by omega)).trans (m.ew k hk),
  fun k (hk : k < D.R) => (sb_cpy0 (f := vR1 2) (by omega)).trans (m.eg k hk),
  fun k (hk : k < D.R) => (sb_cpy0 (f := vR1 3) (by omega)).trans (m.el k hk)⟩
theorem lay_d {nS nT b p : Nat} {vS vT : Nat → Int32} (h1 : b + 306 ≤ nS) (h2 : p + 306 ≤ nT) (h3 : nS ≤ 10000) (h4 : nT ≤ 10000) : ∃ r, F_X9_layRow_d nS nT vS vT (nI b) (nI p) = some r ∧ ∀ i, r i = if p ≤ i ∧ i < p + 306 then vS (b + (i - p)) else vT i := by
  refine lp_inv (L := fun n k x => L_X9_layRow_d_3 nS nT vS (nI b) (nI p) n k x) (I := fun k x => ∀ i, x i = if p ≤ i ∧ i < p + k then vS (b + (i - p)) else vT i) (Q := fun r => ∀ i, r i = if p ≤ i ∧ i < p + 306 then vS (b + (i - p)) else vT i) (U := 306) (fun n k x hk hI => ?_) (fun n x hI => ?_) FU 0 vT (Nat.zero_le _) (by unfold FU; omega) (fun i => by rw [if_neg (by omega)])
  · refine ⟨upd x (p + k) (vS (b + k)), fun i => ?_, ?_⟩
    · by_cases c : i = p + k
      · rw [c, up_eq, if_pos (by omega), show p + k - p = k by omega]
      · rw [up_ne c, hI i]
        by_cases d : p ≤ i ∧ i < p + k
        · rw [if_pos d, if_pos (by omega)]
        · rw [if_neg d, if_neg (by omega)]
    · have h8 : ¬ 306 ≤ k := by omega
      simp (disch := omega) only [L_X9_layRow_d_3, B_X9_layRow_d_3, q_lit, nI_add, q_le, h8, if_false, q_ck, q_cl, q_lt0]
  · refine ⟨x, ?_, hI⟩
    simp (disch := omega) only [L_X9_layRow_d_3, B_X9_layRow_d_3, q_lit, q_le, Nat.le_refl, if_true]
theorem lay_r {nS nT b p : Nat} {vS vT : Nat → Int32} (h1 : b + 306 ≤ nS) (h2 : p + 306 ≤ nT) (h3 : nS ≤ 10000) (h4 : nT ≤ 10000) : ∃ r, F_X9_layRow_r nT nS vT vS (nI b) (nI p) = some r ∧ ∀ i, r i = if p ≤ i ∧ i < p + 306 then vS (b + (i - p)) else vT i := by
  refine lp_inv (L := fun n k x => L_X9_layRow_r_3 nT nS vS (nI b) (nI p) n k x) (I := fun k x => ∀ i, x i = if p ≤ i ∧ i < p + k then vS (b + (i - p)) else vT i) (Q := fun r => ∀ i, r i = if p ≤ i ∧ i < p + 306 then vS (b + (i - p)) else vT i) (U := 306) (fun n k x hk hI => ?_) (fun n x hI => ?_) FU 0 vT (Nat.zero_le _) (by unfold FU; omega) (fun i => by rw [if_neg (by omega)])
  · refine ⟨upd x (p + k) (vS (b + k)), fun i => ?_, ?_⟩
    · by_cases c : i = p + k
      · rw [c, up_eq, if_pos (by omega), show p + k - p = k by omega]
      · rw [up_ne c, hI i]
        by_cases d : p ≤ i ∧ i < p + k
        · rw [if_pos d, if_pos (by omega)]
        · rw [if_neg d, if_neg (by omega)]
    · have h8 : ¬ 306 ≤ k := by omega
      simp (disch := omega) only [L_X9_layRow_r_3, B_X9_layRow_r_3, q_lit, nI_add, q_le, h8, if_false, q_ck, q_cl, q_lt0]
  · refine ⟨x, ?_, hI⟩
    simp (disch := omega) only [L_X9_layRow_r_3, B_X9_layRow_r_3, q_lit, q_le, Nat.le_refl, if_true]
theorem lay_s {nS b p : Nat} {vS : Nat → Int32} (hbp : p ≤ b) (h1 : b + 306 ≤ nS) (h3 : nS ≤ 10000) : ∃ r, F_X9_layRow_s nS vS (nI b) (nI p) = some r ∧ ∀ i, r i = if p ≤ i ∧ i < p + 306 then vS (b + (i - p)) else vS i := by
  refine lp_inv (L := fun n k x => L_X9_layRow_s_3 nS (nI b) (nI p) n k x) (I := fun k x => ∀ i, x i = if p ≤ i ∧ i < p + k then vS (b + (i - p)) else vS i) (Q := fun r => ∀ i, r i = if p ≤ i ∧ i < p + 306 then vS (b + (i - p)) else vS i) (U := 306) (fun n k x hk hI => ?_) (fun n x hI => ?_) FU 0 vS (Nat.zero_le _) (by unfold FU; omega) (fun i => by rw [if_neg (by omega)])
  · refine ⟨upd x (p + k) (vS (b + k)), fun i => ?_, ?_⟩
    · by_cases c : i = p + k
      · rw [c, up_eq, if_pos (by omega), show p + k - p = k by omega]
      · rw [up_ne c, hI i]
        by_cases d : p ≤ i ∧ i < p + k
        · rw [if_pos d, if_pos (by omega)]
        · rw [if_neg d, if_neg (by omega)]
    · have h8 : ¬ 306 ≤ k := by omega
      have h9 : x (b + k) = vS (b + k) := by rw [hI, if_neg (by omega)]
      simp (disch := omega) only [L_X9_layRow_s_3, B_X9_layRow_s_3, q_lit, nI_add, q_le, h8, if_false, q_ck, q_cl, q_lt0, h9]
  · refine ⟨x, ?_, hI⟩
    simp (disch := omega) only [L_X9_layRow_s_3, B_X9_layRow_s_3, q_lit, q_le, Nat.le_refl, if_true]
def rw9 (e : Nat → Int32) (j : Nat) : Nat → Int32 := fun i => e (306 * j + i)
def keepN (n : Nat) : Nat := if n = 8 then 8 else n + 1
def keepH (Hs : Nat → Dn) (n : Nat) (D : Dn) (j : Nat) : Dn := if n = 8 then (if j < 7 then Hs (j + 1) else D) else (if j < n then Hs j else D)
theorem t_keepJ {w e : Nat → Int32} {vM : (Nat → Int32) × Int64} {D : Dn} {Hs : Nat → Dn} {T n : Nat} (m : M9 w D) (o : OkD T D) (hn : n < 8) (h0 : vM.1 0 = nI n) (hH : ∀ j, j < n → OkD T (Hs j) ∧ M9 (rw9 e j) (Hs j)) : ∃ r, J_X9_keepsForUndo_56 w vM e = some r ∧ r.1 = (va_up vM.1 0 (nI (n + 1)), vM.2) ∧ ∀ j, j < n + 1 → M9 (rw9 r.2 j) (if j < n then Hs j else D) := by
  obtain ⟨r, e1, e2⟩ := lay_d (nS := 306) (nT := 2448) (b := 0) (p := 306 * n) (vS := w) (vT := e) (by omega) (by omega) (by omega) (by omega)
  refine ⟨((va_up vM.1 0 (nI (n + 1)), vM.2), r), ?_, rfl, fun j hj => ?_⟩
  · simp (disch := omega) only [J_X9_keepsForUndo_56, q_lit, nI_add, pk_mul, h0, e1, q_sb, q_lt0]
  · by_cases c : j < n
    · rw [if_pos c]
      obtain ⟨a, b⟩ := hH j c
      refine b.cong a.G a.U a.R fun i hi => ?_
      show r (306 * j + i) = e (306 * j + i)
      rw [e2, if_neg (by omega)]
    · rw [if_neg c]
      refine m.cong o.G o.U o.R fun i hi => ?_
      show r (306 * j + i) = w i
      rw [e2, if_pos (by omega)]
      exact congrArg w (by omega)
theorem t_keep {w e : Nat → Int32} {vM : (Nat → Int32) × Int64} {D : Dn} {Hs : Nat → Dn} {T n : Nat} (m : M9 w D) (o : OkD T D) (hn : n ≤ 8) (h0 : vM.1 0 = nI n) (hH : ∀ j, j < n → OkD T (Hs j) ∧ M9 (rw9 e j) (Hs j)) : ∃ r, F_X9_keepsForUndo vM w e = some r ∧ r.1.1 0 = nI (keepN n) ∧ (∀ k, k ≠ 0 → r.1.1 k = vM.1 k) ∧ ∀ j, j < keepN n → M9 (rw9 r.2 j) (keepH Hs n D j) := by
  by_cases c : n = 8
  · subst c
    have key : ∃ r, L_X9_keepsForUndo_11 w FU (nI 1) vM e = some r ∧ (r.1.1 0 = nI 8 ∧ (∀ k, k ≠ 0 → r.1.1 k = vM.1 k) ∧ ∀ j, j < 8 → M9 (rw9 r.2 j) (if j < 7 then Hs (j + 1) else D)) := by
      refine lp_inv (L := fun n k x => L_X9_keepsForUndo_11 w n k vM x) (I := fun k x => 0 < k ∧ ∀ j, j < 8 → M9 (rw9 x j) (if j + 1 < k then Hs (j + 1) else Hs j)) (Q := fun r => r.1.1 0 = nI 8 ∧ (∀ k, k ≠ 0 → r.1.1 k = vM.1 k) ∧ ∀ j, j < 8 → M9 (rw9 r.2 j) (if j < 7 then Hs (j + 1) else D)) (U := 8) (fun n k x hk hI => ?_) (fun n x hI => ?_) FU 1 e (by omega) (by unfold FU; omega) ⟨Nat.one_pos, fun j hj => by rw [if_neg (by omega)]; exact (hH j hj).2⟩
      · obtain ⟨k0, hI⟩ := hI
        obtain ⟨r, e1, e2⟩ := lay_s (nS := 2448) (b := 306 * k) (p := 306 * (k - 1)) (vS := x) (by omega) (by omega) (by omega)
        refine ⟨r, ⟨Nat.succ_pos k, fun j hj => ?_⟩, ?_⟩
        · by_cases cj : j + 1 = k
          · rw [if_pos (by omega)]
            have h1 := hI k hk
            rw [if_neg (by omega)] at h1
            rw [cj]
            obtain ⟨a, _⟩ := hH k hk
            refine h1.cong a.G a.U a.R fun i hi => ?_
            show r (306 * j + i) = x (306 * k + i)
            rw [e2, if_pos (by omega)]
            exact congrArg x (by omega)
          · have h1 := hI j hj
            have h2 : (j + 1 < k + 1) = (j + 1 < k) := propext ⟨fun h => by omega, fun h => by omega⟩
            rw [show (if j + 1 < k + 1 then Hs (j + 1) else Hs j) = (if j + 1 < k then Hs (j + 1) else Hs j) by simp only [h2]]
            have hb : (if j + 1 < k then Hs (j + 1) else Hs j).G ≤ 10 ∧ (if j + 1 < k then Hs (j + 1) else Hs j).U ≤ 12 ∧ (if j + 1 < k then Hs (j + 1) else Hs j).R ≤ 60 := by
              split
              · have a := (hH (j + 1) (by omega)).1
                exact ⟨a.G, a.U, a.R⟩
              · have a := (hH j hj).1
                exact ⟨a.G, a.U, a.R⟩
            refine h1.cong hb.1 hb.2.1 hb.2.2 fun i hi => ?_
            show r (306 * j + i) = x (306 * j + i)
            rw [e2, if_neg (by omega)]
        · have h8 : ¬ 8 ≤ k := by omega
          simp (disch := omega) only [L_X9_keepsForUndo_11, B_X9_keepsForUndo_11, q_lit, nI_add, pk_mul, q_le, h8, if_false, q_sub, e1, q_sb]
      · obtain ⟨_, hI⟩ := hI
        have hI' : ∀ j, j < 7 → OkD T (Hs (j + 1)) ∧ M9 (rw9 x j) (Hs (j + 1)) := fun j hj => by
          have := hI j (by omega)
          rw [if_pos (by omega)] at this
          exact ⟨(hH (j + 1) (by omega)).1, this⟩
        obtain ⟨r, e1, e2, e3⟩ := t_keepJ (vM := (va_up vM.1 0 (nI 7), vM.2)) (Hs := fun j => Hs (j + 1)) (n := 7) (e := x) m o (by omega) rfl hI'
        refine ⟨r, ?_, by rw [e2]; rfl, fun k hk => by rw [e2]; exact (va_up_ne _ _ hk).trans (va_up_ne _ _ hk), e3⟩
        simp (disch := omega) only [L_X9_keepsForUndo_11, B_X9_keepsForUndo_11, q_lit, q_le, Nat.le_refl, if_true, q_lt0, h0, q_sub]
        exact e1
    obtain ⟨r, e1, e2, e3, e4⟩ := key
    refine ⟨r, ?_, e2, e3, fun j hj => ?_⟩
    · simp (disch := omega) only [F_X9_keepsForUndo, q_lit, h0, eq_self, if_true]
      exact e1
    · exact e4 j hj
  · obtain ⟨r, e1, e2, e3⟩ := t_keepJ (vM := vM) m o (by omega) h0 hH
    refine ⟨r, ?_, by rw [e2]; unfold keepN; rw [if_neg c]; rfl, fun k hk => by rw [e2]; exact va_up_ne _ _ hk, fun j hj => ?_⟩
    · simp (disch := omega) only [F_X9_keepsForUndo, q_lit, h0, q_eq, c, if_false]
      exact e1
    · unfold keepN at hj
      rw [if_neg c] at hj
      unfold keepH
      rw [if_neg c]
      exact e3 j hj
def M8v (v : NV) (D : Dn) : Prop := M8 v.1 v.2.1 v.2.2.1 v.2.2.2 D
theorem u_rem {vN vH : Nat → Int32} {vG vU vR : Nat → Nat → Int32} {vHV : Nat → NV} {D : Dn} {T n q : Nat} (m : M8 vN vG vU vR D) (o : OkD T D) (hn : n ≤ 8) (hq : q < 8) (h0 : vH 0 = nI q) (h1 : vH 1 = nI n) : ∃ r, F_X2_remember vN vG vU vR vH vHV = some r ∧ r.1 0 = nI ((q + 1) % 8) ∧ r.1 1 = nI (keepN n) ∧ (∀ j, j ≠ q → r.2 j = vHV j) ∧ M8v (r.2 q) D := by
  obtain ⟨u, e1, e2⟩ := u_copyr (vN := (vHV q).1) (vG := (vHV q).2.1) (vU := (vHV q).2.2.1) (vR := (vHV q).2.2.2) m o
  refine ⟨(va_up (va_up vH 0 (nI ((q + 1) % 8))) 1 (nI (keepN n)), va_up vHV q (u.1, u.2.1, u.2.2.1, u.2.2.2)), ?_, rfl, rfl, fun j hj => va_up_ne _ _ hj, ?_⟩
  · have hd : (q + 1) / 8 * 8 ≤ q + 1 := Nat.div_mul_le_self _ _
    have hm : q + 1 - (q + 1) / 8 * 8 = (q + 1) % 8 := by omega
    have h2 : va_up vH 0 (nI ((q + 1) % 8)) 1 = nI n := h1
    have h3 : (if n + 1 < 8 then nI (n + 1) else nI 8) = nI (keepN n) := by
      unfold keepN
      split
      · rw [if_neg (by omega)]
      · split
        · rfl
        · exact congrArg nI (by omega)
    simp (disch := omega) only [F_X2_remember, q_lit, nI_add, q_ck, q_cl, q_lt0, h0, e1, q_sb, q_div, pk_mul, q_sub, hm, h2, q_lt, h3]
  · show M8v (va_up vHV q (u.1, u.2.1, u.2.2.1, u.2.2.2) q) D
    rw [va_eq]
    exact e2
def OkN (T : Nat) (D : Dn) : Prop := OkD T D ∧ Alt D ∧ D.mi ≤ 720
def HistOk (T : Nat) (vM : (Nat → Int32) × Int64) (e vH : Nat → Int32) (vHV : Nat → NV) : Prop := ∃ (n q : Nat) (Hs : Nat → Dn), n ≤ 8 ∧ q < 8 ∧ vM.1 0 = nI n ∧ vH 0 = nI q ∧ vH 1 = nI n ∧ ∀ j, j < n → OkN T (Hs j) ∧ M9 (rw9 e j) (Hs j) ∧ M8v (vHV ((q + 8 - n + j) % 8)) (Hs j)
theorem HistOk.m {T : Nat} {vM M' : (Nat → Int32) × Int64} {e vH : Nat → Int32} {vHV : Nat → NV} (h : HistOk T vM e vH vHV) (h0 : M'.1 0 = vM.1 0) : HistOk T M' e vH vHV := by
  obtain ⟨n, q, Hs, a, b, c, d⟩ := h
  exact ⟨n, q, Hs, a, b, h0.trans c, d⟩
theorem h_keep {vN vH w e : Nat → Int32} {vG vU vR : Nat → Nat → Int32} {vHV : Nat → NV} {vM : (Nat → Int32) × Int64} {D : Dn} {T : Nat} (h : HistOk T vM e vH vHV) (m8 : M8 vN vG vU vR D) (m9 : M9 w D) (o : OkN T D) : ∃ r9 r8, F_X9_keepsForUndo vM w e = some r9 ∧ F_X2_remember vN vG vU vR vH vHV = some r8 ∧ HistOk T r9.1 r9.2 r8.1 r8.2 ∧ ∀ k, k ≠ 0 → r9.1.1 k = vM.1 k := by
  obtain ⟨n, q, Hs, hn, hq, h0, h1, h2, hH⟩ := h
  obtain ⟨r9, e1, e2, e3, e4⟩ := t_keep (vM := vM) (e := e) (Hs := Hs) m9 o.1 hn h0 (fun j hj => ⟨(hH j hj).1.1, (hH j hj).2.1⟩)
  obtain ⟨r8, f1, f2, f3, f4, f5⟩ := u_rem (vHV := vHV) m8 o.1 hn hq h1 h2
  refine ⟨r9, r8, e1, f1, ⟨keepN n, (q + 1) % 8, keepH Hs n D, by unfold keepN; split <;> omega, by omega, e2, f2, f3, fun j hj => ?_⟩, e3⟩
  refine ⟨?_, e4 j hj, ?_⟩
  · unfold keepN at hj
    unfold keepH
    by_cases c : n = 8
    · rw [if_pos c] at hj ⊢
      split
      · exact (hH (j + 1) (by omega)).1
      · exact o
    · rw [if_neg c] at hj ⊢
      split
      · exact (hH j (by omega)).1
      · exact o
  · unfold keepN at hj ⊢
    unfold keepH
    by_cases c : n = 8
    · rw [if_pos c] at hj ⊢
      rw [if_pos c]
      by_cases cj : j < 7
      · rw [if_pos cj]
        have := (hH (j + 1) (by omega)).2.2
        rw [f4 _ (by omega)]
        rw [show ((q + 1) % 8 + 8 - 8 + j) % 8 = (q + 8 - n + (j + 1)) % 8 by omega]
        exact this
      · rw [if_neg cj, show ((q + 1) % 8 + 8 - 8 + j) % 8 = q by omega]
        exact f5
    · rw [if_neg c] at hj ⊢
      rw [if_neg c]
      by_cases cj : j < n
      · rw [if_pos cj]
        have := (hH j cj).2.2
        rw [f4 _ (by omega)]
        rw [show ((q + 1) % 8 + 8 - (n + 1) + j) % 8 = (q + 8 - n + j) % 8 by omega]
        exact this
      · rw [if_neg cj, show ((q + 1) % 8 + 8 - (n + 1) + j) % 8 = q by omega]
        exact f5
