/-! a new guest -/
def ltD (D : Dn) (l : Nat → Nat) : Dn := fun f k => if f = 2 then (if 5 * D.G ≤ k then l (k - 5 * D.G) else D 2 k) else D f k
def newG (D : Dn) (l : Nat → Nat) (n a b : Nat) : Dn := upD (upD (upD (upD (upD (upD (upD (upD (upD (ltD D l) 1 D.G n) 3 D.G a) 4 D.G b) 5 D.G 0) 6 D.G 0) 7 D.G 0) 8 D.G 0) 9 D.G 0) 0 7 (D.G + 1)
theorem newG_lt (D : Dn) (l : Nat → Nat) (n a b : Nat) {k i : Nat} (h : k = D.G) : (newG D l n a b).lt (5 * k + i) = l i := by
  subst h
  show (if 5 * D.G ≤ 5 * D.G + i then l (5 * D.G + i - 5 * D.G) else D 2 (5 * D.G + i)) = l i
  rw [if_pos (by omega)]
  exact congrArg l (by omega)
theorem newG_lo (D : Dn) (l : Nat → Nat) (n a b : Nat) {k i : Nat} (h : k < D.G) (hi : i < 5) : (newG D l n a b).lt (5 * k + i) = D.lt (5 * k + i) := by
  show (if 5 * D.G ≤ 5 * k + i then l (5 * k + i - 5 * D.G) else D 2 (5 * k + i)) = D 2 (5 * k + i)
  rw [if_neg (by omega)]
theorem newG_ln (D : Dn) (l : Nat → Nat) (n a b : Nat) : (newG D l n a b).ln D.G = n := upD_hit _ 1 D.G n
theorem newG_ln' (D : Dn) (l : Nat → Nat) (n a b : Nat) {k : Nat} (h : k < D.G) : (newG D l n a b).ln k = D.ln k := upD_miss (ltD D l) 1 D.G n (b := k) (by omega)
theorem newG_gi (D : Dn) (l : Nat → Nat) (n a b : Nat) : (newG D l n a b).gi D.G = a := upD_hit _ 3 D.G a
theorem newG_gi' (D : Dn) (l : Nat → Nat) (n a b : Nat) {k : Nat} (h : k < D.G) : (newG D l n a b).gi k = D.gi k := upD_miss (ltD D l) 3 D.G a (b := k) (by omega)
theorem newG_ba (D : Dn) (l : Nat → Nat) (n a b : Nat) : (newG D l n a b).ba D.G = b := upD_hit _ 4 D.G b
theorem newG_ba' (D : Dn) (l : Nat → Nat) (n a b : Nat) {k : Nat} (h : k < D.G) : (newG D l n a b).ba k = D.ba k := upD_miss (ltD D l) 4 D.G b (b := k) (by omega)
theorem newG_ou (D : Dn) (l : Nat → Nat) (n a b : Nat) : (newG D l n a b).ou D.G = 0 := upD_hit _ 5 D.G 0
theorem newG_ou' (D : Dn) (l : Nat → Nat) (n a b : Nat) {k : Nat} (h : k < D.G) : (newG D l n a b).ou k = D.ou k := upD_miss (ltD D l) 5 D.G 0 (b := k) (by omega)
theorem newG_si (D : Dn) (l : Nat → Nat) (n a b : Nat) : (newG D l n a b).si D.G = 0 := upD_hit _ 6 D.G 0
theorem newG_si' (D : Dn) (l : Nat → Nat) (n a b : Nat) {k : Nat} (h : k < D.G) : (newG D l n a b).si k = D.si k := upD_miss (ltD D l) 6 D.G 0 (b := k) (by omega)
theorem newG_so (D : Dn) (l : Nat → Nat) (n a b : Nat) : (newG D l n a b).so D.G = 0 := upD_hit _ 7 D.G 0
theorem newG_so' (D : Dn) (l : Nat → Nat) (n a b : Nat) {k : Nat} (h : k < D.G) : (newG D l n a b).so k = D.so k := upD_miss (ltD D l) 7 D.G 0 (b := k) (by omega)
theorem newG_wk (D : Dn) (l : Nat → Nat) (n a b : Nat) : (newG D l n a b).wk D.G = 0 := upD_hit _ 8 D.G 0
theorem newG_wk' (D : Dn) (l : Nat → Nat) (n a b : Nat) {k : Nat} (h : k < D.G) : (newG D l n a b).wk k = D.wk k := upD_miss (ltD D l) 8 D.G 0 (b := k) (by omega)
theorem newG_wa (D : Dn) (l : Nat → Nat) (n a b : Nat) : (newG D l n a b).wa D.G = 0 := upD_hit _ 9 D.G 0
theorem newG_wa' (D : Dn) (l : Nat → Nat) (n a b : Nat) {k : Nat} (h : k < D.G) : (newG D l n a b).wa k = D.wa k := upD_miss (ltD D l) 9 D.G 0 (b := k) (by omega)
theorem newG_nm (D : Dn) (l : Nat → Nat) (n a b : Nat) : (newG D l n a b).nm D.G = codeF l n := by
  unfold Dn.nm
  rw [newG_ln]
  exact code_ext fun i _ => newG_lt D l n a b rfl
theorem newG_nm' {T : Nat} {D : Dn} (o : OkD T D) (l : Nat → Nat) (n a b : Nat) {k : Nat} (h : k < D.G) : (newG D l n a b).nm k = D.nm k := by
  have h1 := o.ln k h
  unfold Dn.nm
  rw [newG_ln' D l n a b h]
  exact code_ext fun i hi => newG_lo D l n a b h (by omega)
theorem M8.s_gst {vN : Nat → Int32} {vG vU vR x : Nat → Nat → Int32} {D : Dn} {T : Nat} (m : M8 vN vG vU vR D) (o : OkD T D) {l : Nat → Nat} {n a b : Nat} (hx0 : ∀ r, r ≠ 1 → x r = vG r) (hx1 : ∀ i, i < n → x 1 (D.G * 5 + i) = nI (l i)) (hx2 : ∀ j, j < D.G * 5 → x 1 j = vG 1 j) : M8 vN (va_up (va_up (va_up (va_up (va_up (va_up (va_up (va_up x 2 (upd (x 2) D.G (nI n))) 3 (upd (x 3) D.G (nI a))) 4 (upd (x 4) D.G (nI b))) 5 (upd (x 5) D.G m1)) 6 (upd (x 6) D.G (nI 0))) 7 (upd (x 7) D.G (nI 0))) 8 (upd (x 8) D.G (nI 0))) 0 (fun _ => nI (D.G + 1))) vU vR (newG D l n a b) :=
  ⟨m.mi,
  m.ra,
  m.li,
  m.no,
  m.co,
  m.pu,
  m.ti,
  rfl,
  m.U,
  m.R,
  fun k i (hk : k < D.G + 1) hi => by
    show x 1 (k * 5 + i) = nI ((newG D l n a b).lt (5 * k + i))
    have hi' : i < (newG D l n a b).ln k := hi
    by_cases e : k = D.G
    · subst e
      rw [newG_ln] at hi'
      rw [newG_lt D l n a b rfl]
      exact hx1 i hi'
    · have h : k < D.G := by omega
      rw [newG_ln' D l n a b h] at hi'
      have h1 := o.ln k h
      rw [newG_lo D l n a b h (by omega), hx2 _ (by omega)]
      exact m.lt k i h hi',
  fun k (hk : k < D.G + 1) => by
    show upd (x 2) D.G (nI n) k = nI ((newG D l n a b).ln k)
    by_cases e : k = D.G
    · subst e
      rw [up_eq, newG_ln]
    · have h : k < D.G := by omega
      rw [up_ne e, newG_ln' D l n a b h, hx0 2 (by decide)]
      exact m.ln k h,
  fun k (hk : k < D.G + 1) => by
    show upd (x 3) D.G (nI a) k = nI ((newG D l n a b).gi k)
    by_cases e : k = D.G
    · subst e
      rw [up_eq, newG_gi]
    · have h : k < D.G := by omega
      rw [up_ne e, newG_gi' D l n a b h, hx0 3 (by decide)]
      exact m.gi k h,
  fun k (hk : k < D.G + 1) => by
    show upd (x 4) D.G (nI b) k = nI ((newG D l n a b).ba k)
    by_cases e : k = D.G
    · subst e
      rw [up_eq, newG_ba]
    · have h : k < D.G := by omega
      rw [up_ne e, newG_ba' D l n a b h, hx0 4 (by decide)]
      exact m.ba k h,
  fun k (hk : k < D.G + 1) => by
    show upd (x 5) D.G (m1) k = if (newG D l n a b).ou k = 0 then m1 else nI ((newG D l n a b).si k)
    by_cases e : k = D.G
    · subst e
      rw [up_eq, newG_ou, if_pos rfl]
    · have h : k < D.G := by omega
      rw [up_ne e, newG_ou' D l n a b h, newG_si' D l n a b h, hx0 5 (by decide)]
      exact m.si k h,
  fun k (hk : k < D.G + 1) => by
    show upd (x 6) D.G (nI 0) k = nI ((newG D l n a b).so k)
    by_cases e : k = D.G
    · subst e
      rw [up_eq, newG_so]
    · have h : k < D.G := by omega
      rw [up_ne e, newG_so' D l n a b h, hx0 6 (by decide)]
      exact m.so k h,
  fun k (hk : k < D.G + 1) => by
    show upd (x 7) D.G (nI 0) k = nI ((newG D l n a b).wk k)
    by_cases e : k = D.G
    · subst e
      rw [up_eq, newG_wk]
    · have h : k < D.G := by omega
      rw [up_ne e, newG_wk' D l n a b h, hx0 7 (by decide)]
      exact m.wk k h,
  fun k (hk : k < D.G + 1) h0 => by
    show upd (x 8) D.G (nI 0) k = nI ((newG D l n a b).wa k)
    have h0' : (newG D l n a b).wk k ≠ 0 := h0
    by_cases e : k = D.G
    · subst e
      rw [up_eq, newG_wa]
    · have h : k < D.G := by omega
      rw [newG_wk' D l n a b h] at h0'
      rw [up_ne e, newG_wa' D l n a b h, hx0 8 (by decide)]
      exact m.wa k h h0',
  m.ow,
  m.we,
  m.ca,
  m.ew,
  m.eg,
  m.el⟩
theorem OkD.s_gst {T : Nat} {D : Dn} (o : OkD T D) {l : Nat → Nat} {n a b : Nat} (hG : D.G < 10) (hn : 1 ≤ n ∧ n ≤ 5) (hl : ∀ i, i < n → 97 ≤ l i ∧ l i ≤ 122) (ha : a ≤ 9) (hb : b ≤ 9) : OkD T (newG D l n a b) :=
  ⟨o.tT,
  o.mi,
  o.ra,
  o.li,
  o.no,
  o.co,
  o.pu,
  o.ti,
  hG,
  o.U,
  o.R,
  fun k (hk : k < D.G + 1) => by
    show 1 ≤ (newG D l n a b).ln k ∧ (newG D l n a b).ln k ≤ 5
    by_cases e : k = D.G
    · subst e; rw [newG_ln]; exact hn
    · rw [newG_ln' D l n a b (show k < D.G by omega)]; exact o.ln k (by omega),
  fun k i (hk : k < D.G + 1) hi => by
    show 97 ≤ (newG D l n a b).lt (5 * k + i) ∧ (newG D l n a b).lt (5 * k + i) ≤ 122
    have hi' : i < (newG D l n a b).ln k := hi
    by_cases e : k = D.G
    · subst e
      rw [newG_ln] at hi'
      rw [newG_lt D l n a b rfl]
      exact hl i hi'
    · have h : k < D.G := by omega
      rw [newG_ln' D l n a b h] at hi'
      have h1 := o.ln k h
      rw [newG_lo D l n a b h (by omega)]
      exact o.lt k i h hi',
  fun k (hk : k < D.G + 1) => by
    show (newG D l n a b).gi k ≤ 9
    by_cases e : k = D.G
    · subst e; rw [newG_gi]; exact ha
    · rw [newG_gi' D l n a b (show k < D.G by omega)]; exact o.gi k (by omega),
  fun k (hk : k < D.G + 1) => by
    show (newG D l n a b).ba k ≤ 9
    by_cases e : k = D.G
    · subst e; rw [newG_ba]; exact hb
    · rw [newG_ba' D l n a b (show k < D.G by omega)]; exact o.ba k (by omega),
  fun k (hk : k < D.G + 1) => by
    show (newG D l n a b).ou k ≤ 1
    by_cases e : k = D.G
    · subst e; rw [newG_ou]; exact Nat.zero_le _
    · rw [newG_ou' D l n a b (show k < D.G by omega)]; exact o.ou k (by omega),
  fun k (hk : k < D.G + 1) => by
    show (newG D l n a b).si k ≤ D.mi
    by_cases e : k = D.G
    · subst e; rw [newG_si]; exact Nat.zero_le _
    · rw [newG_si' D l n a b (show k < D.G by omega)]; exact o.si k (by omega),
  fun k (hk : k < D.G + 1) => by
    show (newG D l n a b).so k ≤ 999
    by_cases e : k = D.G
    · subst e; rw [newG_so]; exact Nat.zero_le _
    · rw [newG_so' D l n a b (show k < D.G by omega)]; exact o.so k (by omega),
  fun k (hk : k < D.G + 1) => by
    show (newG D l n a b).wk k ≤ T
    by_cases e : k = D.G
    · subst e; rw [newG_wk]; exact Nat.zero_le _
    · rw [newG_wk' D l n a b (show k < D.G by omega)]; exact o.wk k (by omega),
  fun k (hk : k < D.G + 1) h0 => by
    show (newG D l n a b).wa k ≤ D.mi
    have h0' : (newG D l n a b).wk k ≠ 0 := h0
    by_cases e : k = D.G
    · subst e; rw [newG_wa]; exact Nat.zero_le _
    · have h : k < D.G := by omega
      rw [newG_wk' D l n a b h] at h0'
      rw [newG_wa' D l n a b h]; exact o.wa k h h0',
  fun k hk => Nat.lt_succ_of_lt (o.ow k hk),
  o.we,
  fun k hk => Nat.le_succ_of_le (o.ca k hk),
  fun k hk => Nat.lt_succ_of_lt (o.eg k hk),
  o.el,
  o.ew,
  o.up⟩

theorem okn_gst {T : Nat} {D : Dn} (o : OkN T D) {l : Nat → Nat} {n a b : Nat} (hG : D.G < 10) (hn : 1 ≤ n ∧ n ≤ 5) (hl : ∀ i, i < n → 97 ≤ l i ∧ l i ≤ 122) (ha : a ≤ 9) (hb : b ≤ 9) : OkN T (newG D l n a b) := by
  refine ⟨o.1.s_gst hG hn hl ha hb, ?_, o.2.2⟩
  have he : ∀ i, newG D l n a b 13 i = D 13 i ∧ newG D l n a b 14 i = D 14 i ∧ newG D l n a b 15 i = D 15 i := fun i => ⟨rfl, rfl, rfl⟩
  constructor
  · intro k hk
    show D 15 k = 0 ↔ awF (newG D l n a b) (D 14 k) k ≠ 0
    rw [awF_ext fun i _ => he i]
    exact o.2.1.1 k hk
  · intro g hg
    have hg' : g < D.G + 1 := hg
    show awF (newG D l n a b) g D.R = _
    rw [awF_ext fun i _ => he i]
    by_cases e : g = D.G
    · subst e
      rw [newG_ou, if_pos rfl]
      exact awF_none fun i hi => by have := o.1.eg i hi; omega
    · have h : g < D.G := by omega
      rw [newG_ou' D l n a b h, newG_si' D l n a b h]
      exact o.2.1.2 g h
theorem u_addG {vN : Nat → Int32} {vG vU vR vB : Nat → Nat → Int32} {D : Dn} {T : Nat} (m : M8 vN vG vU vR D) (o : OkD T D) {l : Nat → Nat} {s n a b : Nat} (hG : D.G < 10) (hn : n ≤ 5) (hs : s + n ≤ 600) (hb : ∀ i, i < n → vB 1 (s + i) = nI (l i)) : ∃ r, F_X1_add vG vB (nI s) (nI n) (nI a) (nI b) = some r ∧ r.1 = nI D.G ∧ M8 vN r.2 vU vR (newG D l n a b) := by
  have e0 : F_X1_add vG vB (nI s) (nI n) (nI a) (nI b) = L_X1_add_9 vB (nI s) (nI n) (nI a) (nI b) FU (nI D.G) 0 vG := by
    unfold F_X1_add
    rw [m.G]
  rw [e0]
  refine lp_inv (L := fun f k x => L_X1_add_9 vB (nI s) (nI n) (nI a) (nI b) f (nI D.G) k x) (I := fun k x => (∀ r, r ≠ 1 → x r = vG r) ∧ (∀ i, i < k → x 1 (D.G * 5 + i) = nI (l i)) ∧ (∀ j, j < D.G * 5 → x 1 j = vG 1 j)) (Q := fun r => r.1 = nI D.G ∧ M8 vN r.2 vU vR (newG D l n a b)) (U := n) (fun f k x hk hI => ?_) (fun f x hI => ?_) FU 0 vG (Nat.zero_le _) (by unfold FU; omega) ⟨fun _ _ => rfl, fun i h => absurd h (Nat.not_lt_zero i), fun _ _ => rfl⟩
  · obtain ⟨i1, i2, i3⟩ := hI
    have c1 : ¬ n ≤ k := by omega
    have e1 := hb k hk
    refine ⟨va_up x 1 (upd (x 1) (D.G * 5 + k) (nI (l k))), ⟨fun r hr => (va_up_ne _ _ hr).trans (i1 r hr), fun i hi => ?_, fun j hj => ?_⟩, ?_⟩
    · show upd (x 1) (D.G * 5 + k) (nI (l k)) (D.G * 5 + i) = nI (l i)
      by_cases c : i = k
      · rw [c, up_eq]
      · rw [up_ne (by omega)]; exact i2 i (by omega)
    · show upd (x 1) (D.G * 5 + k) (nI (l k)) j = vG 1 j
      rw [up_ne (by omega)]; exact i3 j hj
    · simp (disch := omega) only [L_X1_add_9, B_X1_add_9, q_lit, nI_add, pk_mul, q_lt0, q_ck, q_cl, q_le, c1, if_false, e1]
  · obtain ⟨i1, i2, i3⟩ := hI
    have m' := m.s_gst (l := l) (n := n) (a := a) (b := b) o i1 i2 i3
    refine ⟨(nI D.G, _), ?_, rfl, m'⟩
    have e0 : x 0 0 = nI D.G := by rw [i1 0 (by decide)]; exact m.G
    simp (disch := omega) only [L_X1_add_9, B_X1_add_9, q_lit, q_neg, nI_add, q_lt0, q_ck, q_cl, q_le, Nat.le_refl, if_true, va_up_ne, e0]
    rfl
theorem u_addU {vN : Nat → Int32} {vG vU vR : Nat → Nat → Int32} {D : Dn} {T : Nat} (m : M8 vN vG vU vR D) (o : OkD T D) {a b : Nat} (hU : D.U < 12) : ∃ r, F_X7_add vU (nI a) (nI b) = some r ∧ r.1 = nI D.U ∧ M8 vN vG r.2 vR (upD (upD (upD (upD D 10 D.U a) 11 D.U b) 12 D.U 0) 0 8 (D.U + 1)) := by
  have m' := m.s_umb (a := a) (b := b)
  refine ⟨(nI D.U, _), ?_, rfl, m'⟩
  simp (disch := omega) only [F_X7_add, q_lit, q_neg, nI_add, q_lt0, q_ck, q_cl, m.U, va_up_ne]
  rfl
theorem okn_addU {T : Nat} {D : Dn} (o : OkN T D) {a b : Nat} (hU : D.U < 12) (ha : a < D.G) (hb : b ≤ 99) : OkN T (upD (upD (upD (upD D 10 D.U a) 11 D.U b) 12 D.U 0) 0 8 (D.U + 1)) :=
  ⟨o.1.s_umb hU ha hb, alt_same o.2.1 rfl rfl (fun _ => ⟨rfl, rfl, rfl⟩) (fun _ _ => ⟨rfl, rfl⟩), o.2.2⟩
theorem okn_walk {T : Nat} {D : Dn} (o : OkN T D) {g : Nat} (hg : g < D.G) (hT : T + 1 ≤ 600) : OkN (T + 1) (upD (upD D 9 g D.mi) 8 g (D.wk g + 1)) :=
  ⟨o.1.s_walk hg hT, alt_same o.2.1 rfl rfl (fun _ => ⟨rfl, rfl, rfl⟩) (fun _ _ => ⟨rfl, rfl⟩), o.2.2⟩
theorem u_walk {vN : Nat → Int32} {vG vU vR : Nat → Nat → Int32} {D : Dn} {T g : Nat} (m : M8 vN vG vU vR D) (o : OkD T D) (hg : g < D.G) : ∃ r, F_X1_walkAt vG (nI g) (nI D.mi) = some r ∧ r.1 = nI (D.wk g + 1) ∧ M8 vN r.2 vU vR (upD (upD D 9 g D.mi) 8 g (D.wk g + 1)) := by
  have hG := o.G
  have m' := m.s_walk (g := g) (a := D.mi) (b := D.wk g + 1)
  refine ⟨(nI (D.wk g + 1), _), ?_, rfl, m'⟩
  have e7 : vG 7 g = nI (D.wk g) := m.wk g hg
  simp (disch := omega) only [F_X1_walkAt, q_lit, nI_add, q_lt0, q_ck, q_cl, e7, va_up_ne, va_eq, up_eq]
  rfl


