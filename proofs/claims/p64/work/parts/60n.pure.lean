/-! leaving, returning, walking, umbrellas -/
theorem OkD.s_ca {T : Nat} {D : Dn} (o : OkD T D) {g v : Nat} (hv : v ≤ D.G) : OkD T (upD D 12 g v) :=
  ⟨o.tT,
  o.mi,
  o.ra,
  o.li,
  o.no,
  o.co,
  o.pu,
  o.ti,
  o.G,
  o.U,
  o.R,
  o.ln,
  o.lt,
  o.gi,
  o.ba,
  o.ou,
  o.si,
  o.so,
  o.wk,
  o.wa,
  o.ow,
  o.we,
  fun k hk => by
    show upD D 12 g v 12 k ≤ D.G
    by_cases c : k = g
    · subst c; rw [upD_hit]; exact hv
    · rw [upD_miss _ _ _ _ c]; exact o.ca k hk,
  o.eg,
  o.el,
  o.ew,
  o.up⟩
theorem OkD.s_ou {T : Nat} {D : Dn} (o : OkD T D) {g v : Nat} (hv : v ≤ 1) : OkD T (upD D 5 g v) :=
  ⟨o.tT,
  o.mi,
  o.ra,
  o.li,
  o.no,
  o.co,
  o.pu,
  o.ti,
  o.G,
  o.U,
  o.R,
  o.ln,
  o.lt,
  o.gi,
  o.ba,
  fun k hk => by
    show upD D 5 g v 5 k ≤ 1
    by_cases c : k = g
    · subst c; rw [upD_hit]; exact hv
    · rw [upD_miss _ _ _ _ c]; exact o.ou k hk,
  o.si,
  o.so,
  o.wk,
  o.wa,
  o.ow,
  o.we,
  o.ca,
  o.eg,
  o.el,
  o.ew,
  o.up⟩
theorem OkD.s_si {T : Nat} {D : Dn} (o : OkD T D) {g v : Nat} (hv : v ≤ D.mi) : OkD T (upD D 6 g v) :=
  ⟨o.tT,
  o.mi,
  o.ra,
  o.li,
  o.no,
  o.co,
  o.pu,
  o.ti,
  o.G,
  o.U,
  o.R,
  o.ln,
  o.lt,
  o.gi,
  o.ba,
  o.ou,
  fun k hk => by
    show upD D 6 g v 6 k ≤ D.mi
    by_cases c : k = g
    · subst c; rw [upD_hit]; exact hv
    · rw [upD_miss _ _ _ _ c]; exact o.si k hk,
  o.so,
  o.wk,
  o.wa,
  o.ow,
  o.we,
  o.ca,
  o.eg,
  o.el,
  o.ew,
  o.up⟩
theorem OkD.s_ent {T : Nat} {D : Dn} (o : OkD T D) {a b c v : Nat} (hR : D.R < 60) (ha : a = D.mi) (hb : b < D.G) (hc : c ≤ 1) (hv : v ≤ 9 * (D.R + 1)) : OkD T (upD (upD (upD (upD (upD D 0 6 v) 13 D.R a) 14 D.R b) 15 D.R c) 0 9 (D.R + 1)) :=
  ⟨o.tT,
  o.mi,
  o.ra,
  o.li,
  o.no,
  o.co,
  o.pu,
  hv,
  o.G,
  o.U,
  hR,
  o.ln,
  o.lt,
  o.gi,
  o.ba,
  o.ou,
  o.si,
  o.so,
  o.wk,
  o.wa,
  o.ow,
  o.we,
  o.ca,
  fun k (hk : k < D.R + 1) => by
    show upD (upD D 0 6 v) 14 D.R b 14 k < D.G
    by_cases e : k = D.R
    · rw [e, upD_hit]; exact hb
    · rw [upD_miss _ _ _ _ e]; exact o.eg k (by omega),
  fun k (hk : k < D.R + 1) => by
    show upD (upD D 0 6 v) 15 D.R c 15 k ≤ 1
    by_cases e : k = D.R
    · rw [e, upD_hit]; exact hc
    · rw [upD_miss _ _ _ _ e]; exact o.el k (by omega),
  fun k (hk : k < D.R + 1) => by
    show upD (upD D 0 6 v) 13 D.R a 13 k ≤ D.mi
    by_cases e : k = D.R
    · rw [e, upD_hit]; exact Nat.le_of_eq ha
    · rw [upD_miss _ _ _ _ e]; exact o.ew k (by omega),
  fun j k hj (hk : k < D.R + 1) => by
    show upD (upD D 0 6 v) 13 D.R a 13 j ≤ upD (upD D 0 6 v) 13 D.R a 13 k
    by_cases e : k = D.R
    · rw [e, upD_hit]
      by_cases e2 : j = D.R
      · rw [e2, upD_hit]; exact Nat.le_refl _
      · rw [upD_miss _ _ _ _ e2, ha]; exact o.ew j (by omega)
    · rw [upD_miss _ _ _ _ e, upD_miss _ _ _ _ (show j ≠ D.R by omega)]; exact o.up j k hj (by omega)⟩
theorem OkD.s_umb {T : Nat} {D : Dn} (o : OkD T D) {a b : Nat} (hU : D.U < 12) (ha : a < D.G) (hb : b ≤ 99) : OkD T (upD (upD (upD (upD D 10 D.U a) 11 D.U b) 12 D.U 0) 0 8 (D.U + 1)) :=
  ⟨o.tT,
  o.mi,
  o.ra,
  o.li,
  o.no,
  o.co,
  o.pu,
  o.ti,
  o.G,
  hU,
  o.R,
  o.ln,
  o.lt,
  o.gi,
  o.ba,
  o.ou,
  o.si,
  o.so,
  o.wk,
  o.wa,
  fun k (hk : k < D.U + 1) => by
    show upD D 10 D.U a 10 k < D.G
    by_cases e : k = D.U
    · rw [e, upD_hit]; exact ha
    · rw [upD_miss _ _ _ _ e]; exact o.ow k (by omega),
  fun k (hk : k < D.U + 1) => by
    show upD D 11 D.U b 11 k ≤ 99
    by_cases e : k = D.U
    · rw [e, upD_hit]; exact hb
    · rw [upD_miss _ _ _ _ e]; exact o.we k (by omega),
  fun k (hk : k < D.U + 1) => by
    show upD D 12 D.U 0 12 k ≤ D.G
    by_cases e : k = D.U
    · rw [e, upD_hit]; exact Nat.zero_le _
    · rw [upD_miss _ _ _ _ e]; exact o.ca k (by omega),
  o.eg,
  o.el,
  o.ew,
  o.up⟩
theorem OkD.s_walk {T : Nat} {D : Dn} (o : OkD T D) {g : Nat} (hg : g < D.G) (hT : T + 1 ≤ 600) : OkD (T + 1) (upD (upD D 9 g D.mi) 8 g (D.wk g + 1)) :=
  ⟨hT,
  o.mi,
  o.ra,
  o.li,
  o.no,
  o.co,
  o.pu,
  o.ti,
  o.G,
  o.U,
  o.R,
  o.ln,
  o.lt,
  o.gi,
  o.ba,
  o.ou,
  o.si,
  o.so,
  fun k hk => by
    show upD (upD D 9 g D.mi) 8 g (D.wk g + 1) 8 k ≤ T + 1
    by_cases c : k = g
    · subst c; rw [upD_hit]; have := o.wk k hg; omega
    · rw [upD_miss _ _ _ _ c]; have := o.wk k hk; exact Nat.le_succ_of_le this,
  fun k hk h0 => by
    show upD D 9 g D.mi 9 k ≤ D.mi
    by_cases c : k = g
    · subst c; rw [upD_hit]; exact Nat.le_refl _
    · rw [upD_miss _ _ _ _ c]
      refine o.wa k hk ?_
      have h1 : upD (upD D 9 g D.mi) 8 g (D.wk g + 1) 8 k ≠ 0 := h0
      rw [upD_miss _ _ _ _ c] at h1
      exact h1,
  o.ow,
  o.we,
  o.ca,
  o.eg,
  o.el,
  o.ew,
  o.up⟩
theorem OkD.mono {T : Nat} {D : Dn} (o : OkD T D) {T' : Nat} (hT : T ≤ T') (hT' : T' ≤ 600) : OkD T' D :=
  ⟨hT',
  o.mi,
  o.ra,
  o.li,
  o.no,
  o.co,
  o.pu,
  o.ti,
  o.G,
  o.U,
  o.R,
  o.ln,
  o.lt,
  o.gi,
  o.ba,
  o.ou,
  o.si,
  o.so,
  fun k hk => Nat.le_trans (o.wk k hk) hT,
  o.wa,
  o.ow,
  o.we,
  o.ca,
  o.eg,
  o.el,
  o.ew,
  o.up⟩
theorem OkN.mono {T T' : Nat} {D : Dn} (o : OkN T D) (hT : T ≤ T') (hT' : T' ≤ 600) : OkN T' D := ⟨o.1.mono hT hT', o.2⟩
def entD (D : Dn) (a b c : Nat) : Dn := upD (upD (upD (upD D 13 D.R a) 14 D.R b) 15 D.R c) 0 9 (D.R + 1)
theorem awF_ext {D E : Dn} {g n : Nat} (h : ∀ i, i < n → E 13 i = D 13 i ∧ E 14 i = D 14 i ∧ E 15 i = D 15 i) : awF E g n = awF D g n := by
  induction n with
  | zero => rfl
  | succ n ih =>
    have h1 := h n (by omega)
    simp only [awF, Dn.eg, Dn.el, Dn.ew, h1, ih fun i hi => h i (by omega)]
    rfl
theorem awF_none {D : Dn} {g n : Nat} (h : ∀ i, i < n → D.eg i ≠ g) : awF D g n = 0 := by
  induction n with
  | zero => rfl
  | succ n ih => simp only [awF, h n (by omega), if_false, ih fun i hi => h i (by omega)]
theorem alt_same {D E : Dn} (al : Alt D) (hG : E.G = D.G) (hR : E.R = D.R) (he : ∀ i, E 13 i = D 13 i ∧ E 14 i = D 14 i ∧ E 15 i = D 15 i) (ho : ∀ h, h < D.G → E.ou h = D.ou h ∧ E.si h = D.si h) : Alt E := by
  constructor
  · intro n hn
    rw [hR] at hn
    have h1 := he n
    show E 15 n = 0 ↔ awF E (E 14 n) n ≠ 0
    rw [h1.2.1, h1.2.2, awF_ext fun i _ => he i]
    exact al.1 n hn
  · intro g hg
    rw [hG] at hg
    rw [hR, awF_ext fun i _ => he i, (ho g hg).1, (ho g hg).2]
    exact al.2 g hg
theorem alt_ent {D E : Dn} {a g c : Nat} (al : Alt D) (hG : E.G = D.G) (hR : E.R = D.R) (he : ∀ i, E 13 i = D 13 i ∧ E 14 i = D 14 i ∧ E 15 i = D 15 i) (ho : ∀ h, h ≠ g → E.ou h = D.ou h ∧ E.si h = D.si h) (hg : g < D.G) (h1 : (c = 0 ∧ D.ou g = 1 ∧ E.ou g = 0) ∨ (c = 1 ∧ D.ou g = 0 ∧ E.ou g = 1 ∧ E.si g = a)) : Alt (entD E a g c) := by
  have e13 : ∀ i, entD E a g c 13 i = upD E 13 E.R a 13 i := fun i => rfl
  have e14 : ∀ i, entD E a g c 14 i = upD E 14 E.R g 14 i := fun i => rfl
  have e15 : ∀ i, entD E a g c 15 i = upD E 15 E.R c 15 i := fun i => rfl
  have hx : ∀ i, i < D.R → entD E a g c 13 i = D 13 i ∧ entD E a g c 14 i = D 14 i ∧ entD E a g c 15 i = D 15 i := fun i hi => by
    rw [e13, e14, e15, upD_miss _ _ _ _ (by omega), upD_miss _ _ _ _ (by omega), upD_miss _ _ _ _ (by omega)]
    exact he i
  have ha : ∀ h n, n ≤ D.R → awF (entD E a g c) h n = awF D h n := fun h n hn => awF_ext fun i hi => hx i (by omega)
  have hg2 := al.2 g hg
  have r14 : (entD E a g c).eg D.R = g := by
    show entD E a g c 14 D.R = g
    rw [e14, ← hR, upD_hit]
  have r15 : (entD E a g c).el D.R = c := by
    show entD E a g c 15 D.R = c
    rw [e15, ← hR, upD_hit]
  have r13 : (entD E a g c).ew D.R = a := by
    show entD E a g c 13 D.R = a
    rw [e13, ← hR, upD_hit]
  constructor
  · intro n hn
    have hn' : n < D.R + 1 := by rw [← hR]; exact hn
    by_cases e : n = D.R
    · subst e
      rw [r14, r15, ha g _ (Nat.le_refl _), hg2]
      rcases h1 with ⟨a1, a2, _⟩ | ⟨a1, a2, _⟩
      · rw [a1, a2]; simp
      · rw [a1, a2]; simp
    · have hx' := hx n (by omega)
      show entD E a g c 15 n = 0 ↔ awF (entD E a g c) (entD E a g c 14 n) n ≠ 0
      rw [hx'.2.1, hx'.2.2, ha _ _ (by omega)]
      exact al.1 n (by omega)
  · intro h hh
    have hh' : h < D.G := by rw [← hG]; exact hh
    rw [show (entD E a g c).R = D.R + 1 by rw [← hR]; rfl]
    show awF (entD E a g c) h (D.R + 1) = if E.ou h = 0 then 0 else E.si h + 1
    simp only [awF, r14, r15, r13, ha h D.R (Nat.le_refl _)]
    by_cases c1 : g = h
    · subst c1
      rw [if_pos rfl]
      rcases h1 with ⟨a1, a2, a3⟩ | ⟨a1, a2, a3, a4⟩
      · rw [a1, a3]; rfl
      · rw [a1, a3, a4]
    · rw [if_neg c1, al.2 h hh', (ho h (fun e => c1 e.symm)).1, (ho h (fun e => c1 e.symm)).2]
theorem u_enter {vN : Nat → Int32} {vG vU vR : Nat → Nat → Int32} {D : Dn} {T b c : Nat} (m : M8 vN vG vU vR D) (o : OkD T D) (hR : D.R < 60) (s : Int32) (hs : s = if c = 0 then nI 43 else nI 45) : ∃ r, F_X5_enter vR (nI D.mi) (nI b) s = some r ∧ M8 vN vG vU r (entD D D.mi b c) := by
  refine ⟨_, ?_, m.s_ent (a := D.mi) (b := b) (c := c)⟩
  subst hs
  have e0 : vR 0 0 = nI D.R := m.R
  simp (disch := omega) only [F_X5_enter, q_lit, nI_add, q_lt0, q_ck, q_cl, e0, va_up_ne]
def takeE (D : Dn) (g : Nat) : Dn := if takeD D g = 0 then D else upD D 12 (takeD D g - 1) (g + 1)
def leaveD (D : Dn) (g : Nat) : Dn := entD (upD (upD (upD (takeE D g) 7 g 0) 5 g 1) 6 g D.mi) D.mi g 1
theorem takeE_o (D : Dn) (g a b : Nat) (h : a ≠ 12) : takeE D g a b = D a b := by
  unfold takeE
  split
  · rfl
  · exact if_neg h
theorem ok_takeE {T : Nat} {D : Dn} (o : OkD T D) {g : Nat} (hg : g < D.G) : OkD T (takeE D g) := by
  unfold takeE
  split
  · exact o
  · exact o.s_ca (by omega)
theorem okn_leave {T : Nat} {D : Dn} (o : OkN T D) {g : Nat} (hg : g < D.G) (ho : D.ou g = 0) (hR : D.R < 60) : OkN T (leaveD D g) := by
  have t := takeE_o D g
  have hG : (takeE D g).G = D.G := t 0 7 (by decide)
  have hRR : (takeE D g).R = D.R := t 0 9 (by decide)
  have hmi : (takeE D g).mi = D.mi := t 0 0 (by decide)
  have hti : (takeE D g).ti = D.ti := t 0 6 (by decide)
  have o1 : OkD T (upD (upD (upD (takeE D g) 7 g 0) 5 g 1) 6 g D.mi) := (((ok_takeE o.1 hg).s_so (Nat.zero_le _)).s_ou (Nat.le_refl _)).s_si (show D.mi ≤ (takeE D g).mi by rw [hmi]; exact Nat.le_refl _)
  have o2 := o1.s_ent (a := D.mi) (b := g) (c := 1) (v := D.ti) (show (takeE D g).R < 60 by rw [hRR]; exact hR) (show D.mi = (takeE D g).mi from hmi.symm) (show g < (takeE D g).G by rw [hG]; exact hg) (Nat.le_refl _) (show D.ti ≤ 9 * ((takeE D g).R + 1) by rw [hRR]; have := o.1.ti; omega)
  refine ⟨?_, ?_, ?_⟩
  · have : upD (upD (upD (upD (takeE D g) 7 g 0) 5 g 1) 6 g D.mi) 0 6 D.ti = upD (upD (upD (takeE D g) 7 g 0) 5 g 1) 6 g D.mi := by
      have := upD_id (upD (upD (upD (takeE D g) 7 g 0) 5 g 1) 6 g D.mi) 0 6
      rw [show upD (upD (upD (takeE D g) 7 g 0) 5 g 1) 6 g D.mi 0 6 = D.ti from hti] at this
      exact this
    rw [this] at o2
    exact o2
  · refine alt_ent (D := D) o.2.1 hG hRR (fun i => ⟨t 13 i (by decide), t 14 i (by decide), t 15 i (by decide)⟩) (fun h hh => ?_) hg (Or.inr ⟨rfl, ho, upD_hit _ 5 g 1, upD_hit _ 6 g D.mi⟩)
    constructor
    · show upD (upD (takeE D g) 7 g 0) 5 g 1 5 h = D 5 h
      rw [upD_miss _ _ _ _ hh]
      exact t 5 h (by decide)
    · show upD (upD (upD (takeE D g) 7 g 0) 5 g 1) 6 g D.mi 6 h = D 6 h
      rw [upD_miss _ _ _ _ hh]
      exact t 6 h (by decide)
  · show (takeE D g).mi ≤ 720
    rw [hmi]
    exact o.2.2
theorem u_leaveJ {vN : Nat → Int32} {vG vU vR : Nat → Nat → Int32} {D : Dn} {T g : Nat} (m : M8 vN vG vU vR D) (o : OkD T D) (hg : g < D.G) (hR : D.R < 60) : ∃ r, J_X3_letLeave_21 vN (nI g) vG vU vR = some r ∧ M8 vN r.1 r.2.1 r.2.2 (entD (upD (upD (upD D 7 g 0) 5 g 1) 6 g D.mi) D.mi g 1) := by
  have hG := o.G
  have m1 := (m.s_so (g := g) (v := 0)).s_out (g := g) (v := D.mi)
  have o1 : OkD T (upD (upD (upD D 7 g 0) 5 g 1) 6 g D.mi) := ((o.s_so (Nat.zero_le _)).s_ou (Nat.le_refl _)).s_si (Nat.le_refl _)
  obtain ⟨r, e1, m2⟩ := u_enter (b := g) (c := 1) m1 o1 hR (nI 45) rfl
  have e1' : F_X5_enter vR (nI D.mi) (nI g) (nI 45) = some r := e1
  refine ⟨(va_up (va_up vG 6 (upd (vG 6) g (nI 0))) 5 (upd (vG 5) g (nI D.mi)), vU, r), ?_, m2⟩
  simp (disch := omega) only [J_X3_letLeave_21, q_lit, q_ck, q_cl, q_lt0, q_sb, m.mi, e1', va_up_ne]
theorem u_leave {vN : Nat → Int32} {vG vU vR : Nat → Nat → Int32} {D : Dn} {T g : Nat} (m : M8 vN vG vU vR D) (o : OkD T D) (hg : g < D.G) (hR : D.R < 60) : ∃ r, F_X3_letLeave vN vG vU vR (nI g) = some r ∧ M8 vN r.1 r.2.1 r.2.2 (leaveD D g) := by
  have hG := o.G
  have hU := o.U
  have h1 := u_take m o hg
  have h2 := takeD_le o g
  unfold leaveD takeE
  by_cases c : takeD D g = 0
  · rw [c, nz_0] at h1
    rw [if_pos c]
    obtain ⟨r, e1, e2⟩ := u_leaveJ m o hg hR
    refine ⟨r, ?_, e2⟩
    simp (disch := omega) only [F_X3_letLeave, h1, q_sb, q_lit, q_neg, eq_self, if_true]
    exact e1
  · rw [show nz (takeD D g) = nI (takeD D g - 1) from if_neg c] at h1
    rw [if_neg c]
    have m1 := m.s_ca (g := takeD D g - 1) (v := g + 1)
    obtain ⟨r, e1, e2⟩ := u_leaveJ m1 (o.s_ca (by omega)) hg hR
    refine ⟨r, ?_, e2⟩
    rw [nz_s] at e1
    simp (disch := omega) only [F_X3_letLeave, h1, q_ck, q_cl, q_lt0, q_sb, q_lit, q_neg, q_m1e, if_false]
    exact e1
/-! returning -/
def untake (D : Dn) (g : Nat) : Dn := if carr D g = 0 then D else upD D 12 (carr D g - 1) 0
def retD (D : Dn) (g : Nat) : Dn := entD (upD (upD (untake D g) 5 g 0) 0 6 (D.ti + tipD D g)) D.mi g 0
theorem untake_o (D : Dn) (g a b : Nat) (h : a ≠ 12) : untake D g a b = D a b := by
  unfold untake
  split
  · rfl
  · exact if_neg h
theorem ok_untake {T : Nat} {D : Dn} (o : OkD T D) (g : Nat) : OkD T (untake D g) := by
  unfold untake
  split
  · exact o
  · exact o.s_ca (Nat.zero_le _)
theorem upD_comm (D : Dn) {f f' k k' v v' : Nat} (h : f ≠ f') : upD (upD D f k v) f' k' v' = upD (upD D f' k' v') f k v := dn_ext fun a b => by
  by_cases ha : a = f
  · subst ha
    simp [upD, h]
  · simp [upD, ha]
theorem tipD_le {T : Nat} {D : Dn} (o : OkD T D) {g : Nat} (hg : g < D.G) : tipD D g ≤ 9 := by
  have := o.gi g hg
  unfold tipD
  omega
theorem okn_ret {T : Nat} {D : Dn} (o : OkN T D) {g : Nat} (hg : g < D.G) (ho : D.ou g = 1) (hR : D.R < 60) : OkN T (retD D g) := by
  have t := untake_o D g
  have hG : (untake D g).G = D.G := t 0 7 (by decide)
  have hRR : (untake D g).R = D.R := t 0 9 (by decide)
  have hmi : (untake D g).mi = D.mi := t 0 0 (by decide)
  have h1 := tipD_le o.1 hg
  have h2 := o.1.ti
  have o1 : OkD T (upD (untake D g) 5 g 0) := (ok_untake o.1 g).s_ou (Nat.zero_le _)
  have o2 := o1.s_ent (a := D.mi) (b := g) (c := 0) (v := D.ti + tipD D g) (show (untake D g).R < 60 by rw [hRR]; exact hR) (show D.mi = (untake D g).mi from hmi.symm) (show g < (untake D g).G by rw [hG]; exact hg) (Nat.zero_le _) (show D.ti + tipD D g ≤ 9 * ((untake D g).R + 1) by rw [hRR]; omega)
  refine ⟨o2, ?_, ?_⟩
  · refine alt_ent (D := D) o.2.1 hG hRR (fun i => ⟨t 13 i (by decide), t 14 i (by decide), t 15 i (by decide)⟩) (fun h hh => ?_) hg (Or.inl ⟨rfl, ho, upD_hit _ 5 g 0⟩)
    constructor
    · show upD (untake D g) 5 g 0 5 h = D 5 h
      rw [upD_miss _ _ _ _ hh]
      exact t 5 h (by decide)
    · exact t 6 h (by decide)
  · show (untake D g).mi ≤ 720
    rw [hmi]
    exact o.2.2
theorem u_retJ {vN : Nat → Int32} {vG vU vR : Nat → Nat → Int32} {D : Dn} {T g x : Nat} (m : M8 vN vG vU vR D) (o : OkD T D) (hg : g < D.G) (hR : D.R < 60) (hx : x ≤ 9) : ∃ r, J_X3_letReturn_30 (nI g) (nI x) vN vG vU vR = some r ∧ r.1 = nI x ∧ M8 r.2.1 r.2.2.1 r.2.2.2.1 r.2.2.2.2 (entD (upD (upD D 5 g 0) 0 6 (D.ti + x)) D.mi g 0) := by
  have hG := o.G
  have ht := o.ti
  have m1 := (m.s_in (g := g)).s_ti (v := D.ti + x)
  have m2 := m1.s_ent (a := D.mi) (b := g) (c := 0)
  have e0 : vR 0 0 = nI D.R := m.R
  refine ⟨(nI x, va_up vN 6 (nI (D.ti + x)), va_up vG 5 (upd (vG 5) g (-1)), vU, va_up (va_up (va_up (va_up vR 1 (upd (vR 1) D.R (nI D.mi))) 2 (upd (vR 2) D.R (nI g))) 3 (upd (vR 3) D.R (nI 43))) 0 (fun _ => nI (D.R + 1))), ?_, rfl, m2⟩
  simp (disch := omega) only [J_X3_letReturn_30, F_X5_enter, q_lit, q_neg, nI_add, q_ck, q_cl, q_lt0, q_sb, m.mi, m.ti, e0, va_up_ne, eq_self, if_true]
theorem u_ret {vN : Nat → Int32} {vG vU vR : Nat → Nat → Int32} {D : Dn} {T g : Nat} (m : M8 vN vG vU vR D) (o : OkD T D) (hg : g < D.G) (hR : D.R < 60) : ∃ r, F_X3_letReturn vN vG vU vR (nI g) = some r ∧ r.1 = nI (tipD D g) ∧ M8 r.2.1 r.2.2.1 r.2.2.2.1 r.2.2.2.2 (retD D g) := by
  have hG := o.G
  have hU := o.U
  have h1 := u_tip m o hg
  have h2 : F_X7_carriedBy vU (nI g) = some (nz (carr D g)) := (u_carried m o hg).trans (congrArg some (fst1_nz _ _ _ _ rfl))
  have h3 := carr_le D g
  have h4 := tipD_le o hg
  unfold retD untake
  by_cases c : carr D g = 0
  · rw [c, nz_0] at h2
    rw [if_pos c]
    obtain ⟨r, e1, e2, e3⟩ := u_retJ m o hg hR h4
    refine ⟨r, ?_, e2, e3⟩
    simp (disch := omega) only [F_X3_letReturn, h1, h2, q_sb, q_lit, q_neg, eq_self, if_true]
    exact e1
  · rw [show nz (carr D g) = nI (carr D g - 1) from if_neg c] at h2
    rw [if_neg c]
    have m1 := m.s_ca (g := carr D g - 1) (v := 0)
    obtain ⟨r, e1, e2, e3⟩ := u_retJ m1 (o.s_ca (Nat.zero_le _)) hg hR h4
    refine ⟨r, ?_, e2, e3⟩
    rw [nz_0] at e1
    simp (disch := omega) only [F_X3_letReturn, h1, h2, q_ck, q_cl, q_lt0, q_sb, q_lit, q_neg, q_m1e, if_false]
    exact e1

