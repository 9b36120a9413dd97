/-! goes(): the law's best umbrella is the one taken -/
def dryP (D : Dn) (u : Nat) : Prop := D.ca u = 0 ∧ D.we u ≤ 50
def Bst (D : Dn) (g c b : Nat) : Prop := (b = 0 ∧ ∀ u, c ≤ u → u < D.U → ¬ dryP D u) ∨ ∃ u, b = u + 1 ∧ c ≤ u ∧ u < D.U ∧ dryP D u ∧ ((D.ow u = g ∧ ∀ w, c ≤ w → w < u → dryP D w → D.ow w ≠ g) ∨ ((∀ w, c ≤ w → w < D.U → dryP D w → D.ow w ≠ g) ∧ ∀ w, c ≤ w → w < D.U → dryP D w → D.we u ≤ D.we w ∧ (w < u → D.we u < D.we w)))
theorem dryF_sp (D : Dn) : ∀ n, (dryF D n = 0 ∧ ∀ u, u < n → ¬ dryP D u) ∨ ∃ b, dryF D n = b + 1 ∧ b < n ∧ dryP D b ∧ ∀ w, w < n → dryP D w → D.we b ≤ D.we w ∧ (w < b → D.we b < D.we w) := by
  intro n
  induction n with
  | zero => exact Or.inl ⟨rfl, fun u hu => absurd hu (Nat.not_lt_zero u)⟩
  | succ n ih =>
    by_cases c : (D.ca n = 0 ∧ D.we n ≤ 50) ∧ (dryF D n = 0 ∨ D.we n < D.we (dryF D n - 1))
    · right
      refine ⟨n, by simp only [dryF]; exact if_pos c, Nat.lt_succ_self n, c.1, fun w hw hd => ?_⟩
      by_cases e : w = n
      · subst e; exact ⟨Nat.le_refl _, fun z => absurd z (Nat.lt_irrefl _)⟩
      · have hw' : w < n := by omega
        rcases ih with ⟨z, hz⟩ | ⟨b, z, hb, hdb, hz⟩
        · exact absurd hd (hz w hw')
        · obtain ⟨z1, z2⟩ := hz w hw' hd
          rcases c.2 with k | k
          · omega
          · rw [z, Nat.add_sub_cancel] at k
            exact ⟨by omega, fun _ => by omega⟩
    · have e : dryF D (n + 1) = dryF D n := by simp only [dryF]; exact if_neg c
      rw [e]
      rcases ih with ⟨z, hz⟩ | ⟨b, z, hb, hdb, hz⟩
      · left
        refine ⟨z, fun u hu hd => ?_⟩
        by_cases e : u = n
        · subst e; exact c ⟨hd, Or.inl z⟩
        · exact hz u (by omega) hd
      · right
        refine ⟨b, z, by omega, hdb, fun w hw hd => ?_⟩
        by_cases e : w = n
        · subst e
          have : ¬ D.we w < D.we b := fun k => c ⟨hd, Or.inr (by rw [z, Nat.add_sub_cancel]; exact k)⟩
          exact ⟨by omega, fun k => by omega⟩
        · exact hz w (by omega) hd
theorem bst_take {D : Dn} {g b : Nat} (hr : D.ra ≠ 0) (h : Bst D g 0 b) : b = takeD D g := by
  have o1 := fstF_ok (fun u => decide (D.ow u = g ∧ D.ca u = 0 ∧ D.we u ≤ 50)) D.U _ 0 rfl
  have o2 := fstF_min (fun u => decide (D.ow u = g ∧ D.ca u = 0 ∧ D.we u ≤ 50)) D.U _ 0 rfl
  have et : takeD D g = if ownD D g = 0 then dryF D D.U else ownD D g := if_neg hr
  rw [et]
  by_cases e : ownD D g = 0
  · rw [if_pos e]
    have hno : ∀ w, w < D.U → dryP D w → D.ow w ≠ g := fun w hw hd k => by
      have := o2 w (Nat.zero_le _) hw (Or.inl e)
      exact of_decide_eq_false this ⟨k, hd⟩
    rcases dryF_sp D D.U with ⟨z, hz⟩ | ⟨d, z, hd, hdd, hz⟩
    · rcases h with ⟨h1, _⟩ | ⟨u, h1, _, h3, h4, _⟩
      · rw [z, h1]
      · exact absurd h4 (hz u h3)
    · rcases h with ⟨_, h2⟩ | ⟨u, h1, _, h3, h4, h5⟩
      · exact absurd hdd (h2 d (Nat.zero_le _) hd)
      · rcases h5 with ⟨h6, _⟩ | ⟨_, h6⟩
        · exact absurd h6 (hno u h3 h4)
        · obtain ⟨a1, a2⟩ := h6 d (Nat.zero_le _) hd hdd
          obtain ⟨b1, b2⟩ := hz u h3 h4
          rw [z, h1]
          rcases Nat.lt_trichotomy d u with k | k | k
          · have := a2 k; omega
          · omega
          · have := b2 k; omega
  · rw [if_neg e]
    have o1 : 0 < ownD D g ∧ ownD D g ≤ D.U ∧ decide (D.ow (ownD D g - 1) = g ∧ D.ca (ownD D g - 1) = 0 ∧ D.we (ownD D g - 1) ≤ 50) = true := by
      rcases o1 with z | z
      · exact absurd z e
      · exact z
    obtain ⟨p1, p2, p3⟩ := o1
    have p3 := of_decide_eq_true p3
    have hmin : ∀ w, w < D.U → w < ownD D g - 1 → dryP D w → D.ow w ≠ g := fun w hw hlt hd k => by
      have := o2 w (Nat.zero_le _) hw (Or.inr hlt)
      exact of_decide_eq_false this ⟨k, hd⟩
    rcases h with ⟨_, h2⟩ | ⟨u, h1, _, h3, h4, h5⟩
    · exact absurd p3.2 (h2 _ (Nat.zero_le _) (by omega))
    · rcases h5 with ⟨h6, h7⟩ | ⟨h6, _⟩
      · rcases Nat.lt_trichotomy u (ownD D g - 1) with k | k | k
        · exact absurd h6 (hmin u h3 k h4)
        · omega
        · exact absurd p3.1 (h7 _ (Nat.zero_le _) k p3.2)
      · exact absurd p3.1 (h6 _ (Nat.zero_le _) (by omega) p3.2)
def bI (b : Nat) : Int32 := if b = 0 then kN else nI (b - 1)
theorem nz_p (c : Nat) : nI c + -1 = nz c := by
  cases c with
  | zero => rfl
  | succ c =>
    rw [show nI (c + 1) = nI c + nI 1 from (nI_add c 1).symm, Int32.add_assoc, show nI 1 + -1 = (0 : Int32) by decide, Int32.add_zero]
    rfl
theorem nz_q (c : Nat) : nI c - 1 = nz c := by rw [Int32.sub_eq_add_neg]; exact nz_p c
theorem nzp2 (c : Nat) : nI c + m1 = nz c := nz_p c
section
variable {T : Nat} {v : KV} {D : Dn}
theorem gbest (h : S7 T v D) (hr : D.ra ≠ 0) {rec : Int64 → Int32 → Int32 → KV → Option (Int32 × KV)} {x1 : Int64} {x5 x6 x7 x8 : Int32} {g : Nat} (hg : g < D.G) : ∀ c n b, c ≤ D.U → c < n → Bst D g c b → L_K_goes_257 rec n x1 (nI g) x5 x6 x7 x8 (bI b) (nz c) v = J_K_goes_372 rec x1 (nI g) x5 x6 x7 x8 (bI (takeD D g)) v := by
  have o := h.2.1
  have hG := o.G
  have hU := o.U
  have hra := o.ra
  intro c
  induction c with
  | zero =>
    intro n b _ hn hb
    obtain ⟨m, rfl⟩ : ∃ m, n = m + 1 := ⟨n - 1, by omega⟩
    rw [bst_take hr hb]
    show B_K_goes_257 _ _ x1 (nI g) x5 x6 x7 x8 _ (nz 0) v = _
    unfold B_K_goes_257
    exact if_pos (show nz 0 < (0 : Int32) by decide)
  | succ c ih =>
    intro n b hc hn hb
    obtain ⟨m, rfl⟩ : ∃ m, n = m + 1 := ⟨n - 1, by omega⟩
    have hu : c < D.U := by omega
    have how := o.ow c hu
    have hwe := o.we c hu
    have c0 : ¬ D.ra ≤ 0 := by omega
    by_cases hd : D.ca c = 0 ∧ D.we c ≤ 50
    · by_cases ow : D.ow c = g
      · refine Eq.trans ?_ (ih m (c + 1) (by omega) (by omega) (Or.inr ⟨c, rfl, Nat.le_refl _, hu, hd, Or.inl ⟨ow, fun w h1 h2 => by omega⟩⟩))
        rcases hb with ⟨h1, _⟩ | ⟨u, h1, h2, h3, h4, h5⟩
        · simp (disch := omega) only [L_K_goes_257, B_K_goes_257, J_K_goes_301, J_K_goes_326, J_K_goes_362, J_K_goes_366, bI, h1, nz_s, nz_p, g_rain h, k27 h hu, k24 h hu, hd, and_self, ow, c0, q_kNl, Nat.add_sub_cancel, Nat.not_lt_zero, Nat.succ_ne_zero, nzp2, q_lit, q_neg, q_kS, q_kA, q_kN, q_kI, nI_add, pk_mul, q_sb, q_lt0, q_ck, q_cl, q_sub, q_le, q_lt, q_eq, q_m1e, q_e1m, q_m1l, eq_self, if_true, if_false, e10, e01]
        · have hu0 : u < D.U := h3
          have hou := o.ow u hu0
          have hun : ¬ u + 1 = 0 := by omega
          by_cases ou : D.ow u = g
          · simp (disch := omega) only [L_K_goes_257, B_K_goes_257, J_K_goes_301, J_K_goes_326, J_K_goes_362, J_K_goes_366, bI, h1, hun, nz_s, nz_p, g_rain h, k27 h hu, k24 h hu, k24 h hu0, hd, and_self, ow, ou, c0, q_kNl, Nat.add_sub_cancel, Nat.not_lt_zero, Nat.succ_ne_zero, nzp2, q_lit, q_neg, q_kS, q_kA, q_kN, q_kI, nI_add, pk_mul, q_sb, q_lt0, q_ck, q_cl, q_sub, q_le, q_lt, q_eq, q_m1e, q_e1m, q_m1l, eq_self, if_true, if_false, e10, e01]
          · simp (disch := omega) only [L_K_goes_257, B_K_goes_257, J_K_goes_301, J_K_goes_326, J_K_goes_362, J_K_goes_366, bI, h1, hun, nz_s, nz_p, g_rain h, k27 h hu, k24 h hu, k24 h hu0, hd, and_self, ow, ou, c0, q_kNl, Nat.add_sub_cancel, Nat.not_lt_zero, Nat.succ_ne_zero, nzp2, q_lit, q_neg, q_kS, q_kA, q_kN, q_kI, nI_add, pk_mul, q_sb, q_lt0, q_ck, q_cl, q_sub, q_le, q_lt, q_eq, q_m1e, q_e1m, q_m1l, eq_self, if_true, if_false, e10, e01]
      · rcases hb with ⟨h1, h2⟩ | ⟨u, h1, h2, h3, h4, h5⟩
        · refine Eq.trans ?_ (ih m (c + 1) (by omega) (by omega) (Or.inr ⟨c, rfl, Nat.le_refl _, hu, hd, Or.inr ⟨fun w k1 k2 k3 => ?_, fun w k1 k2 k3 => ?_⟩⟩))
          · simp (disch := omega) only [L_K_goes_257, B_K_goes_257, J_K_goes_301, J_K_goes_326, J_K_goes_362, J_K_goes_366, bI, h1, nz_s, nz_p, g_rain h, k27 h hu, k24 h hu, hd, and_self, ow, c0, q_kNl, Nat.add_sub_cancel, Nat.not_lt_zero, Nat.succ_ne_zero, nzp2, q_lit, q_neg, q_kS, q_kA, q_kN, q_kI, nI_add, pk_mul, q_sb, q_lt0, q_ck, q_cl, q_sub, q_le, q_lt, q_eq, q_m1e, q_e1m, q_m1l, eq_self, if_true, if_false, e10, e01]
          · by_cases e : w = c
            · subst e; exact ow
            · exact absurd k3 (h2 w (by omega) k2)
          · by_cases e : w = c
            · subst e; exact ⟨Nat.le_refl _, fun z => absurd z (Nat.lt_irrefl _)⟩
            · exact absurd k3 (h2 w (by omega) k2)
        · have hu0 : u < D.U := h3
          have hou := o.ow u hu0
          have hwu := o.we u hu0
          have hun : ¬ u + 1 = 0 := by omega
          by_cases ou : D.ow u = g
          · refine Eq.trans ?_ (ih m (u + 1) (by omega) (by omega) (Or.inr ⟨u, rfl, by omega, h3, h4, Or.inl ⟨ou, fun w k1 k2 k3 => ?_⟩⟩))
            · simp (disch := omega) only [L_K_goes_257, B_K_goes_257, J_K_goes_301, J_K_goes_326, J_K_goes_362, J_K_goes_366, bI, h1, hun, nz_s, nz_p, g_rain h, k27 h hu, k24 h hu, k24 h hu0, hd, and_self, ow, ou, c0, q_kNl, Nat.add_sub_cancel, Nat.not_lt_zero, Nat.succ_ne_zero, nzp2, q_lit, q_neg, q_kS, q_kA, q_kN, q_kI, nI_add, pk_mul, q_sb, q_lt0, q_ck, q_cl, q_sub, q_le, q_lt, q_eq, q_m1e, q_e1m, q_m1l, eq_self, if_true, if_false, e10, e01]
            · by_cases e : w = c
              · subst e; exact ow
              · rcases h5 with ⟨_, h7⟩ | ⟨h7, _⟩
                · exact h7 w (by omega) k2 k3
                · exact h7 w (by omega) (by omega) k3
          · have h5' : (∀ w, c + 1 ≤ w → w < D.U → dryP D w → D.ow w ≠ g) ∧ ∀ w, c + 1 ≤ w → w < D.U → dryP D w → D.we u ≤ D.we w ∧ (w < u → D.we u < D.we w) := by
              rcases h5 with ⟨h6, _⟩ | h6
              · exact absurd h6 ou
              · exact h6
            obtain ⟨a1, a2⟩ := h5'
            by_cases wl : D.we u < D.we c
            · refine Eq.trans ?_ (ih m (u + 1) (by omega) (by omega) (Or.inr ⟨u, rfl, by omega, h3, h4, Or.inr ⟨fun w k1 k2 k3 => ?_, fun w k1 k2 k3 => ?_⟩⟩))
              · simp (disch := omega) only [L_K_goes_257, B_K_goes_257, J_K_goes_301, J_K_goes_326, J_K_goes_362, J_K_goes_366, bI, h1, hun, nz_s, nz_p, g_rain h, k27 h hu, k24 h hu, k24 h hu0, k25 h hu, k25 h hu0, wl, hd, and_self, ow, ou, c0, q_kNl, Nat.add_sub_cancel, Nat.not_lt_zero, Nat.succ_ne_zero, nzp2, q_lit, q_neg, q_kS, q_kA, q_kN, q_kI, nI_add, pk_mul, q_sb, q_lt0, q_ck, q_cl, q_sub, q_le, q_lt, q_eq, q_m1e, q_e1m, q_m1l, eq_self, if_true, if_false, e10, e01]
              · by_cases e : w = c
                · subst e; exact ow
                · exact a1 w (by omega) k2 k3
              · by_cases e : w = c
                · subst e; exact ⟨by omega, fun _ => wl⟩
                · exact a2 w (by omega) k2 k3
            · refine Eq.trans ?_ (ih m (c + 1) (by omega) (by omega) (Or.inr ⟨c, rfl, Nat.le_refl _, hu, hd, Or.inr ⟨fun w k1 k2 k3 => ?_, fun w k1 k2 k3 => ?_⟩⟩))
              · simp (disch := omega) only [L_K_goes_257, B_K_goes_257, J_K_goes_301, J_K_goes_326, J_K_goes_362, J_K_goes_366, bI, h1, hun, nz_s, nz_p, g_rain h, k27 h hu, k24 h hu, k24 h hu0, k25 h hu, k25 h hu0, wl, hd, and_self, ow, ou, c0, q_kNl, Nat.add_sub_cancel, Nat.not_lt_zero, Nat.succ_ne_zero, nzp2, q_lit, q_neg, q_kS, q_kA, q_kN, q_kI, nI_add, pk_mul, q_sb, q_lt0, q_ck, q_cl, q_sub, q_le, q_lt, q_eq, q_m1e, q_e1m, q_m1l, eq_self, if_true, if_false, e10, e01]
              · by_cases e : w = c
                · subst e; exact ow
                · exact a1 w (by omega) k2 k3
              · by_cases e : w = c
                · subst e; exact ⟨Nat.le_refl _, fun z => absurd z (Nat.lt_irrefl _)⟩
                · obtain ⟨z1, _⟩ := a2 w (by omega) k2 k3
                  exact ⟨by omega, fun z => by omega⟩
    · refine Eq.trans ?_ (ih m b (by omega) (by omega) ?_)
      · simp (disch := omega) only [L_K_goes_257, B_K_goes_257, J_K_goes_366, nz_s, nz_p, g_rain h, k27 h hu, hd, c0, Nat.not_lt_zero, nzp2, q_lit, q_neg, q_kS, q_kA, q_kN, q_kI, nI_add, pk_mul, q_sb, q_lt0, q_ck, q_cl, q_sub, q_le, q_lt, q_eq, q_m1e, q_e1m, q_m1l, eq_self, if_true, if_false, e10, e01]
      · rcases hb with ⟨h1, h2⟩ | ⟨u, h1, h2, h3, h4, h5⟩
        · refine Or.inl ⟨h1, fun u k1 k2 k3 => ?_⟩
          by_cases e : u = c
          · subst e; exact hd k3
          · exact h2 u (by omega) k2 k3
        · refine Or.inr ⟨u, h1, by omega, h3, h4, ?_⟩
          have key : ∀ w, c ≤ w → dryP D w → c + 1 ≤ w := fun w k1 k3 => by
            by_cases e : w = c
            · subst e; exact absurd k3 hd
            · omega
          rcases h5 with ⟨h6, h7⟩ | ⟨h6, h7⟩
          · exact Or.inl ⟨h6, fun w k1 k2 k3 => h7 w (key w k1 k3) k2 k3⟩
          · exact Or.inr ⟨fun w k1 k2 k3 => h6 w (key w k1 k3) k2 k3, fun w k1 k2 k3 => h7 w (key w k1 k3) k2 k3⟩
end
