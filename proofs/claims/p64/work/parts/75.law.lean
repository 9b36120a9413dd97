/-! the law's function is 1, out of a night that loads -/
def LoadOk : Prop := ∀ (T : Nat) (v : KV) (D : Dn) (n : Nat) (Hs : Nat → Dn) (p0 p1 : Int32), S8 T v D n Hs → ∃ (L : List Nat) (v1 v2 : KV) (D2 : Dn) (H2 : Nat → Dn), F_K_night p0 p1 = some L ∧ L.length ≤ 65536 ∧ F_K_feeds v (fun j => List.getD L j 0) (List.length L) = some (1, v1) ∧ F_K_call__ v1 (nI 11) (nI 0) = some (nI D2.G, v2) ∧ S8 T v2 D2 0 H2 ∧ v2.1 0 = m1
section
variable {xs : Nat → Int32} {nL : Nat} {a2 : Nat → Int32} {rec : Int32 → Int32 → (Nat → Int32) → KV → Option Int32}
theorem lw265 {T : Nat} {v : KV} {D : Dn} {n : Nat} {Hs : Nat → Dn} (h : S8 T v D n Hs) {i : Nat} (hi : i + 1 < 6) : ∃ v2 n2 Hs2, J_K_law_265 rec xs nL 1 (nI i) a2 v = rec 1 (nI (i + 2)) a2 v2 ∧ S8 T v2 D n2 Hs2 := by
  have h7 := h.1.1
  obtain ⟨v1, n1, H1, e1, h1⟩ := goes_of h
  obtain ⟨v2, n2, H2, e2, h2⟩ := passes_of h1 (a2 (i + 1))
  refine ⟨v2, n2, H2, ?_, h2⟩
  have hz : ¬ (1 : Int32) = 0 := by decide
  have ei : nI i + 1 = nI (i + 1) := nI_add i 1
  unfold J_K_law_265
  rw [if_neg hz, state_of h7, q_sb]
  dsimp only
  unfold J_K_law_277
  rw [if_neg hz, register_of h7 h.1.2, q_sb]
  dsimp only
  rw [if_neg hz, ei, q_ck (by omega) (by omega), q_ck (by omega) (by omega), alibis_of h7, q_sb]
  dsimp only
  rw [if_neg hz, state_of h7, q_sb]
  dsimp only
  rw [if_pos (lgc_self _), e1, q_sb]
  dsimp only
  rw [if_neg hz, q_ck (by omega) (by omega), q_cl (by omega), e2, q_sb]
  dsimp only
  rw [if_neg hz, state_of h2.1.1, q_sb]
  dsimp only
  rw [if_pos (lgc_self _), show nI i + 2 = nI (i + 2) from nI_add i 2]
theorem lw223 {i : Nat} (hi : i + 1 < 6) : ∀ m k T v D n Hs, k ≤ 10 → 10 - k < m → T + (10 - k) ≤ 600 → S8 T v D n Hs → ∃ v2 D2 n2 Hs2, L_K_law_223 rec xs nL m 1 (nI i) (nI k) a2 v = rec 1 (nI (i + 2)) a2 v2 ∧ S8 (T + (10 - k)) v2 D2 n2 Hs2 := by
  have hz : ¬ (1 : Int32) = 0 := by decide
  have ei : nI i + 1 = nI (i + 1) := nI_add i 1
  intro m
  induction m with
  | zero => intro k T v D n Hs _ h9; omega
  | succ m ih =>
    intro k T v D n Hs hk hm hT h
    by_cases c : k = 10
    · subst c
      obtain ⟨v2, n2, H2, e2, h2⟩ := lw265 (rec := rec) (xs := xs) (nL := nL) (a2 := a2) h hi
      refine ⟨v2, D, n2, H2, Eq.trans ?_ e2, h2⟩
      show B_K_law_223 rec _ xs nL 1 (nI i) (nI 10) a2 v = _
      unfold B_K_law_223
      exact if_pos (by decide)
    · obtain ⟨v1, D1, n1, H1, e1, h1⟩ := does_of h (by omega) ((a2 i) >>> ((3 * nI k) &&& 31)) ((a2 (i + 1)) >>> ((2 * nI k) &&& 31))
      obtain ⟨v2, D2, n2, H2, e2, h2⟩ := ih (k + 1) (T + 1) v1 D1 n1 H1 (by omega) (by omega) (by omega) h1
      refine ⟨v2, D2, n2, H2, Eq.trans ?_ e2, by rw [show T + (10 - k) = T + 1 + (10 - (k + 1)) by omega]; exact h2⟩
      show B_K_law_223 rec (L_K_law_223 rec xs nL m) xs nL 1 (nI i) (nI k) a2 v = _
      unfold B_K_law_223
      rw [if_neg (show ¬ (10 : Int32) ≤ nI k by rw [show (10 : Int32) = nI 10 from rfl, q_le (by omega) (by omega)]; omega), if_neg hz, ei, q_ck (by omega) (by omega), q_ck (by omega) (by omega), q_cl (by omega), q_cl (by omega), e1, q_sb]
      dsimp only
      rw [show nI k + 1 = nI (k + 1) from nI_add k 1]
end
section
variable {xs : Nat → Int32} {nL : Nat} {a2 : Nat → Int32}
theorem lw142 (hl : LoadOk) : ∀ m j T v D n Hs, j ≤ 3 → 3 - j < m → T + 10 * (3 - j) ≤ 600 → S8 T v D n Hs → L_K_law_142 xs nL m 1 (nI (2 * j)) a2 v = some 1 := by
  have hz : ¬ (1 : Int32) = 0 := by decide
  intro m
  induction m with
  | zero => intro j T v D n Hs _ h9; omega
  | succ m ih =>
    intro j T v D n Hs hj hm hT h
    show B_K_law_142 (L_K_law_142 xs nL m) xs nL 1 (nI (2 * j)) a2 v = _
    unfold B_K_law_142
    have ei : nI (2 * j) + 1 = nI (2 * j + 1) := nI_add _ 1
    rw [ei]
    by_cases c : j = 3
    · subst c
      exact if_pos (by decide)
    · rw [if_neg (show ¬ (6 : Int32) ≤ nI (2 * j + 1) by rw [show (6 : Int32) = nI 6 from rfl, q_le (by omega) (by omega)]; omega), if_neg hz]
      have go : ∀ T v D n Hs, T + 10 * (3 - j) ≤ 600 → S8 T v D n Hs → L_K_law_223 (L_K_law_142 xs nL m) xs nL 11 1 (nI (2 * j)) 0 a2 v = some 1 := fun T v D n Hs hT h => by
        obtain ⟨v2, D2, n2, H2, e2, h2⟩ := lw223 (rec := L_K_law_142 xs nL m) (xs := xs) (nL := nL) (a2 := a2) (i := 2 * j) (by omega) 11 0 T v D n Hs (by omega) (by omega) (by omega) h
        refine Eq.trans e2 ?_
        exact ih (j + 1) (T + 10) v2 D2 n2 H2 (by omega) (by omega) (by omega) h2
      by_cases c2 : j = 1
      · rw [if_pos (show nI (2 * j) = (2 : Int32) by rw [c2]; rfl)]
        exact go T v D n Hs hT h
      · rw [if_neg (show ¬ nI (2 * j) = (2 : Int32) from fun w => c2 (by have := (nI_eq (b := 2) (by omega) (by omega)).mp w; omega)), q_ck (by omega) (by omega), q_ck (by omega) (by omega), q_cl (by omega), q_cl (by omega)]
        obtain ⟨L, v1, v2, D2, H2, e1, e2, e3, e4, h2, h3⟩ := hl T v D n Hs (a2 (2 * j)) (a2 (2 * j + 1)) h
        rw [e1, q_sb, q_cnP e2, e3, q_sb]
        dsimp only
        rw [if_neg hz, show F_K_call__ v1 11 0 = _ from e4, q_sb]
        dsimp only
        rw [g_guestCount h2.1.1, q_sb, if_pos rfl]
        have e5 : F_X8_hasError v2.1 = some 0 := by
          unfold F_X8_hasError
          rw [h3]
          exact congrArg some (if_pos rfl)
        rw [e5, q_sb, if_pos rfl, show F_K_call__ v2 8 0 = _ from mu8f h2 rfl, q_sb]
        dsimp only
        rw [if_pos (show kS = -102 from rfl)]
        exact go T v2 D2 0 H2 hT h2
theorem mu10n {T : Nat} {v : KV} {D : Dn} {n : Nat} {Hs : Nat → Dn} (h : S8 T v D n Hs) {s : Nat} (hs2 : s < 2) (a1 : v.2.2.2.2.2.2.2.2.2.2.2.2.1 s = nI 0) : F_K_call__ v (nI 10) (nI s) = some (kN, v) := by
  rw [kc1_10]
  simp (disch := omega) only [F_arm_restoreSnapshot, F_X8_restoreSnapshot, slot_ok hs2, a1, q_lit, q_neg, nI_add, pk_mul, q_sb, q_lt0, q_ck, q_cl, q_le, q_lt, q_eq, q_m1e, q_e1m, q_m1l, e10, e20, e30, e40, e21, e31, e41, e32, e42, e43, eq_self, if_true, if_false, q_cn0, q_cn1, e14, e12, e13, e24, e23, e34, x1o, x2o, x3o, x4o]
theorem ev39 : (F_X8_init.bind (fun r => (F_K_call__ (kvI r) 39 0).map Prod.fst)) = some 2 := by decide +kernel
theorem lw35 (hl : LoadOk) : J_K_law_35 xs nL a2 = some 1 := by
  obtain ⟨r, e0, m, hX, hH0, hH1, hq, hb⟩ := i8_m
  have hv : S8 0 (kvI r) DI 0 (fun _ => DI) := ⟨⟨⟨m, okn_i⟩, car_i⟩, ⟨0, Nat.zero_le _, by omega, hH0, hH1, fun j hj => absurd hj (Nat.not_lt_zero j)⟩, fun s hs => Or.inl (hq s hs), hb, by omega⟩
  have h7 := hv.1.1
  have c39 := k39 h7 (g := 0) (by decide)
  have v39 := ev39
  rw [e0, q_sb, show F_K_call__ (kvI r) 39 0 = _ from c39] at v39
  have v39 := Option.some.inj v39
  have go := lw142 (xs := xs) (nL := nL) (a2 := a2) hl 4 0 0 (kvI r) DI 0 (fun _ => DI) (by omega) (by omega) (by omega) hv
  unfold J_K_law_35
  rw [e0, q_sb, show F_K_call__ (kvI r) 8 0 = _ from mu8f hv rfl, q_sb]
  dsimp only
  rw [if_pos (show kS = -102 from rfl), g_guestCount h7, q_sb, if_pos (show nI DI.G = 3 from rfl), g_umbrellaCount h7, q_sb, if_pos (show nI DI.U = 3 from rfl), g_rain h7, q_sb, if_pos (show nI DI.ra = 2 from rfl), show F_K_call__ (kvI r) 39 0 = _ from c39, q_sb]
  dsimp only
  rw [if_pos v39, show F_K_call__ (kvI r) 14 0 = _ from k14b h7 (xa := 0) hX, q_sb]
  dsimp only
  rw [if_pos (show kN = -101 from rfl), show F_K_call__ (kvI r) 43 0 = _ from k43b h7 rfl, q_sb]
  dsimp only
  rw [if_pos (show kI = -104 from rfl), show F_K_call__ (kvI r) 10 0 = _ from mu10n hv (s := 0) (by omega) (hq 0 (by omega)), q_sb]
  dsimp only
  rw [if_pos (show kN = -101 from rfl), register_of h7 car_i, q_sb]
  dsimp only
  rw [if_neg (show ¬ (1 : Int32) = 0 by decide)]
  exact go
theorem lw7 (hn : nL ≤ 260) : ∀ m k a, k ≤ 6 → 6 - k < m → ∃ b, L_K_law_7 xs nL m (nI k) a = J_K_law_35 xs nL b := by
  intro m
  induction m with
  | zero => intro k a _ h9; omega
  | succ m ih =>
    intro k a hk hm
    show ∃ b, B_K_law_7 (L_K_law_7 xs nL m) xs nL (nI k) a = _
    unfold B_K_law_7
    by_cases c : k = 6
    · exact ⟨a, if_pos (by rw [c]; decide)⟩
    · rw [if_neg (show ¬ (6 : Int32) ≤ nI k by rw [show (6 : Int32) = nI 6 from rfl, q_le (by omega) (by omega)]; omega)]
      by_cases c2 : nL ≤ k
      · exact ⟨a, if_pos (show nI nL ≤ nI k by rw [q_le (by omega) (by omega)]; exact c2)⟩
      · rw [if_neg (show ¬ Int32.ofNat nL ≤ nI k from fun w => c2 (by have w : nI nL ≤ nI k := w; rw [q_le (by omega) (by omega)] at w; exact w)), q_ck (by omega) (by omega), q_ck (by omega) (by omega), q_lt0, show nI k + 1 = nI (k + 1) from nI_add k 1]
        exact ih (k + 1) _ (by omega) (by omega)
theorem law_of (hl : LoadOk) (hn : nL ≤ 260) : F_K_law xs nL = some 1 := by
  obtain ⟨b, e⟩ := lw7 (xs := xs) (nL := nL) hn 7 0 (fun _ => 0) (by omega) (by omega)
  exact Eq.trans e (lw35 hl)
end
