/-! alibis() is true -/
section
variable {T : Nat} {v : KV} {D : Dn} {x1 x2 x3 x4 x6 x9 x10 : Int32} {rec71 : Int32 → Int32 → Int32 → Int32 → Int32 → Int32 → KV → Option (Int32 × KV)}
theorem al1 (h : S7 T v D) {rec133 : Int32 → Int32 → Int32 → Int32 → Int32 → Int32 → Int32 → Int32 → Int32 → Int32 → Int32 → KV → Option (Int32 × KV)} {k f t : Nat} (hk : k < D.G) (hft : f ≤ t) (ht : t < D.mi) : ∀ n x, f ≤ x → x ≤ t + 1 → t + 1 - x < n → L_K_alibis_151 rec71 rec133 n x1 x2 x3 x4 x6 (nI f) (nI t) x9 x10 (nI k) (if ansF D k k f x = 0 then nI 0 else nI 1) (nI x) v = J_K_alibis_222 rec71 rec133 x1 x2 x3 x4 x6 (nI f) (nI t) x9 x10 (nI k) (if ansF D k k f (t + 1) = 0 then nI 0 else nI 1) (nI 1) v := by
  have o := h.2.1
  have hm := h.2.2.2
  have hG := o.G
  intro n
  induction n with
  | zero => intro x _ _ h9; omega
  | succ n ih =>
    intro x h1 h2 h3
    by_cases hx : x ≤ t
    · refine Eq.trans ?_ (ih (x + 1) (by omega) (by omega) (by omega))
      have c1 : ¬ t < x := by omega
      have hs := ans_split o (m := x) (e := x + 1) h1 (by omega) k k
      have k33' := k33 h hk (f := x) (by omega)
      by_cases z : ansF D k k f x = 0
      · rw [if_pos z]
        by_cases w : ansF D k k x (x + 1) = 0
        · rw [if_pos w] at k33'
          rw [if_pos (show ansF D k k f (x + 1) = 0 by omega)]
          simp (disch := omega) only [L_K_alibis_151, B_K_alibis_151, J_K_alibis_177, k33', c1, q_lit, q_neg, q_kS, q_kA, q_kN, q_kI, nI_add, pk_mul, q_sb, q_lt0, q_ck, q_cl, q_sub, q_le, q_lt, q_eq, q_m1e, q_e1m, q_m1l, eq_self, if_true, if_false, e10, e01, Nat.not_lt_zero, q_kNl, q_nK, q_n1, q_01]
        · rw [if_neg w] at k33'
          rw [if_neg (show ¬ ansF D k k f (x + 1) = 0 by omega)]
          simp (disch := omega) only [L_K_alibis_151, B_K_alibis_151, J_K_alibis_177, k33', c1, q_lit, q_neg, q_kS, q_kA, q_kN, q_kI, nI_add, pk_mul, q_sb, q_lt0, q_ck, q_cl, q_sub, q_le, q_lt, q_eq, q_m1e, q_e1m, q_m1l, eq_self, if_true, if_false, e10, e01, Nat.not_lt_zero, q_kNl, q_nK, q_n1, q_01]
      · rw [if_neg z, if_neg (show ¬ ansF D k k f (x + 1) = 0 by omega)]
        simp (disch := omega) only [L_K_alibis_151, B_K_alibis_151, J_K_alibis_177, c1, q_lit, q_neg, q_kS, q_kA, q_kN, q_kI, nI_add, pk_mul, q_sb, q_lt0, q_ck, q_cl, q_sub, q_le, q_lt, q_eq, q_m1e, q_e1m, q_m1l, eq_self, if_true, if_false, e10, e01, Nat.not_lt_zero, q_kNl, q_nK, q_n1, q_01]
    · have : x = t + 1 := by omega
      subst this
      have c1 : t < t + 1 := Nat.lt_succ_self t
      have k34' := k34 h hk hft ht (xd := nI 0) (xe := nI 0)
      by_cases z : ansF D k k f (t + 1) = 0
      · rw [if_pos z] at k34'
        rw [if_pos z]
        simp (disch := omega) only [L_K_alibis_151, B_K_alibis_151, J_K_alibis_214, k34', c1, q_lit, q_neg, q_kS, q_kA, q_kN, q_kI, nI_add, pk_mul, q_sb, q_lt0, q_ck, q_cl, q_sub, q_le, q_lt, q_eq, q_m1e, q_e1m, q_m1l, eq_self, if_true, if_false, e10, e01, Nat.not_lt_zero, q_kNl, q_nK, q_n1, q_01]
      · rw [if_neg z] at k34'
        rw [if_neg z]
        simp (disch := omega) only [L_K_alibis_151, B_K_alibis_151, J_K_alibis_214, k34', c1, q_lit, q_neg, q_kS, q_kA, q_kN, q_kI, nI_add, pk_mul, q_sb, q_lt0, q_ck, q_cl, q_sub, q_le, q_lt, q_eq, q_m1e, q_e1m, q_m1l, eq_self, if_true, if_false, e10, e01, Nat.not_lt_zero, q_kNl, q_nK, q_n1, q_01]
theorem al2 (h : S7 T v D) {f t : Nat} (hft : f ≤ t) (ht : t < D.mi) (h64 : t ≤ f + 63) : ∀ n k, k ≤ D.G → D.G - k < n → L_K_alibis_133 rec71 n x1 x2 (nI D.G) x4 (nI 1) x6 (nI f) (nI t) (nI (cntF (fun k => decide (ansF D k k f (t + 1) ≠ 0)) k)) (bI (lstF (fun k => decide (ansF D k k f (t + 1) ≠ 0)) k)) (nI k) v = J_K_alibis_245 rec71 x1 x2 (nI D.G) x4 (nI 1) x6 (nI f) (nI t) (nI (cntF (fun k => decide (ansF D k k f (t + 1) ≠ 0)) D.G)) (bI (lstF (fun k => decide (ansF D k k f (t + 1) ≠ 0)) D.G)) v := by
  have o := h.2.1
  have hG := o.G
  intro n
  induction n with
  | zero => intro k _ h9; omega
  | succ n ih =>
    intro k hk hn
    by_cases hkG : k < D.G
    · refine Eq.trans ?_ (ih (k + 1) (by omega) (by omega))
      have hc := cntF_le (fun k => decide (ansF D k k f (t + 1) ≠ 0)) k
      have a1 := al1 (rec71 := rec71) (rec133 := L_K_alibis_133 rec71 n) (x1 := x1) (x2 := x2) (x3 := nI D.G) (x4 := x4) (x6 := x6) (x9 := nI (cntF (fun k => decide (ansF D k k f (t + 1) ≠ 0)) k)) (x10 := bI (lstF (fun k => decide (ansF D k k f (t + 1) ≠ 0)) k)) h hkG hft ht 66 f (Nat.le_refl _) (by omega) (by omega)
      rw [if_pos (ans_0 o f k k)] at a1
      have st : L_K_alibis_133 rec71 (n + 1) x1 x2 (nI D.G) x4 (nI 1) x6 (nI f) (nI t) (nI (cntF (fun k => decide (ansF D k k f (t + 1) ≠ 0)) k)) (bI (lstF (fun k => decide (ansF D k k f (t + 1) ≠ 0)) k)) (nI k) v = L_K_alibis_151 rec71 (L_K_alibis_133 rec71 n) 66 x1 x2 (nI D.G) x4 x6 (nI f) (nI t) (nI (cntF (fun k => decide (ansF D k k f (t + 1) ≠ 0)) k)) (bI (lstF (fun k => decide (ansF D k k f (t + 1) ≠ 0)) k)) (nI k) (nI 0) (nI f) v := by
        show B_K_alibis_133 _ _ _ _ (nI D.G) _ (nI 1) _ _ _ _ _ (nI k) v = _
        unfold B_K_alibis_133
        rw [if_neg (show ¬ nI D.G ≤ nI k by rw [q_le (by omega) (by omega)]; omega), if_neg (show ¬ nI 1 = (0 : Int32) by decide)]
        rfl
      rw [st, a1]
      unfold J_K_alibis_222
      by_cases z : ansF D k k f (t + 1) = 0
      · have e1 : cntF (fun k => decide (ansF D k k f (t + 1) ≠ 0)) (k + 1) = cntF (fun k => decide (ansF D k k f (t + 1) ≠ 0)) k := by rw [cntF_s, if_neg (by rw [decide_eq_false (fun w => w z)]; decide), Nat.add_zero]
        have e2 : lstF (fun k => decide (ansF D k k f (t + 1) ≠ 0)) (k + 1) = lstF (fun k => decide (ansF D k k f (t + 1) ≠ 0)) k := if_neg (fun w => absurd z (of_decide_eq_true (p := ansF D k k f (t + 1) ≠ 0) w))
        rw [if_pos z, if_pos (show nI 0 = (0 : Int32) from rfl), e1, e2, show nI k + 1 = nI (k + 1) from nI_add k 1]
      · have e1 : cntF (fun k => decide (ansF D k k f (t + 1) ≠ 0)) (k + 1) = cntF (fun k => decide (ansF D k k f (t + 1) ≠ 0)) k + 1 := by rw [cntF_s, if_pos (decide_eq_true z)]
        have e2 : lstF (fun k => decide (ansF D k k f (t + 1) ≠ 0)) (k + 1) = k + 1 := if_pos (decide_eq_true z)
        rw [if_neg z, if_neg (show ¬ nI 1 = (0 : Int32) by decide), e1, e2, show nI k + 1 = nI (k + 1) from nI_add k 1, show nI (cntF (fun k => decide (ansF D k k f (t + 1) ≠ 0)) k) + 1 = nI (cntF (fun k => decide (ansF D k k f (t + 1) ≠ 0)) k + 1) from nI_add _ 1]
        rfl
    · have : k = D.G := by omega
      subst this
      show B_K_alibis_133 _ _ _ _ (nI D.G) _ _ _ _ _ _ _ (nI D.G) v = _
      unfold B_K_alibis_133
      rw [if_pos (show nI D.G ≤ nI D.G by rw [q_le (by omega) (by omega)]; omega)]
theorem al3 (h : S7 T v D) {f t : Nat} (hft : f ≤ t) (ht : t < D.mi) : J_K_alibis_245 rec71 x1 x2 x3 x4 (nI 1) x6 (nI f) (nI t) (nI (cntF (fun k => decide (ansF D k k f (t + 1) ≠ 0)) D.G)) (bI (lstF (fun k => decide (ansF D k k f (t + 1) ≠ 0)) D.G)) v = J_K_alibis_318 rec71 x1 x2 x3 x4 x6 (nI 1) v := by
  have o := h.2.1
  have hG := o.G
  have hm := h.2.2.2
  have hc := cntF_le (fun k => decide (ansF D k k f (t + 1) ≠ 0)) D.G
  have e288 : ∀ z : Int32, J_K_alibis_288 rec71 x1 x2 x3 x4 x6 (nI f) (nI t) z z v = J_K_alibis_318 rec71 x1 x2 x3 x4 x6 (nI 1) v := fun z => by
    unfold J_K_alibis_288
    rw [if_pos rfl]
    by_cases e : f = t
    · rw [if_pos (show nI f = nI t by rw [e])]
      rfl
    · rw [if_neg (show ¬ nI f = nI t by rw [q_eq (by omega) (by omega)]; exact e), show F_K_call_ v 35 (nI t) (nI f) = _ from k35b h (f := t) (t := f) (by omega) (by omega) (Or.inl (by omega)), q_sb]
      exact if_pos rfl
  unfold J_K_alibis_245
  rw [if_neg (show ¬ nI 1 = (0 : Int32) by decide), show F_K_call_ v 35 (nI f) (nI t) = _ from k35 h hft ht, q_sb]
  dsimp only
  rw [if_pos rfl, show F_K_call_ v 36 (nI f) (nI t) = _ from k36 h hft ht, q_sb]
  dsimp only
  by_cases z : cntF (fun k => decide (ansF D k k f (t + 1) ≠ 0)) D.G = 1
  · rw [if_pos z, if_pos (show nI (cntF (fun k => decide (ansF D k k f (t + 1) ≠ 0)) D.G) = (1 : Int32) by rw [z]; rfl), fst_lst z]
    exact e288 _
  · rw [if_neg z, if_neg (show ¬ nI (cntF (fun k => decide (ansF D k k f (t + 1) ≠ 0)) D.G) = (1 : Int32) from fun w => z ((nI_eq (b := 1) (by omega) (by omega)).mp w))]
    exact e288 kN
theorem al5 (h : S7 T v D) {g k : Nat} (hg : g < D.G) (hk : k < D.G) : ∀ n m, m ≤ D.mi → D.mi - m < n → L_K_alibis_381 rec71 n x1 x2 x3 (nI D.mi) (nI 1) x6 (nI g) (nI k) (nI (ansF D g g 0 m)) (nI (ansF D g k 0 m)) (nI m) v = J_K_alibis_483 rec71 x1 x2 x3 (nI D.mi) (nI 1) x6 v := by
  have o := h.2.1
  have hG := o.G
  have hm := h.2.2.2
  intro n
  induction n with
  | zero => intro m _ h9; omega
  | succ n ih =>
    intro m hm1 hn
    by_cases hmm : m < D.mi
    · refine Eq.trans ?_ (ih (m + 1) (by omega) (by omega))
      have c1 : ¬ D.mi ≤ m := by omega
      have k33g := k33 h hg hmm
      have k33k := k33 h hk hmm
      have s1 := ans_split o (Nat.zero_le m) (Nat.le_succ m) g g
      have s2 := ans_split o (Nat.zero_le m) (Nat.le_succ m) g k
      rw [Nat.succ_eq_add_one] at s1 s2
      have b1 := ansF_bd o (Nat.zero_le m) g g
      have b2 := ansF_bd o (Nat.zero_le m) g k
      rcases min_01 o m g with z | z
      · rw [if_pos z] at k33g
        rw [show ansF D g g 0 (m + 1) = ansF D g g 0 m by omega, show ansF D g k 0 (m + 1) = ansF D g k 0 m by have := min_both0 o k z; omega]
        simp (disch := omega) only [L_K_alibis_381, B_K_alibis_381, k33g, c1, q_lit, q_neg, q_kS, q_kA, q_kN, q_kI, nI_add, pk_mul, q_sb, q_lt0, q_ck, q_cl, q_sub, q_le, q_lt, q_eq, q_m1e, q_e1m, q_m1l, eq_self, if_true, if_false, e10, e01, Nat.not_lt_zero, q_kNl, q_nK, q_n1, q_01]
      · have zn : ansF D g g m (m + 1) ≠ 0 := by omega
        rw [if_neg zn] at k33g
        rw [s1, s2, min_both1 o k zn, z]
        rcases min_01 o m k with w | w
        · rw [if_pos w] at k33k
          rw [w]
          simp (disch := omega) only [L_K_alibis_381, B_K_alibis_381, k33g, k33k, c1, q_lit, q_neg, q_kS, q_kA, q_kN, q_kI, nI_add, pk_mul, q_sb, q_lt0, q_ck, q_cl, q_sub, q_le, q_lt, q_eq, q_m1e, q_e1m, q_m1l, eq_self, if_true, if_false, e10, e01, Nat.not_lt_zero, q_kNl, q_nK, q_n1, q_01]
        · rw [if_neg (by omega)] at k33k
          rw [w]
          simp (disch := omega) only [L_K_alibis_381, B_K_alibis_381, k33g, k33k, c1, q_lit, q_neg, q_kS, q_kA, q_kN, q_kI, nI_add, pk_mul, q_sb, q_lt0, q_ck, q_cl, q_sub, q_le, q_lt, q_eq, q_m1e, q_e1m, q_m1l, eq_self, if_true, if_false, e10, e01, Nat.not_lt_zero, q_kNl, q_nK, q_n1, q_01]
    · have : m = D.mi := by omega
      subst this
      have k38' := k38 h hk hg
      rw [ans_sym D k g] at k38'
      have c1 : D.mi ≤ D.mi := Nat.le_refl _
      have b1 := ansF_bd o (Nat.zero_le D.mi) g g
      have b2 := ansF_bd o (Nat.zero_le D.mi) g k
      simp (disch := omega) only [L_K_alibis_381, B_K_alibis_381, k37 h hg, k38 h hg hk, k38', c1, q_lit, q_neg, q_kS, q_kA, q_kN, q_kI, nI_add, pk_mul, q_sb, q_lt0, q_ck, q_cl, q_sub, q_le, q_lt, q_eq, q_m1e, q_e1m, q_m1l, eq_self, if_true, if_false, e10, e01, Nat.not_lt_zero, q_kNl, q_nK, q_n1, q_01]
theorem al4 (h : S7 T v D) {q : Nat} (hq : q < 1000) : J_K_alibis_318 rec71 x1 x2 (nI D.G) (nI D.mi) (nI q) (nI 1) v = rec71 x1 x2 (nI D.G) (nI D.mi) (nI 1) (nI (q + 1)) v := by
  have o := h.2.1
  have hG := o.G
  have hm := h.2.2.2
  have e483 : J_K_alibis_483 rec71 x1 x2 (nI D.G) (nI D.mi) (nI 1) (nI q) v = rec71 x1 x2 (nI D.G) (nI D.mi) (nI 1) (nI (q + 1)) v := by
    unfold J_K_alibis_483
    rw [show nI q + 1 = nI (q + 1) from nI_add q 1]
  by_cases z : D.G = 0
  · have z1 : nI D.G = (0 : Int32) := by rw [z]; rfl
    unfold J_K_alibis_318
    rw [if_pos z1]
    unfold J_K_alibis_338
    rw [if_pos z1]
    unfold J_K_alibis_358
    rw [if_pos z1]
    exact e483
  · have z1 : ¬ nI D.G = (0 : Int32) := fun w => z ((nI_eq (b := 0) (by omega) (by omega)).mp w)
    obtain ⟨a, ha, ea⟩ := and_le (x1 >>> (nI q &&& 31)) (c := 255) (by omega)
    obtain ⟨b, hb, eb⟩ := and_le (x2 >>> (nI q &&& 31)) (c := 255) (by omega)
    have ea : (x1 >>> (nI q &&& 31)) &&& 255 = nI a := ea
    have eb : (x2 >>> (nI q &&& 31)) &&& 255 = nI b := eb
    unfold J_K_alibis_318
    rw [if_neg z1, q_cnP z1, ea, q_mod (by omega) (by omega) (by omega)]
    unfold J_K_alibis_338
    rw [if_neg z1, q_cnP z1, eb, q_mod (by omega) (by omega) (by omega)]
    unfold J_K_alibis_358
    rw [if_neg z1]
    by_cases w : q ≤ 0
    · rw [if_pos (show nI q ≤ (0 : Int32) by rw [show (0 : Int32) = nI 0 from rfl, q_le (by omega) (by omega)]; exact w)]
      have l := al5 (rec71 := rec71) (x1 := x1) (x2 := x2) (x3 := nI D.G) (x6 := nI q) h (g := a % D.G) (k := b % D.G) (Nat.mod_lt _ (by omega)) (Nat.mod_lt _ (by omega)) 722 0 (Nat.zero_le _) (by omega)
      rw [ans_0 o, ans_0 o] at l
      exact Eq.trans l e483
    · rw [if_neg (show ¬ nI q ≤ (0 : Int32) by rw [show (0 : Int32) = nI 0 from rfl, q_le (by omega) (by omega)]; exact w)]
      exact e483
end
section
variable {T : Nat} {v : KV} {D : Dn} {x1 x2 : Int32}
theorem al6 (h : S7 T v D) : ∀ n q, q ≤ 3 → 3 - q < n → L_K_alibis_71 n x1 x2 (nI D.G) (nI D.mi) (nI 1) (nI q) v = some (1, v) := by
  have o := h.2.1
  have hG := o.G
  have hm := h.2.2.2
  intro n
  induction n with
  | zero => intro q _ h9; omega
  | succ n ih =>
    intro q hq hn
    show B_K_alibis_71 (L_K_alibis_71 n) x1 x2 (nI D.G) (nI D.mi) (nI 1) (nI q) v = _
    unfold B_K_alibis_71
    have fin : cn (nI 1 = 0 ∨ nI 1 = 1) (some (nI 1, v)) = some ((1 : Int32), v) := if_pos (Or.inr rfl)
    by_cases c3 : q = 3
    · rw [if_pos (show (3 : Int32) ≤ nI q by rw [c3]; decide)]
      exact fin
    · rw [if_neg (show ¬ (3 : Int32) ≤ nI q by rw [show (3 : Int32) = nI 3 from rfl, q_le (by omega) (by omega)]; omega), if_neg (show ¬ nI 1 = (0 : Int32) by decide)]
      by_cases c0 : D.mi ≤ 0
      · rw [if_pos (show nI D.mi ≤ (0 : Int32) by rw [show (0 : Int32) = nI 0 from rfl, q_le (by omega) (by omega)]; exact c0)]
        exact fin
      · have z1 : ¬ nI D.mi = (0 : Int32) := fun w => c0 (by have := (nI_eq (b := 0) (by omega) (by omega)).mp w; omega)
        rw [if_neg (show ¬ nI D.mi ≤ (0 : Int32) by rw [show (0 : Int32) = nI 0 from rfl, q_le (by omega) (by omega)]; exact c0), q_cnP z1]
        obtain ⟨a, ha, ea⟩ := and_le (x1 >>> ((3 * nI q) &&& 31)) (c := 65535) (by omega)
        obtain ⟨b, hb, eb⟩ := and_le (x2 >>> ((2 * nI q) &&& 31)) (c := 63) (by omega)
        have ea : (x1 >>> ((3 * nI q) &&& 31)) &&& 65535 = nI a := ea
        have eb : (x2 >>> ((2 * nI q) &&& 31)) &&& 63 = nI b := eb
        have hf := Nat.mod_lt a (show 0 < D.mi by omega)
        have em : nI D.mi - 1 = nI (D.mi - 1) := q_sub (a := D.mi) (b := 1) (by omega)
        have et : (if (nI (a % D.mi) + nI b) < (nI D.mi - 1) then (nI (a % D.mi) + nI b) else (nI D.mi - 1)) = nI (if a % D.mi + b ≤ D.mi - 1 then a % D.mi + b else D.mi - 1) := by
          rw [em, nI_add]
          exact q_min (by omega) (by omega)
        rw [ea, eb, q_mod (by omega) (by omega) (by omega), et]
        obtain ⟨t, ht0, ht1, ht2, ht3⟩ : ∃ t, (if a % D.mi + b ≤ D.mi - 1 then a % D.mi + b else D.mi - 1) = t ∧ a % D.mi ≤ t ∧ t < D.mi ∧ t ≤ a % D.mi + 63 := by
          refine ⟨_, rfl, ?_, ?_, ?_⟩
          · split <;> omega
          · split <;> omega
          · split <;> omega
        rw [ht0]
        have l2 := al2 (rec71 := L_K_alibis_71 n) (x1 := x1) (x2 := x2) (x4 := nI D.mi) (x6 := nI q) h ht1 ht2 ht3 11 0 (Nat.zero_le _) (by omega)
        have l3 := al3 (rec71 := L_K_alibis_71 n) (x1 := x1) (x2 := x2) (x3 := nI D.G) (x4 := nI D.mi) (x6 := nI q) h ht1 ht2
        have l4 := al4 (rec71 := L_K_alibis_71 n) (x1 := x1) (x2 := x2) h (q := q) (by omega)
        exact Eq.trans l2 (l3.trans (l4.trans (ih (q + 1) (by omega) (by omega))))
theorem alibis_of (h : S7 T v D) (p1 p2 : Int32) : F_K_alibis v p1 p2 = some (1, v) := by
  have o := h.2.1
  have hG := o.G
  have hm := h.2.2.2
  have l6 := al6 (x1 := p1) (x2 := p2) h 4 0 (by omega) (by omega)
  have e31 : ∀ z : Int32, J_K_alibis_31 p1 p2 (nI D.G) (nI D.mi) z z v = some (1, v) := fun z => by
    unfold J_K_alibis_31
    rw [if_pos rfl, show F_K_call_ v 35 0 (nI D.mi) = _ from k35b h (f := 0) (t := D.mi) (by omega) (by omega) (Or.inr (Nat.le_refl _)), q_sb]
    dsimp only
    rw [if_pos (show kA = -103 from rfl), show F_K_call_ v 36 (-1) 0 = _ from k36b h (y := 0), q_sb]
    dsimp only
    rw [if_pos (show kA = -103 from rfl)]
    exact l6
  unfold F_K_alibis
  rw [g_guestCount h, q_sb, g_minute h, q_sb, show F_K_call_ v 33 0 (nI D.mi) = _ from k33n h, q_sb]
  dsimp only
  by_cases z : D.G = 0
  · rw [if_pos z, if_pos (show nI D.G = (0 : Int32) by rw [z]; rfl)]
    exact e31 kI
  · rw [if_neg z, if_neg (show ¬ nI D.G = (0 : Int32) from fun w => z ((nI_eq (b := 0) (by omega) (by omega)).mp w))]
    exact e31 kA
end
