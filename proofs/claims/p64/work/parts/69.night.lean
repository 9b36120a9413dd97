/-! the night's text: its shape -/
def gline (k g d : Nat) : List Nat := bytsN 12 ++ bytsN (6 + k) ++ [32] ++ digs g ++ (if d = 0 then bytsN 13 else bytsN 14 ++ digs d ++ bytsN 13)
def uline (k c : Nat) : List Nat := bytsN 15 ++ bytsN (6 + k) ++ [32] ++ digs c ++ [59]
def gtx : Nat → List (Nat × Nat) → List Nat
  | _, [] => []
  | k, q :: r => gline k q.1 q.2 ++ gtx (k + 1) r
def utx : List (Nat × Nat) → List Nat
  | [] => []
  | q :: r => uline q.1 q.2 ++ utx r
def headT (a b : Nat) : List Nat := bytsN 5 ++ digs a ++ [32] ++ digs b ++ [59]
theorem dg_1 : ∀ d, d < 10 → sb_dg d = 1 := by decide +kernel
theorem dg_2 : ∀ d, d < 100 → sb_dg d ≤ 2 := by decide +kernel
theorem dg_3 : ∀ d, d < 128 → sb_dg d ≤ 3 := by decide +kernel
theorem nm_len : ∀ i, i < 6 → (bytsN (6 + i)).length ≤ 4 := by decide +kernel
theorem bl_5 : (bytsN 5).length = 6 := by decide +kernel
theorem bl_12 : (bytsN 12).length = 6 := by decide +kernel
theorem bl_13 : (bytsN 13).length = 1 := by decide +kernel
theorem bl_14 : (bytsN 14).length = 5 := by decide +kernel
theorem bl_15 : (bytsN 15).length = 9 := by decide +kernel
theorem ulen {k c : Nat} (hk : k < 6) (hc : c < 100) : (uline k c).length ≤ 17 := by
  have h1 := nm_len k hk
  have h2 := dg_2 c hc
  unfold uline
  simp only [List.length_append, List.length_cons, List.length_nil, digs_len, bl_15]
  omega
theorem glen {k g d : Nat} (hk : k < 6) (hg : g < 10) (hd : d < 10) : (gline k g d).length ≤ 19 := by
  have h1 := nm_len k hk
  have h2 := dg_1 g hg
  have h3 := dg_1 d hd
  unfold gline
  split
  · simp only [List.length_append, List.length_cons, List.length_nil, digs_len, bl_12, bl_13]
    omega
  · simp only [List.length_append, List.length_cons, List.length_nil, digs_len, bl_12, bl_13, bl_14]
    omega
theorem q_nn {a : Nat} (h : a < 2147483648) : ¬ nI a < 0 := by
  rw [show (0 : Int32) = nI 0 from rfl, q_lt (by omega) (by omega)]
  omega
theorem q_ex {x : Int32} {c : Nat} (hc : c < 2147483648) {P : Nat → Prop} (h : ∀ b, b ≤ c → x &&& nI c = nI b → P b) : ∃ b, P b := by
  obtain ⟨b, hb, e⟩ := and_le x hc
  exact ⟨b, h b hb e⟩
theorem night_u {p0 x0 : Int32} {G U : Nat} (hG : 1 ≤ G) (hG6 : G ≤ 6) (hU : U ≤ 7) (eU : (x0 >>> (8 &&& 31)) &&& 7 = nI U) : ∀ n j x5 vT, j ≤ U → U - j < n → vT.length + 17 * (U - j) ≤ 300 → ∃ us : List (Nat × Nat), us.length = U - j ∧ (∀ q ∈ us, q.1 < G ∧ q.2 < 100) ∧ L_K_night_207 p0 n x0 (nI G) x5 (nI j) vT = some (vT ++ utx us) := by
  intro n
  induction n with
  | zero => intro j x5 vT _ h9; omega
  | succ n ih =>
    intro j x5 vT hj hn hl
    by_cases hjU : j < U
    · obtain ⟨a, ha, ea⟩ := and_le ((x5 * 1103515245 + 12345) >>> (8 &&& 31)) (c := 255) (by omega)
      obtain ⟨b, hb, eb⟩ := and_le ((x5 * 1103515245 + 12345) >>> (12 &&& 31)) (c := 255) (by omega)
      have ea : ((x5 * 1103515245 + 12345) >>> (8 &&& 31)) &&& 255 = nI a := ea
      have eb : ((x5 * 1103515245 + 12345) >>> (12 &&& 31)) &&& 255 = nI b := eb
      have h1 := Nat.mod_lt a (show 0 < G by omega)
      have h2 := Nat.mod_lt b (show 0 < 100 by omega)
      have e1 : nI a - nI a / nI G * nI G = nI (a % G) := q_mod (by omega) (by omega) (by omega)
      have e2 : nI b - nI b / 100 * 100 = nI (b % 100) := q_mod (n := 100) (by omega) (by omega) (by omega)
      have hul := ulen (k := a % G) (c := b % 100) (by omega) h2
      have eul : ((((vT ++ bytsN 15) ++ bytsN (6 + a % G)) ++ [32]) ++ digs (b % 100)) ++ [59] = vT ++ uline (a % G) (b % 100) := by
        unfold uline
        simp only [List.append_assoc]
      have hlen : (((((vT ++ bytsN 15) ++ bytsN (6 + a % G)) ++ [32]) ++ digs (b % 100)) ++ [59]).length ≤ 300 := by
        rw [eul, List.length_append]
        omega
      obtain ⟨us, u1, u2, u3⟩ := ih (j + 1) (x5 * 1103515245 + 12345) (vT ++ uline (a % G) (b % 100)) (by omega) (by omega) (by rw [List.length_append]; omega)
      refine ⟨(a % G, b % 100) :: us, by rw [List.length_cons]; omega, fun q hq => ?_, ?_⟩
      · rcases List.mem_cons.mp hq with rfl | hq
        · exact ⟨h1, h2⟩
        · exact u2 q hq
      · have e9 : vT ++ utx ((a % G, b % 100) :: us) = (vT ++ uline (a % G) (b % 100)) ++ utx us := by
          show vT ++ (uline (a % G) (b % 100) ++ utx us) = _
          rw [List.append_assoc]
        rw [e9, ← u3, ← eul]
        show B_K_night_207 (L_K_night_207 p0 n) p0 x0 (nI G) x5 (nI j) vT = _
        unfold B_K_night_207
        simp only [List.length_append] at hlen
        have hz : ¬ nI G = (0 : Int32) := fun w => by have := (nI_eq (a := G) (b := 0) (by omega) (by omega)).mp w; omega
        rw [eU, if_neg (show ¬ nI U ≤ nI j by rw [q_le (by omega) (by omega)]; omega), ea, eb, e1, e2, q_cl (by omega), q_cl (by omega), q_ck (by omega) (by omega)]
        refine (q_cnP ?_).trans ?_
        · simp only [List.length_append]; omega
        refine (q_cnP hz).trans ?_
        refine (q_cnP ?_).trans ?_
        · simp only [List.length_append]; omega
        refine (q_cnP ?_).trans ?_
        · simp only [List.length_append]; omega
        refine (q_cnP ⟨q_nn (by omega), by omega⟩).trans ?_
        refine (q_cnP ?_).trans ?_
        · simp only [List.length_append]; omega
        refine (q_cnP ?_).trans ?_
        · simp only [List.length_append]; omega
        rw [show nI j + 1 = nI (j + 1) from nI_add j 1]
    · refine ⟨[], by rw [List.length_nil]; omega, fun q hq => absurd hq List.not_mem_nil, ?_⟩
      have : j = U := by omega
      subst this
      show B_K_night_207 _ p0 x0 (nI G) x5 (nI j) vT = _
      unfold B_K_night_207
      rw [eU, if_pos (show nI j ≤ nI j by rw [q_le (by omega) (by omega)]; omega)]
      show some vT = some (vT ++ [])
      rw [List.append_nil]
theorem night_g {p0 x0 : Int32} {G U : Nat} (hG : 1 ≤ G) (hG6 : G ≤ 6) (hU : U ≤ 7) (eU : (x0 >>> (8 &&& 31)) &&& 7 = nI U) : ∀ n k x5 vT, k ≤ G → G - k < n → vT.length + 19 * (G - k) + 119 ≤ 300 → ∃ gs us : List (Nat × Nat), gs.length = G - k ∧ (∀ q ∈ gs, q.1 < 10 ∧ q.2 < 10) ∧ us.length ≤ 7 ∧ (∀ q ∈ us, q.1 < G ∧ q.2 < 100) ∧ L_K_night_95 p0 n x0 (nI G) x5 (nI k) vT = some (vT ++ gtx k gs ++ utx us) := by
  intro n
  induction n with
  | zero => intro k x5 vT _ h9; omega
  | succ n ih =>
    intro k x5 vT hk hn hl
    by_cases hkG : k < G
    · obtain ⟨a, ha, ea⟩ := and_le ((x5 * 1103515245 + 12345) >>> (8 &&& 31)) (c := 255) (by omega)
      obtain ⟨b, hb, eb⟩ := and_le ((x5 * 1103515245 + 12345) >>> (12 &&& 31)) (c := 1) (by omega)
      obtain ⟨c, hc, ec⟩ := and_le ((x5 * 1103515245 + 12345) >>> (13 &&& 31)) (c := 7) (by omega)
      have ea : ((x5 * 1103515245 + 12345) >>> (8 &&& 31)) &&& 255 = nI a := ea
      have eb : ((x5 * 1103515245 + 12345) >>> (12 &&& 31)) &&& 1 = nI b := eb
      have ec : ((x5 * 1103515245 + 12345) >>> (13 &&& 31)) &&& 7 = nI c := ec
      have h2 := Nat.mod_lt a (show 0 < 10 by omega)
      have e2 : nI a - nI a / 10 * 10 = nI (a % 10) := q_mod (n := 10) (by omega) (by omega) (by omega)
      have e3 : (1 : Int32) + nI c = nI (1 + c) := nI_add 1 c
      have fin : ∀ d, d < 10 → ∀ L : List Nat, L = vT ++ gline k (a % 10) d → ∃ gs us : List (Nat × Nat), gs.length = G - k ∧ (∀ q ∈ gs, q.1 < 10 ∧ q.2 < 10) ∧ us.length ≤ 7 ∧ (∀ q ∈ us, q.1 < G ∧ q.2 < 100) ∧ L_K_night_95 p0 n x0 (nI G) (x5 * 1103515245 + 12345) (nI k + 1) L = some (vT ++ gtx k gs ++ utx us) := by
        intro d hd L hL
        have hgl := glen (k := k) (g := a % 10) (d := d) (by omega) h2 hd
        subst hL
        obtain ⟨gs, us, g1, g2, g3, g4, g5⟩ := ih (k + 1) (x5 * 1103515245 + 12345) (vT ++ gline k (a % 10) d) (by omega) (by omega) (by rw [List.length_append]; omega)
        refine ⟨(a % 10, d) :: gs, us, by rw [List.length_cons]; omega, fun q hq => ?_, g3, g4, ?_⟩
        · rcases List.mem_cons.mp hq with rfl | hq
          · exact ⟨h2, hd⟩
          · exact g2 q hq
        · rw [show nI k + 1 = nI (k + 1) from nI_add k 1, g5]
          show _ = some (vT ++ (gline k (a % 10) d ++ gtx (k + 1) gs) ++ utx us)
          rw [List.append_assoc vT]
      have hnm := nm_len k (by omega)
      have hd1 := dg_1 (a % 10) h2
      have hd2 := dg_1 (1 + c) (by omega)
      show ∃ gs us : List (Nat × Nat), gs.length = G - k ∧ (∀ q ∈ gs, q.1 < 10 ∧ q.2 < 10) ∧ us.length ≤ 7 ∧ (∀ q ∈ us, q.1 < G ∧ q.2 < 100) ∧ B_K_night_95 (L_K_night_95 p0 n) p0 x0 (nI G) x5 (nI k) vT = some (vT ++ gtx k gs ++ utx us)
      unfold B_K_night_95
      rw [if_neg (show ¬ nI G ≤ nI k by rw [q_le (by omega) (by omega)]; omega), ea, eb, ec, e2, e3, q_cl (by omega), q_cl (by omega), q_cl (by omega), q_ck (by omega) (by omega)]
      have LN : ∀ {m : Nat}, m < 1000 → (digs m).length = sb_dg m := fun _ => digs_len _
      rw [q_cnP (show (vT ++ bytsN 12).length ≤ 300 by simp only [List.length_append, bl_12]; omega)]
      rw [q_cnP (show ((vT ++ bytsN 12) ++ bytsN (6 + k)).length ≤ 300 by simp only [List.length_append, bl_12]; omega)]
      rw [q_cnP (show (((vT ++ bytsN 12) ++ bytsN (6 + k)) ++ ([32] : List Nat)).length ≤ 300 by simp only [List.length_append, List.length_cons, List.length_nil, bl_12]; omega)]
      rw [q_cnP (show ¬ nI (a % 10) < 0 ∧ a % 10 < 1000 from ⟨q_nn (by omega), by omega⟩)]
      rw [q_cnP (show ((((vT ++ bytsN 12) ++ bytsN (6 + k)) ++ ([32] : List Nat)) ++ digs (a % 10)).length ≤ 300 by simp only [List.length_append, List.length_cons, List.length_nil, digs_len, bl_12]; omega)]
      by_cases hb0 : b = 0
      · rw [if_pos (show nI b = (0 : Int32) by rw [hb0]; rfl)]
        rw [q_cnP (show (((((vT ++ bytsN 12) ++ bytsN (6 + k)) ++ ([32] : List Nat)) ++ digs (a % 10)) ++ bytsN 13).length ≤ 300 by simp only [List.length_append, List.length_cons, List.length_nil, digs_len, bl_12, bl_13]; omega)]
        refine fin 0 (by omega) _ ?_
        unfold gline
        rw [if_pos rfl]
        simp only [List.append_assoc]
      · rw [if_neg (show ¬ nI b = (0 : Int32) from fun w => hb0 ((nI_eq (b := 0) (by omega) (by omega)).mp w))]
        rw [q_cnP (show (([] : List Nat) ++ bytsN 14).length ≤ 300 by simp only [List.length_append, List.length_nil, bl_14]; omega)]
        rw [q_cnP (show ¬ nI (1 + c) < 0 ∧ 1 + c < 1000 from ⟨q_nn (by omega), by omega⟩)]
        rw [q_cnP (show ((([] : List Nat) ++ bytsN 14) ++ digs (1 + c)).length ≤ 300 by simp only [List.length_append, List.length_nil, digs_len, bl_14]; omega)]
        rw [q_cnP (show (((([] : List Nat) ++ bytsN 14) ++ digs (1 + c)) ++ bytsN 13).length ≤ 300 by simp only [List.length_append, List.length_nil, digs_len, bl_14, bl_13]; omega)]
        rw [q_cnP (show (((((vT ++ bytsN 12) ++ bytsN (6 + k)) ++ ([32] : List Nat)) ++ digs (a % 10)) ++ (((([] : List Nat) ++ bytsN 14) ++ digs (1 + c)) ++ bytsN 13)).length ≤ 300 by simp only [List.length_append, List.length_cons, List.length_nil, digs_len, bl_12, bl_14, bl_13]; omega)]
        refine fin (1 + c) (by omega) _ ?_
        unfold gline
        rw [if_neg (show ¬ 1 + c = 0 by omega)]
        simp only [List.append_assoc, List.nil_append]
    · have : k = G := by omega
      subst this
      obtain ⟨us, u1, u2, u3⟩ := night_u (p0 := p0) hG hG6 hU eU 9 0 x5 vT (Nat.zero_le _) (by omega) (by omega)
      refine ⟨[], us, by rw [List.length_nil]; omega, fun q hq => absurd hq List.not_mem_nil, by omega, u2, ?_⟩
      show B_K_night_95 _ p0 x0 (nI k) x5 (nI k) vT = _
      unfold B_K_night_95
      rw [if_pos (show nI k ≤ nI k by rw [q_le (by omega) (by omega)]; omega)]
      refine Eq.trans u3 ?_
      show _ = some (vT ++ [] ++ utx us)
      rw [List.append_nil]
theorem night_of (p0 p1 : Int32) : ∃ (a b : Nat) (gs us : List (Nat × Nat)), a < 4 ∧ b < 128 ∧ 1 ≤ gs.length ∧ gs.length ≤ 6 ∧ (∀ q ∈ gs, q.1 < 10 ∧ q.2 < 10) ∧ us.length ≤ 7 ∧ (∀ q ∈ us, q.1 < gs.length ∧ q.2 < 100) ∧ F_K_night p0 p1 = some (headT a b ++ gtx 0 gs ++ utx us) := by
  obtain ⟨a, ha, ea⟩ := and_le p0 (c := 255) (by omega)
  obtain ⟨b, hb, eb⟩ := and_le (p0 >>> (2 &&& 31)) (c := 127) (by omega)
  obtain ⟨c, hc, ec⟩ := and_le (p0 >>> (4 &&& 31)) (c := 255) (by omega)
  obtain ⟨U, hU, eU⟩ := and_le (p0 >>> (8 &&& 31)) (c := 7) (by omega)
  have ea : p0 &&& 255 = nI a := ea
  have eb : (p0 >>> (2 &&& 31)) &&& 127 = nI b := eb
  have ec : (p0 >>> (4 &&& 31)) &&& 255 = nI c := ec
  have h1 := Nat.mod_lt a (show 0 < 4 by omega)
  have h2 := Nat.mod_lt c (show 0 < 6 by omega)
  have e1 : nI a - nI a / 4 * 4 = nI (a % 4) := q_mod (n := 4) (by omega) (by omega) (by omega)
  have e2 : nI c - nI c / 6 * 6 = nI (c % 6) := q_mod (n := 6) (by omega) (by omega) (by omega)
  have e3 : (1 : Int32) + nI (c % 6) = nI (1 + c % 6) := nI_add 1 _
  have hd1 := dg_1 (a % 4) (by omega)
  have hd2 := dg_3 b (by omega)
  have hl : (headT (a % 4) b).length ≤ 12 := by
    unfold headT
    simp only [List.length_append, List.length_cons, List.length_nil, digs_len, bl_5]
    omega
  obtain ⟨gs, us, g1, g2, g3, g4, g5⟩ := night_g (p0 := p0) (x0 := p0) (G := 1 + c % 6) (U := U) (by omega) (by omega) hU eU 8 0 p1 (headT (a % 4) b) (Nat.zero_le _) (by omega) (by omega)
  refine ⟨a % 4, b, gs, us, h1, by omega, by omega, by omega, g2, g3, fun q hq => ?_, ?_⟩
  · have := g4 q hq
    exact ⟨by omega, this.2⟩
  · rw [← g5]
    unfold F_K_night
    rw [ea, eb, ec, e1, e2, e3, q_cl (by omega), q_cl (by omega)]
    rw [q_cnP (show ¬ nI (a % 4) < 0 ∧ a % 4 < 1000 from ⟨q_nn (by omega), by omega⟩)]
    rw [q_cnP (show (bytsN 5 ++ digs (a % 4)).length ≤ 300 by simp only [List.length_append, digs_len, bl_5]; omega)]
    rw [q_cnP (show ((bytsN 5 ++ digs (a % 4)) ++ ([32] : List Nat)).length ≤ 300 by simp only [List.length_append, List.length_cons, List.length_nil, digs_len, bl_5]; omega)]
    rw [q_cnP (show ¬ nI b < 0 ∧ b < 1000 from ⟨q_nn (by omega), by omega⟩)]
    rw [q_cnP (show (((bytsN 5 ++ digs (a % 4)) ++ ([32] : List Nat)) ++ digs b).length ≤ 300 by simp only [List.length_append, List.length_cons, List.length_nil, digs_len, bl_5]; omega)]
    rw [q_cnP (show ((((bytsN 5 ++ digs (a % 4)) ++ ([32] : List Nat)) ++ digs b) ++ ([59] : List Nat)).length ≤ 300 by simp only [List.length_append, List.length_cons, List.length_nil, digs_len, bl_5]; omega)]
    rfl
