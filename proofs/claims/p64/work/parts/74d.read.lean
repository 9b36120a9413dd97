/-! guests, the whole text -/
def TokA (X A : List Nat) (w : Nat → Int32) (us : List (Nat × Nat)) : List (Nat × Nat) → Prop
  | [] => TokU X A w us
  | _ :: _ => w 0 = nI 1 ∧ w 1 = nI A.length ∧ w 2 = nI (A.length + 5)
section
variable {vB : Nat → Nat → Int32} {X : List Nat} {T : Nat} {vN : Nat → Int32} {vR : Nat → Nat → Int32}
theorem nxt_g (hX : Txt vB X) {A : List Nat} {gs us : List (Nat × Nat)} {k : Nat} (hT : X = A ++ (gtx k gs ++ utx us)) {u : Nat → Int32} (h2 : u 2 = nI A.length) : ∃ w, F_X4_advance u vB = some w ∧ TokA X A w us gs := by
  cases gs with
  | nil => exact nxt_u hX hT h2
  | cons q gs =>
    have hT0 : X = A ++ ([] ++ (bytsN 2 ++ (32 :: (bytsN (6 + k) ++ [32] ++ digs q.1 ++ (if q.2 = 0 then bytsN 13 else bytsN 14 ++ digs q.2 ++ bytsN 13) ++ gtx (k + 1) gs ++ utx us)))) := by
      rw [hT]
      show A ++ ((gline k q.1 q.2 ++ gtx (k + 1) gs) ++ utx us) = _
      unfold gline
      rw [bw_12]
      simp only [List.append_assoc, List.cons_append, List.nil_append]
    obtain ⟨w, e, w0, w1, w2⟩ := adv_w hX hT0 (Or.inl rfl) (by rw [bwl_2]; omega) (fun i hi => lw_2 i (by rw [bwl_2] at hi; exact hi)) (Or.inr ltr_32) h2
    rw [bwl_2] at w2
    exact ⟨w, e, w0, w1, w2⟩
theorem rt_g (hX : Txt vB X) {us : List (Nat × Nat)} {G : Nat} (hG : G ≤ 6) (hu7 : us.length ≤ 7) (hus : ∀ q ∈ us, q.1 < G ∧ q.2 < 100) (hT6 : T ≤ 600) : ∀ (gs : List (Nat × Nat)) f k A D vG vU w, gs.length < f → k + gs.length = G → (∀ q ∈ gs, q.1 < 10 ∧ q.2 < 10) → X = A ++ (gtx k gs ++ utx us) → TokA X A w us gs → OkN T D → D.U = 0 → M8 vN vG vU vR D → NmD D k → ∃ P GG U D2, L_X4_readText_36 vB f 1 (nI k) w vN vG vU vR = some (-1, P, vN, GG, U, vR) ∧ M8 vN GG U vR D2 ∧ OkN T D2 ∧ Car D2 := by
  intro gs
  induction gs with
  | nil =>
    intro f k A D vG vU w hf hk _ hT tk o hU m nm
    obtain ⟨f, rfl⟩ : ∃ h, f = h + 1 := ⟨f - 1, by omega⟩
    have hk : k = G := hk
    subst hk
    have tk : TokU X A w us := tk
    obtain ⟨P, U, D2, e, r1, r2, r3, _⟩ := rt_u hX hG us FU 0 A D vU w (by unfold FU; omega) (by omega) hus hT tk o (car_none (fun u hu => by omega)) m nm hU
    refine ⟨P, vG, U, D2, ?_, r1, r2, r3⟩
    rw [eq36]
    unfold B_X4_readText_36
    have i2 : F_X4_isWord_2 w vB = some 0 := by
      cases us with
      | nil =>
        have tk : w 0 = nI 0 := tk
        exact iw_2n tk (by omega) (by omega)
      | cons q us => exact iw_2l tk.1 tk.2.1 tk.2.2 (by omega) (by omega)
    rw [if_neg (show ¬ (10 : Int32) ≤ nI k by rw [show (10 : Int32) = nI 10 from rfl, q_le (by omega) (by omega)]; omega), if_neg (show ¬ (1 : Int32) = 0 by decide), i2, q_sb, if_pos rfl]
    exact e
  | cons q gs ih =>
    intro f k A D vG vU w hf hk hq hT tk o hU m nm
    obtain ⟨f, rfl⟩ : ∃ h, f = h + 1 := ⟨f - 1, by omega⟩
    obtain ⟨w0, w1, w2⟩ := tk
    have hk : k + (gs.length + 1) = G := hk
    have hf : gs.length + 1 < f + 1 := hf
    obtain ⟨q1, q2⟩ := hq q List.mem_cons_self
    have hT1 : X = A ++ (gline k q.1 q.2 ++ (gtx (k + 1) gs ++ utx us)) := by
      rw [hT]
      show A ++ ((gline k q.1 q.2 ++ gtx (k + 1) gs) ++ utx us) = _
      simp only [List.append_assoc, List.cons_append, List.nil_append]
    obtain ⟨u, G1, e1, u0, u2, m1'⟩ := guest_ok hX (by omega) q1 q2 hT1 o.1 m nm w2
    have hT2 : X = (A ++ gline k q.1 q.2) ++ (gtx (k + 1) gs ++ utx us) := by rw [hT1, List.append_assoc]
    obtain ⟨w', e2, tk2⟩ := nxt_g hX hT2 (u := u) (by rw [u2, List.length_append])
    have hl : A.length + 5 ≤ X.length := by
      have hx := congrArg List.length hT1
      unfold gline at hx
      rw [bw_12] at hx
      simp only [List.length_append, List.length_cons, List.length_nil, bwl_2] at hx
      omega
    have i2 := iw_2 hX w0 w1 w2 hl (fun i hi => by
      rw [hT1]
      unfold gline
      rw [bw_12, gd_r]
      have e9 : bytsN 2 ++ [32] ++ bytsN (6 + k) ++ [32] ++ digs q.1 ++ (if q.2 = 0 then bytsN 13 else bytsN 14 ++ digs q.2 ++ bytsN 13) ++ (gtx (k + 1) gs ++ utx us) = bytsN 2 ++ ([32] ++ bytsN (6 + k) ++ [32] ++ digs q.1 ++ (if q.2 = 0 then bytsN 13 else bytsN 14 ++ digs q.2 ++ bytsN 13) ++ (gtx (k + 1) gs ++ utx us)) := by simp only [List.append_assoc, List.cons_append, List.nil_append]
      rw [e9]
      exact gd_l _ (by rw [bwl_2]; exact hi))
    have hnl := nm_len k (by omega)
    have hnp := nm_pos k (by omega)
    obtain ⟨P, GG, U, D2, e3, r1, r2, r3⟩ := ih f (k + 1) (A ++ gline k q.1 q.2) _ G1 vU w' (by omega) (by omega) (fun z hz => hq z (List.mem_cons_of_mem _ hz)) hT2 tk2 (okn_gst o (by rw [nm.1]; omega) ⟨hnp, by omega⟩ (fun i hi => of_decide_eq_true (nm_ltr k (by omega) i hi)) (show q.1 ≤ 9 by omega) (show q.2 ≤ 9 by omega)) hU m1' (nm.new (by omega))
    refine ⟨P, GG, U, D2, ?_, r1, r2, r3⟩
    rw [eq36]
    unfold B_X4_readText_36
    rw [if_neg (show ¬ (10 : Int32) ≤ nI k by rw [show (10 : Int32) = nI 10 from rfl, q_le (by omega) (by omega)]; omega), if_neg (show ¬ (1 : Int32) = 0 by decide), i2, q_sb, if_neg (show ¬ (1 : Int32) = 0 by decide), e1, q_sb]
    dsimp only
    rw [if_neg (show ¬ (1 : Int32) = 0 by decide), pS_1 u0 e2, q_sb]
    dsimp only
    rw [if_neg (show ¬ (1 : Int32) = 0 by decide), show nI k + 1 = nI (k + 1) from nI_add k 1]
    exact e3
theorem rt_of {vP vN0 : Nat → Int32} {vG0 vU0 vR0 : Nat → Nat → Int32} {a b : Nat} {gs us : List (Nat × Nat)} (hX : Txt vB X) (ha : a < 4) (hb : b < 128) (hg : gs.length ≤ 6) (hgs : ∀ q ∈ gs, q.1 < 10 ∧ q.2 < 10) (hu : us.length ≤ 7) (hus : ∀ q ∈ us, q.1 < gs.length ∧ q.2 < 100) (hT : X = headT a b ++ (gtx 0 gs ++ utx us)) (hT6 : T ≤ 600) : ∃ P N G U R D2, F_X4_readText vP vN0 vG0 vU0 vR0 vB = some (-1, P, N, G, U, R) ∧ M8 N G U R D2 ∧ OkN T D2 ∧ Car D2 := by
  obtain ⟨r, e0, m0⟩ := m8_00 vN0 vG0 vU0 vR0
  obtain ⟨w, u, e1, e2, u0, u2⟩ := head_ok (vN := r.1) hX ha hb hT (vP := va_up vP 2 0) rfl
  obtain ⟨w', e3, tk⟩ := nxt_g hX hT u2
  have o0 := okn_00 hT6
  have m1' := (m0.s_ra (v := a)).s_li (v := b)
  have o1 : OkN T (upD (upD D00 0 1 a) 0 2 b) := ⟨(o0.1.s_ra (v := a) (by omega)).s_li (v := b) (by omega), alt_same o0.2.1 rfl rfl (fun _ => ⟨rfl, rfl, rfl⟩) (fun _ _ => ⟨rfl, rfl⟩), o0.2.2⟩
  obtain ⟨P, G, U, D2, e4, r1, r2, r3⟩ := rt_g hX (us := us) (G := gs.length) hg hu hus hT6 gs FU 0 (headT a b) _ r.2.1 r.2.2.1 w' (by unfold FU; omega) (by omega) hgs hT tk o1 rfl m1' ⟨rfl, fun j hj => absurd hj (Nat.not_lt_zero j)⟩
  refine ⟨P, _, G, U, _, D2, ?_, r1, r2, r3⟩
  unfold F_X4_readText
  rw [e0, q_sb, q_lt0, e1, q_sb, e2, q_sb]
  dsimp only
  rw [if_neg (show ¬ (1 : Int32) = 0 by decide), pS_1 u0 e3, q_sb]
  dsimp only
  rw [if_neg (show ¬ (1 : Int32) = 0 by decide)]
  exact e4
end
