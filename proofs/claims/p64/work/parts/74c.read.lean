/-! the whole text is read -/
/-- the token behind A, of what is left of the text -/
def TokG (X A : List Nat) (w : Nat → Int32) : List (Nat × Nat) → Prop
  | [] => True
  | _ :: _ => w 0 = nI 1 ∧ w 1 = nI A.length ∧ w 2 = nI (A.length + 5)
def TokU (X A : List Nat) (w : Nat → Int32) : List (Nat × Nat) → Prop
  | [] => w 0 = nI 0
  | _ :: _ => w 0 = nI 1 ∧ w 1 = nI A.length ∧ w 2 = nI (A.length + 8)
section
variable {vB : Nat → Nat → Int32} {X : List Nat} {T : Nat} {vN : Nat → Int32} {vG vR : Nat → Nat → Int32}
theorem nxt_u (hX : Txt vB X) {A : List Nat} {us : List (Nat × Nat)} (hT : X = A ++ utx us) {u : Nat → Int32} (h2 : u 2 = nI A.length) : ∃ w, F_X4_advance u vB = some w ∧ TokU X A w us := by
  cases us with
  | nil =>
    have hT : X = A ++ [] := hT
    rw [List.append_nil] at hT
    subst hT
    obtain ⟨w, e, w0, _, _⟩ := adv_e hX h2
    exact ⟨w, e, w0⟩
  | cons q us =>
    have hT0 : X = A ++ ([] ++ (bytsN 4 ++ (32 :: (bytsN (6 + q.1) ++ [32] ++ digs q.2 ++ [59] ++ utx us)))) := by
      rw [hT]
      show A ++ (uline q.1 q.2 ++ utx us) = _
      unfold uline
      rw [bw_15]
      simp only [List.append_assoc, List.cons_append, List.nil_append]
    obtain ⟨w, e, w0, w1, w2⟩ := adv_w hX hT0 (Or.inl rfl) (by rw [bwl_4]; omega) (fun i hi => lw_4 i (by rw [bwl_4] at hi; exact hi)) (Or.inr ltr_32) h2
    rw [bwl_4] at w2
    exact ⟨w, e, w0, w1, w2⟩
theorem rt_u (hX : Txt vB X) {g : Nat} (hg : g ≤ 6) : ∀ (us : List (Nat × Nat)) f j A D vU w, us.length < f → j + us.length ≤ 7 → (∀ q ∈ us, q.1 < g ∧ q.2 < 100) → X = A ++ utx us → TokU X A w us → OkN T D → Car D → M8 vN vG vU vR D → NmD D g → D.U = j → ∃ P U D2, L_X4_readText_87 vB f 1 (nI j) w vN vG vU vR = some (-1, P, vN, vG, U, vR) ∧ M8 vN vG U vR D2 ∧ OkN T D2 ∧ Car D2 ∧ D2.G = g := by
  intro us
  induction us with
  | nil =>
    intro f j A D vU w hf hj _ hT tk o cr m nm hU
    obtain ⟨f, rfl⟩ : ∃ h, f = h + 1 := ⟨f - 1, by omega⟩
    refine ⟨w, vU, D, ?_, m, o, cr, nm.1⟩
    rw [eq87]
    unfold B_X4_readText_87
    have tk : w 0 = nI 0 := tk
    rw [if_neg (show ¬ (12 : Int32) ≤ nI j by rw [show (12 : Int32) = nI 12 from rfl, q_le (by omega) (by omega)]; omega), if_neg (show ¬ (1 : Int32) = 0 by decide), iw_4n tk (by omega) (by omega), q_sb, if_pos rfl]
    unfold J_X4_readText_133
    rw [if_neg (show ¬ (1 : Int32) = 0 by decide), if_pos (show w 0 = 0 from tk)]
  | cons q us ih =>
    intro f j A D vU w hf hj hq hT tk o cr m nm hU
    obtain ⟨f, rfl⟩ : ∃ h, f = h + 1 := ⟨f - 1, by omega⟩
    obtain ⟨w0, w1, w2⟩ := tk
    have hj : j + (us.length + 1) ≤ 7 := hj
    have hf : us.length + 1 < f + 1 := hf
    obtain ⟨q1, q2⟩ := hq q List.mem_cons_self
    have hT1 : X = A ++ (uline q.1 q.2 ++ utx us) := hT
    obtain ⟨u, U1, e1, u0, u2, _, m1'⟩ := umb_ok hX hg q1 q2 hT1 o.1 m nm (by omega) w2
    have hT2 : X = (A ++ uline q.1 q.2) ++ utx us := by rw [hT1, List.append_assoc]
    obtain ⟨w', e2, tk2⟩ := nxt_u hX hT2 (u := u) (by rw [u2, List.length_append])
    have hl : A.length + 8 ≤ X.length := by
      have hx := congrArg List.length hT1
      unfold uline at hx
      rw [bw_15] at hx
      simp only [List.length_append, List.length_cons, List.length_nil, bwl_4] at hx
      omega
    have i4 := iw_4 hX w0 w1 w2 hl (fun i hi => by
      rw [hT1]
      unfold uline
      rw [bw_15, gd_r]
      have e9 : bytsN 4 ++ [32] ++ bytsN (6 + q.1) ++ [32] ++ digs q.2 ++ [59] ++ utx us = bytsN 4 ++ ([32] ++ bytsN (6 + q.1) ++ [32] ++ digs q.2 ++ [59] ++ utx us) := by simp only [List.append_assoc, List.cons_append, List.nil_append]
      rw [e9]
      exact gd_l _ (by rw [bwl_4]; exact hi))
    obtain ⟨P, U, D2, e3, r1, r2, r3, r4⟩ := ih f (j + 1) (A ++ uline q.1 q.2) _ U1 w' (by omega) (by omega) (fun z hz => hq z (List.mem_cons_of_mem _ hz)) hT2 tk2 (okn_addU o (by omega) (by rw [nm.1]; exact q1) (show q.2 ≤ 99 by omega)) (car_umb cr q.1 q.2) m1' ⟨nm.1, nm.2⟩ (by show D.U + 1 = j + 1; omega)
    refine ⟨P, U, D2, ?_, r1, r2, r3, r4⟩
    rw [eq87]
    unfold B_X4_readText_87
    rw [if_neg (show ¬ (12 : Int32) ≤ nI j by rw [show (12 : Int32) = nI 12 from rfl, q_le (by omega) (by omega)]; omega), if_neg (show ¬ (1 : Int32) = 0 by decide), i4, q_sb, if_neg (show ¬ (1 : Int32) = 0 by decide), e1, q_sb]
    dsimp only
    rw [if_neg (show ¬ (1 : Int32) = 0 by decide), pS_1 u0 e2, q_sb]
    dsimp only
    rw [if_neg (show ¬ (1 : Int32) = 0 by decide), show nI j + 1 = nI (j + 1) from nI_add j 1]
    exact e3
end
