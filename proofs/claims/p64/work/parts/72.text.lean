/-! tokens of a text that is put together -/
theorem gd_r (A X : List Nat) (i : Nat) : (A ++ X).getD (A.length + i) 0 = X.getD i 0 := by
  rw [List.getD_eq_getElem?_getD, List.getD_eq_getElem?_getD, List.getElem?_append_right (Nat.le_add_right _ _), Nat.add_sub_cancel_left]
theorem gd_l {A : List Nat} (X : List Nat) {i : Nat} (h : i < A.length) : (A ++ X).getD i 0 = A.getD i 0 := by
  rw [List.getD_eq_getElem?_getD, List.getD_eq_getElem?_getD, List.getElem?_append_left h]
theorem gd_2 {A B : List Nat} (X : List Nat) (i : Nat) : (A ++ (B ++ X)).getD (A.length + B.length + i) 0 = X.getD i 0 := by
  rw [← List.append_assoc, ← List.length_append]
  exact gd_r (A ++ B) X i
theorem valF_ext {l l' : Nat → Nat} {s s' : Nat} : ∀ k, (∀ i, i < k → l (s + i) = l' (s' + i)) → valF l s k = valF l' s' k := by
  intro k
  induction k with
  | zero => intro _; rfl
  | succ k ih =>
    intro h
    show valF l s k * 10 + (l (s + k) - 48) = valF l' s' k * 10 + (l' (s' + k) - 48)
    rw [ih fun i hi => h i (by omega), h k (Nat.lt_succ_self k)]
theorem dg_val : ∀ d, d < 128 → valF (fun i => (digs d).getD i 0) 0 (sb_dg d) = d := by decide +kernel
theorem dg_dgt : ∀ d, d < 128 → ∀ i, i < sb_dg d → dgt ((digs d).getD i 0) = true := by decide +kernel
theorem dg_pos : ∀ d, d < 128 → 0 < sb_dg d := by decide +kernel
/-- the parser's buffer holds the text X -/
def Txt (vB : Nat → Nat → Int32) (X : List Nat) : Prop := Buf vB (fun i => X.getD i 0) X.length ∧ X.length ≤ 600 ∧ ∀ i, X.getD i 0 < 256
section
variable {vB : Nat → Nat → Int32} {X A sp W R : List Nat} {vP : Nat → Int32}
theorem spc (hsp : sp = [] ∨ sp = [32]) (Y : List Nat) : (A.length + sp.length = A.length) ∨ (A.length + sp.length = A.length + 1 ∧ (A ++ (sp ++ Y)).getD A.length 0 = 32) := by
  rcases hsp with z | z
  · subst z; exact Or.inl rfl
  · subst z
    exact Or.inr ⟨rfl, gd_r A ([32] ++ Y) 0⟩
theorem adv_w (hX : Txt vB X) (hT : X = A ++ (sp ++ (W ++ R))) (hsp : sp = [] ∨ sp = [32]) (h0 : 0 < W.length) (hW : ∀ i, i < W.length → ltr (W.getD i 0) = true) (hR : R = [] ∨ ltr (R.getD 0 0) = false) (h2 : vP 2 = nI A.length) : ∃ w, F_X4_advance vP vB = some w ∧ w 0 = nI 1 ∧ w 1 = nI (A.length + sp.length) ∧ w 2 = nI (A.length + sp.length + W.length) := by
  subst hT
  obtain ⟨hB, hn, hl⟩ := hX
  have hlen : (A ++ (sp ++ (W ++ R))).length = A.length + sp.length + W.length + R.length := by
    simp only [List.length_append]
    omega
  have at1 : ∀ i, i < W.length → (A ++ (sp ++ (W ++ R))).getD (A.length + sp.length + i) 0 = W.getD i 0 := fun i hi => by rw [gd_2, gd_l R hi]
  have hw0 := hW 0 h0
  have l0 := at1 0 h0
  rw [Nat.add_zero] at l0
  have hlt := of_decide_eq_true hw0
  obtain ⟨u, e1, u1⟩ := ad_8 hB hn hl (s := A.length + sp.length) (by omega) h2 (spc hsp _) (Or.inr (by
    show (A ++ (sp ++ (W ++ R))).getD (A.length + sp.length) 0 ≠ 32 ∧ (A ++ (sp ++ (W ++ R))).getD (A.length + sp.length) 0 ≠ 10
    rw [l0]
    omega))
  obtain ⟨w, e2, w0, w1, w2⟩ := (ad_53 hB hn hl (vP := u) (s := A.length + sp.length) (by omega) u1).1 (A.length + sp.length + W.length) (by omega) (by omega) (fun k k1 k2 => by
    obtain ⟨j, rfl⟩ : ∃ j, k = A.length + sp.length + j := ⟨k - (A.length + sp.length), by omega⟩
    show ltr ((A ++ (sp ++ (W ++ R))).getD (A.length + sp.length + j) 0) = true
    rw [at1 j (by omega)]
    exact hW j (by omega)) (by
    rcases hR with z | z
    · subst z
      left
      rw [hlen]
      rfl
    · right
      show ltr ((A ++ (sp ++ (W ++ R))).getD (A.length + sp.length + W.length) 0) = false
      rw [gd_2]
      have := gd_r W R 0
      rw [Nat.add_zero] at this
      rw [this]
      exact z)
  exact ⟨w, e1.trans e2, w0, w1, w2⟩
theorem adv_d {d : Nat} (hd : d < 128) (hX : Txt vB X) (hT : X = A ++ (sp ++ (digs d ++ R))) (hsp : sp = [] ∨ sp = [32]) (hR : R = [] ∨ dgt (R.getD 0 0) = false) (h2 : vP 2 = nI A.length) : ∃ w, F_X4_advance vP vB = some w ∧ w 0 = nI 2 ∧ w 1 = nI (A.length + sp.length) ∧ w 2 = nI (A.length + sp.length + (digs d).length) ∧ w 3 = nI d := by
  subst hT
  obtain ⟨hB, hn, hl⟩ := hX
  have hdl : (digs d).length = sb_dg d := digs_len d
  have hd3 := dg_3 d hd
  have hd0 := dg_pos d hd
  have hlen : (A ++ (sp ++ (digs d ++ R))).length = A.length + sp.length + (digs d).length + R.length := by
    simp only [List.length_append]
    omega
  have at1 : ∀ i, i < (digs d).length → (A ++ (sp ++ (digs d ++ R))).getD (A.length + sp.length + i) 0 = (digs d).getD i 0 := fun i hi => by rw [gd_2, gd_l R hi]
  have hw0 := (dgt_iff _).mp (dg_dgt d hd 0 hd0)
  have l0 := at1 0 (by omega)
  rw [Nat.add_zero] at l0
  obtain ⟨u, e1, u1⟩ := ad_8 hB hn hl (s := A.length + sp.length) (by omega) h2 (spc hsp _) (Or.inr (by
    show (A ++ (sp ++ (digs d ++ R))).getD (A.length + sp.length) 0 ≠ 32 ∧ (A ++ (sp ++ (digs d ++ R))).getD (A.length + sp.length) 0 ≠ 10
    rw [l0]
    omega))
  have hv : valF (fun i => (A ++ (sp ++ (digs d ++ R))).getD i 0) (A.length + sp.length) (A.length + sp.length + (digs d).length - (A.length + sp.length)) = d := by
    rw [Nat.add_sub_cancel_left, hdl]
    refine Eq.trans (valF_ext (l' := fun i => (digs d).getD i 0) (s' := 0) _ fun i hi => ?_) (dg_val d hd)
    show (A ++ (sp ++ (digs d ++ R))).getD (A.length + sp.length + i) 0 = (digs d).getD (0 + i) 0
    rw [at1 i (by omega), Nat.zero_add]
  obtain ⟨w, e2, w0, w1, w2, w3⟩ := (ad_53 hB hn hl (vP := u) (s := A.length + sp.length) (by omega) u1).2.1 (A.length + sp.length + (digs d).length) (by omega) (by omega) (by omega) (fun k k1 k2 => by
    obtain ⟨j, rfl⟩ : ∃ j, k = A.length + sp.length + j := ⟨k - (A.length + sp.length), by omega⟩
    show dgt ((A ++ (sp ++ (digs d ++ R))).getD (A.length + sp.length + j) 0) = true
    rw [at1 j (by omega)]
    exact dg_dgt d hd j (by omega)) (by
    rcases hR with z | z
    · subst z
      left
      rw [hlen]
      rfl
    · right
      show dgt ((A ++ (sp ++ (digs d ++ R))).getD (A.length + sp.length + (digs d).length) 0) = false
      rw [gd_2]
      have := gd_r (digs d) R 0
      rw [Nat.add_zero] at this
      rw [this]
      exact z) (by rw [hv]; omega)
  exact ⟨w, e1.trans e2, w0, w1, w2, by rw [w3, hv]⟩
theorem adv_s (hX : Txt vB X) (hT : X = A ++ (59 :: R)) (h2 : vP 2 = nI A.length) : ∃ w, F_X4_advance vP vB = some w ∧ w 0 = nI 3 ∧ w 1 = nI A.length ∧ w 2 = nI (A.length + 1) := by
  subst hT
  obtain ⟨hB, hn, hl⟩ := hX
  have hlen : (A ++ (59 :: R)).length = A.length + (R.length + 1) := by simp only [List.length_append, List.length_cons]
  have l0 : (A ++ (59 :: R)).getD A.length 0 = 59 := gd_r A (59 :: R) 0
  obtain ⟨u, e1, u1⟩ := ad_8 hB hn hl (s := A.length) (by omega) h2 (Or.inl rfl) (Or.inr (by
    show (A ++ (59 :: R)).getD A.length 0 ≠ 32 ∧ (A ++ (59 :: R)).getD A.length 0 ≠ 10
    rw [l0]
    decide))
  obtain ⟨w, e2, w0, w1, w2⟩ := (ad_53 hB hn hl (vP := u) (s := A.length) (by omega) u1).2.2.1 (by omega) l0
  exact ⟨w, e1.trans e2, w0, w1, w2⟩
theorem adv_e (hX : Txt vB X) (h2 : vP 2 = nI X.length) : ∃ w, F_X4_advance vP vB = some w ∧ w 0 = nI 0 ∧ w 1 = nI X.length ∧ w 2 = nI X.length := by
  obtain ⟨hB, hn, hl⟩ := hX
  obtain ⟨u, e1, u1⟩ := ad_8 hB hn hl (s := X.length) (Nat.le_refl _) h2 (Or.inl rfl) (Or.inl rfl)
  obtain ⟨w, e2, w0, w1, w2⟩ := (ad_53 hB hn hl (vP := u) (s := X.length) (Nat.le_refl _) u1).2.2.2 rfl
  exact ⟨w, e1.trans e2, w0, w1, w2⟩
end
