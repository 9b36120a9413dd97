/-! words, numbers, semicolons at a token -/
theorem bw_12 : bytsN 12 = bytsN 2 ++ [32] := by decide +kernel
theorem bw_5 : bytsN 5 = bytsN 1 ++ [32] := by decide +kernel
theorem bw_14 : bytsN 14 = [32] ++ (bytsN 3 ++ [32]) := by decide +kernel
theorem bw_15 : bytsN 15 = bytsN 4 ++ [32] := by decide +kernel
theorem bw_13 : bytsN 13 = [59] := by decide +kernel
theorem nw_0 {w : Nat → Int32} {k : Nat} (h : w 0 = nI k) (hk : k < 1000) (h1 : k ≠ 1) : ¬ w 0 = 1 := by
  rw [h]
  intro z
  exact h1 ((nI_eq (b := 1) (by omega) (by omega)).mp z)
theorem isN_1 {w : Nat → Int32} {v lo hi : Nat} (h0 : w 0 = nI 2) (h3 : w 3 = nI v) (h1 : lo ≤ v) (h2 : v ≤ hi) (hh : hi < 100000) : F_X4_isNumber w (nI lo) (nI hi) = some 1 := by
  unfold F_X4_isNumber
  rw [h0, h3, if_pos (show nI 2 = (2 : Int32) from rfl), if_neg (show ¬ nI v < nI lo by rw [q_lt (by omega) (by omega)]; omega), if_neg (show ¬ nI hi < nI v by rw [q_lt (by omega) (by omega)]; omega)]
theorem pS_1 {w u : Nat → Int32} {vB : Nat → Nat → Int32} (h0 : w 0 = nI 3) (e : F_X4_advance w vB = some u) : F_X4_passSemicolon w vB = some (1, u) := by
  unfold F_X4_passSemicolon
  rw [h0, if_pos (show nI 3 = (3 : Int32) from rfl), e]
  rfl
theorem ch_1 : ∀ j, j < 5 → chS 1 (nI j) = nI ((bytsN 1).getD j 0) := by decide +kernel
theorem lw_1 : ∀ j, j < 5 → ltr ((bytsN 1).getD j 0) = true := by decide +kernel
theorem bwl_1 : (bytsN 1).length = 5 := by decide +kernel
theorem iw_1 {vB : Nat → Nat → Int32} {X : List Nat} (hX : Txt vB X) {w : Nat → Int32} {s : Nat} (h0 : w 0 = nI 1) (h1 : w 1 = nI s) (h2 : w 2 = nI (s + 5)) (hs : s + 5 ≤ X.length) (hb : ∀ j, j < 5 → X.getD (s + j) 0 = (bytsN 1).getD j 0) : F_X4_isWord_1 w vB = some 1 := by
  obtain ⟨hB, hn, hl⟩ := hX
  have lp : ∀ d j f, j + d = 5 → d < f → L_X4_isWord_1_28 w vB f (nI j) = some 1 := by
    intro d
    induction d with
    | zero =>
      intro j f hj hf
      obtain ⟨f, rfl⟩ : ∃ g, f = g + 1 := ⟨f - 1, by omega⟩
      have : j = 5 := by omega
      subst this
      show B_X4_isWord_1_28 _ w vB (nI 5) = _
      unfold B_X4_isWord_1_28
      exact if_pos (by decide)
    | succ d ih =>
      intro j f hj hf
      obtain ⟨f, rfl⟩ : ∃ g, f = g + 1 := ⟨f - 1, by omega⟩
      show B_X4_isWord_1_28 (L_X4_isWord_1_28 w vB f) w vB (nI j) = _
      unfold B_X4_isWord_1_28
      have e1 : vB 1 (s + j) = nI ((bytsN 1).getD j 0) := (hB.2 (s + j) (by omega)).trans (congrArg nI (hb j (by omega)))
      rw [if_neg (show ¬ (5 : Int32) ≤ nI j by rw [show (5 : Int32) = nI 5 from rfl, q_le (by omega) (by omega)]; omega), h1, nI_add, q_ck (by omega) (by omega), q_ck (by omega) (by omega), q_cl (by omega), e1, ch_1 j (by omega), if_pos rfl, show nI j + 1 = nI (j + 1) from nI_add j 1]
      exact ih (j + 1) f (by omega) (by omega)
  unfold F_X4_isWord_1
  rw [h0, if_pos (show nI 1 = (1 : Int32) from rfl), h1, h2, q_sub (by omega), Nat.add_sub_cancel_left, if_pos (show nI 5 = (5 : Int32) from rfl)]
  exact lp 5 0 FU rfl (by unfold FU; omega)
theorem iw_1n {vB : Nat → Nat → Int32} {w : Nat → Int32} {k : Nat} (h : w 0 = nI k) (hk : k < 1000) (h1 : k ≠ 1) : F_X4_isWord_1 w vB = some 0 := by
  unfold F_X4_isWord_1
  exact if_neg (nw_0 h hk h1)
theorem iw_1l {vB : Nat → Nat → Int32} {w : Nat → Int32} {s m : Nat} (h0 : w 0 = nI 1) (h1 : w 1 = nI s) (h2 : w 2 = nI (s + m)) (hm : m ≠ 5) (hb : m < 1000) : F_X4_isWord_1 w vB = some 0 := by
  unfold F_X4_isWord_1
  rw [h0, if_pos (show nI 1 = (1 : Int32) from rfl), h1, h2, q_sub (by omega), Nat.add_sub_cancel_left]
  exact if_neg fun z => hm ((nI_eq (b := 5) (by omega) (by omega)).mp z)
theorem ch_2 : ∀ j, j < 5 → chS 2 (nI j) = nI ((bytsN 2).getD j 0) := by decide +kernel
theorem lw_2 : ∀ j, j < 5 → ltr ((bytsN 2).getD j 0) = true := by decide +kernel
theorem bwl_2 : (bytsN 2).length = 5 := by decide +kernel
theorem iw_2 {vB : Nat → Nat → Int32} {X : List Nat} (hX : Txt vB X) {w : Nat → Int32} {s : Nat} (h0 : w 0 = nI 1) (h1 : w 1 = nI s) (h2 : w 2 = nI (s + 5)) (hs : s + 5 ≤ X.length) (hb : ∀ j, j < 5 → X.getD (s + j) 0 = (bytsN 2).getD j 0) : F_X4_isWord_2 w vB = some 1 := by
  obtain ⟨hB, hn, hl⟩ := hX
  have lp : ∀ d j f, j + d = 5 → d < f → L_X4_isWord_2_28 w vB f (nI j) = some 1 := by
    intro d
    induction d with
    | zero =>
      intro j f hj hf
      obtain ⟨f, rfl⟩ : ∃ g, f = g + 1 := ⟨f - 1, by omega⟩
      have : j = 5 := by omega
      subst this
      show B_X4_isWord_2_28 _ w vB (nI 5) = _
      unfold B_X4_isWord_2_28
      exact if_pos (by decide)
    | succ d ih =>
      intro j f hj hf
      obtain ⟨f, rfl⟩ : ∃ g, f = g + 1 := ⟨f - 1, by omega⟩
      show B_X4_isWord_2_28 (L_X4_isWord_2_28 w vB f) w vB (nI j) = _
      unfold B_X4_isWord_2_28
      have e1 : vB 1 (s + j) = nI ((bytsN 2).getD j 0) := (hB.2 (s + j) (by omega)).trans (congrArg nI (hb j (by omega)))
      rw [if_neg (show ¬ (5 : Int32) ≤ nI j by rw [show (5 : Int32) = nI 5 from rfl, q_le (by omega) (by omega)]; omega), h1, nI_add, q_ck (by omega) (by omega), q_ck (by omega) (by omega), q_cl (by omega), e1, ch_2 j (by omega), if_pos rfl, show nI j + 1 = nI (j + 1) from nI_add j 1]
      exact ih (j + 1) f (by omega) (by omega)
  unfold F_X4_isWord_2
  rw [h0, if_pos (show nI 1 = (1 : Int32) from rfl), h1, h2, q_sub (by omega), Nat.add_sub_cancel_left, if_pos (show nI 5 = (5 : Int32) from rfl)]
  exact lp 5 0 FU rfl (by unfold FU; omega)
theorem iw_2n {vB : Nat → Nat → Int32} {w : Nat → Int32} {k : Nat} (h : w 0 = nI k) (hk : k < 1000) (h1 : k ≠ 1) : F_X4_isWord_2 w vB = some 0 := by
  unfold F_X4_isWord_2
  exact if_neg (nw_0 h hk h1)
theorem iw_2l {vB : Nat → Nat → Int32} {w : Nat → Int32} {s m : Nat} (h0 : w 0 = nI 1) (h1 : w 1 = nI s) (h2 : w 2 = nI (s + m)) (hm : m ≠ 5) (hb : m < 1000) : F_X4_isWord_2 w vB = some 0 := by
  unfold F_X4_isWord_2
  rw [h0, if_pos (show nI 1 = (1 : Int32) from rfl), h1, h2, q_sub (by omega), Nat.add_sub_cancel_left]
  exact if_neg fun z => hm ((nI_eq (b := 5) (by omega) (by omega)).mp z)
theorem ch_3 : ∀ j, j < 3 → chS 3 (nI j) = nI ((bytsN 3).getD j 0) := by decide +kernel
theorem lw_3 : ∀ j, j < 3 → ltr ((bytsN 3).getD j 0) = true := by decide +kernel
theorem bwl_3 : (bytsN 3).length = 3 := by decide +kernel
theorem iw_3 {vB : Nat → Nat → Int32} {X : List Nat} (hX : Txt vB X) {w : Nat → Int32} {s : Nat} (h0 : w 0 = nI 1) (h1 : w 1 = nI s) (h2 : w 2 = nI (s + 3)) (hs : s + 3 ≤ X.length) (hb : ∀ j, j < 3 → X.getD (s + j) 0 = (bytsN 3).getD j 0) : F_X4_isWord_3 w vB = some 1 := by
  obtain ⟨hB, hn, hl⟩ := hX
  have lp : ∀ d j f, j + d = 3 → d < f → L_X4_isWord_3_28 w vB f (nI j) = some 1 := by
    intro d
    induction d with
    | zero =>
      intro j f hj hf
      obtain ⟨f, rfl⟩ : ∃ g, f = g + 1 := ⟨f - 1, by omega⟩
      have : j = 3 := by omega
      subst this
      show B_X4_isWord_3_28 _ w vB (nI 3) = _
      unfold B_X4_isWord_3_28
      exact if_pos (by decide)
    | succ d ih =>
      intro j f hj hf
      obtain ⟨f, rfl⟩ : ∃ g, f = g + 1 := ⟨f - 1, by omega⟩
      show B_X4_isWord_3_28 (L_X4_isWord_3_28 w vB f) w vB (nI j) = _
      unfold B_X4_isWord_3_28
      have e1 : vB 1 (s + j) = nI ((bytsN 3).getD j 0) := (hB.2 (s + j) (by omega)).trans (congrArg nI (hb j (by omega)))
      rw [if_neg (show ¬ (3 : Int32) ≤ nI j by rw [show (3 : Int32) = nI 3 from rfl, q_le (by omega) (by omega)]; omega), h1, nI_add, q_ck (by omega) (by omega), q_ck (by omega) (by omega), q_cl (by omega), e1, ch_3 j (by omega), if_pos rfl, show nI j + 1 = nI (j + 1) from nI_add j 1]
      exact ih (j + 1) f (by omega) (by omega)
  unfold F_X4_isWord_3
  rw [h0, if_pos (show nI 1 = (1 : Int32) from rfl), h1, h2, q_sub (by omega), Nat.add_sub_cancel_left, if_pos (show nI 3 = (3 : Int32) from rfl)]
  exact lp 3 0 FU rfl (by unfold FU; omega)
theorem iw_3n {vB : Nat → Nat → Int32} {w : Nat → Int32} {k : Nat} (h : w 0 = nI k) (hk : k < 1000) (h1 : k ≠ 1) : F_X4_isWord_3 w vB = some 0 := by
  unfold F_X4_isWord_3
  exact if_neg (nw_0 h hk h1)
theorem iw_3l {vB : Nat → Nat → Int32} {w : Nat → Int32} {s m : Nat} (h0 : w 0 = nI 1) (h1 : w 1 = nI s) (h2 : w 2 = nI (s + m)) (hm : m ≠ 3) (hb : m < 1000) : F_X4_isWord_3 w vB = some 0 := by
  unfold F_X4_isWord_3
  rw [h0, if_pos (show nI 1 = (1 : Int32) from rfl), h1, h2, q_sub (by omega), Nat.add_sub_cancel_left]
  exact if_neg fun z => hm ((nI_eq (b := 3) (by omega) (by omega)).mp z)
theorem ch_4 : ∀ j, j < 8 → chS 4 (nI j) = nI ((bytsN 4).getD j 0) := by decide +kernel
theorem lw_4 : ∀ j, j < 8 → ltr ((bytsN 4).getD j 0) = true := by decide +kernel
theorem bwl_4 : (bytsN 4).length = 8 := by decide +kernel
theorem iw_4 {vB : Nat → Nat → Int32} {X : List Nat} (hX : Txt vB X) {w : Nat → Int32} {s : Nat} (h0 : w 0 = nI 1) (h1 : w 1 = nI s) (h2 : w 2 = nI (s + 8)) (hs : s + 8 ≤ X.length) (hb : ∀ j, j < 8 → X.getD (s + j) 0 = (bytsN 4).getD j 0) : F_X4_isWord_4 w vB = some 1 := by
  obtain ⟨hB, hn, hl⟩ := hX
  have lp : ∀ d j f, j + d = 8 → d < f → L_X4_isWord_4_28 w vB f (nI j) = some 1 := by
    intro d
    induction d with
    | zero =>
      intro j f hj hf
      obtain ⟨f, rfl⟩ : ∃ g, f = g + 1 := ⟨f - 1, by omega⟩
      have : j = 8 := by omega
      subst this
      show B_X4_isWord_4_28 _ w vB (nI 8) = _
      unfold B_X4_isWord_4_28
      exact if_pos (by decide)
    | succ d ih =>
      intro j f hj hf
      obtain ⟨f, rfl⟩ : ∃ g, f = g + 1 := ⟨f - 1, by omega⟩
      show B_X4_isWord_4_28 (L_X4_isWord_4_28 w vB f) w vB (nI j) = _
      unfold B_X4_isWord_4_28
      have e1 : vB 1 (s + j) = nI ((bytsN 4).getD j 0) := (hB.2 (s + j) (by omega)).trans (congrArg nI (hb j (by omega)))
      rw [if_neg (show ¬ (8 : Int32) ≤ nI j by rw [show (8 : Int32) = nI 8 from rfl, q_le (by omega) (by omega)]; omega), h1, nI_add, q_ck (by omega) (by omega), q_ck (by omega) (by omega), q_cl (by omega), e1, ch_4 j (by omega), if_pos rfl, show nI j + 1 = nI (j + 1) from nI_add j 1]
      exact ih (j + 1) f (by omega) (by omega)
  unfold F_X4_isWord_4
  rw [h0, if_pos (show nI 1 = (1 : Int32) from rfl), h1, h2, q_sub (by omega), Nat.add_sub_cancel_left, if_pos (show nI 8 = (8 : Int32) from rfl)]
  exact lp 8 0 FU rfl (by unfold FU; omega)
theorem iw_4n {vB : Nat → Nat → Int32} {w : Nat → Int32} {k : Nat} (h : w 0 = nI k) (hk : k < 1000) (h1 : k ≠ 1) : F_X4_isWord_4 w vB = some 0 := by
  unfold F_X4_isWord_4
  exact if_neg (nw_0 h hk h1)
theorem iw_4l {vB : Nat → Nat → Int32} {w : Nat → Int32} {s m : Nat} (h0 : w 0 = nI 1) (h1 : w 1 = nI s) (h2 : w 2 = nI (s + m)) (hm : m ≠ 8) (hb : m < 1000) : F_X4_isWord_4 w vB = some 0 := by
  unfold F_X4_isWord_4
  rw [h0, if_pos (show nI 1 = (1 : Int32) from rfl), h1, h2, q_sub (by omega), Nat.add_sub_cancel_left]
  exact if_neg fun z => hm ((nI_eq (b := 8) (by omega) (by omega)).mp z)
