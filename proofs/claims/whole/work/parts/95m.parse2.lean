/-! the text read: words, numbers, guests, umbrellas -/
def wlS (i j : Nat) : Nat := (chS i (nI j)).toNatClampNeg
def isWd (l : Nat → Nat) (i m k s e : Nat) : Bool := decide (k = 1 ∧ e - s = m) && allF (fun j => decide (l (s + j) = wlS i j)) m
theorem isWd_iff (l : Nat → Nat) (i m k s e : Nat) : isWd l i m k s e = true ↔ (k = 1 ∧ e - s = m) ∧ ∀ j, j < m → l (s + j) = wlS i j := by
  unfold isWd
  rw [Bool.and_eq_true, allF_iff, decide_eq_true_iff]
  exact ⟨fun ⟨a, b⟩ => ⟨a, fun j hj => of_decide_eq_true (b j hj)⟩, fun ⟨a, b⟩ => ⟨a, fun j hj => decide_eq_true (b j hj)⟩⟩
theorem isWr {l : Nat → Nat} {n k s e v i m : Nat} {vP : Nat → Int32} {M : (Nat → Int32) × Int64} {code : Nat} (hm : m ≤ 8) (hwl : ∀ j, j < m → 97 ≤ wlS i j ∧ wlS i j ≤ 122) (hc : codeF (wlS i) m = code) (hcb : code < 7625597484987) (t : Tk l n vP M k s e v) : F_X9_isWord M (lN code) = some (if isWd l i m k s e = true then nI 1 else nI 0) := by
  obtain ⟨t1, t2, t3, p0, p1, p2, x1, x4, x5, x6, hnum, hwd⟩ := t
  unfold F_X9_isWord
  rw [x6]
  by_cases hk : k = 1
  · obtain ⟨hse, hlt, hw⟩ := hwd hk
    rw [hk, if_pos (show nI 1 = (1 : Int32) from rfl)]
    have hcap : wcap (e - s) ≤ 9 := by unfold wcap; split <;> omega
    have hcl : wcap (e - s) ≤ e - s := by unfold wcap; split <;> omega
    have hlet : ∀ j, j < wcap (e - s) → 97 ≤ l (s + j) ∧ l (s + j) ≤ 122 := fun j hj => hlt (s + j) (by omega) (by omega)
    have hbd := wcode_bd (l := fun j => l (s + j)) (n := wcap (e - s)) hlet hcap
    have key : (lg_cmp M.2 (lN code) = 0) ↔ isWd l i m 1 s e = true := by
      rw [lg_cmp_eq, hw, pk_lEQ (by omega) (by omega), isWd_iff, ← hc]
      constructor
      · intro h
        obtain ⟨h1, h2⟩ := code_inj hlet hwl h
        have h3 : e - s = m := by
          unfold wcap at h1
          split at h1 <;> omega
        exact ⟨⟨rfl, h3⟩, fun j hj => h2 j (by omega)⟩
      · intro ⟨⟨_, h1⟩, h2⟩
        have h3 : wcap (e - s) = m := by unfold wcap; rw [if_pos (by omega)]; exact h1
        rw [h3]
        exact code_ext h2
    by_cases c : isWd l i m 1 s e = true
    · rw [if_pos (key.mpr c), if_pos c]
      rfl
    · rw [if_neg (fun h => c (key.mp h)), if_neg c]
      rfl
  · have : isWd l i m k s e = false := by
      unfold isWd
      rw [decide_eq_false (fun h => hk h.1), Bool.false_and]
    rw [this, if_neg (show ¬ nI k = (1 : Int32) from fun h => hk ((nI_eq (by omega) (by omega)).mp h)), if_neg (by decide)]
    rfl
theorem wl_1 : ∀ j, j < 5 → chS 1 (nI j) = nI (wlS 1 j) ∧ 97 ≤ wlS 1 j ∧ wlS 1 j ≤ 122 := by decide +kernel
theorem wc_1 : codeF (wlS 1) 5 = 7622660 := by decide +kernel
theorem isW_1 {vB : Nat → Nat → Int32} {vbuffer : Nat → Int32} {l : Nat → Nat} {n k s e v : Nat} {vP : Nat → Int32} {M : (Nat → Int32) × Int64} (hB : Byt vB vbuffer l n) (t : Tk l n vP M k s e v) : F_X4_isWord_1 vP vB = some (if isWd l 1 5 k s e = true then nI 1 else nI 0) ∧ F_X9_isWord M 7622660 = some (if isWd l 1 5 k s e = true then nI 1 else nI 0) := by
  refine ⟨?_, isWr (i := 1) (m := 5) (by omega) (fun j hj => (wl_1 j hj).2) wc_1 (by decide) t⟩
  obtain ⟨t1, t2, t3, p0, p1, p2, _⟩ := t
  have hn := hB.1
  by_cases hk : k = 1
  · by_cases hm : e - s = 5
    · have : isWd l 1 5 k s e = allF (fun j => decide (l (s + j) = wlS 1 j)) 5 := by
        unfold isWd
        rw [decide_eq_true ⟨hk, hm⟩, Bool.true_and]
      rw [this]
      simp (disch := omega) only [F_X4_isWord_1, q_lit, p0, p1, p2, q_eq, hk, eq_self, if_true, q_sub, hm]
      refine lp_all (L := fun f j => L_X4_isWord_1_28 vP vB f j) (U := 5) (fun f j hj => ?_) (fun f => ?_) FU 0 (Nat.zero_le _) (by unfold FU; omega) rfl
      · have hb := hB.2.2 (s + j) (by omega)
        have hw := wl_1 j hj
        have h5 : ¬ 5 ≤ j := by omega
        simp (disch := omega) only [L_X4_isWord_1_28, B_X4_isWord_1_28, q_lit, nI_add, q_ck, q_cl, p1, q_le, h5, if_false, hb.1, hw.1, q_eq]
        by_cases c : l (s + j) = wlS 1 j
        · rw [if_pos c, if_pos (decide_eq_true c)]
        · rw [if_neg c, if_neg (fun h => c (of_decide_eq_true h))]
      · simp (disch := omega) only [L_X4_isWord_1_28, B_X4_isWord_1_28, q_lit, q_le, Nat.le_refl, if_true]
    · have : isWd l 1 5 k s e = false := by
        unfold isWd
        rw [decide_eq_false (fun h => hm h.2), Bool.false_and]
      rw [this, if_neg (by decide)]
      simp (disch := omega) only [F_X4_isWord_1, q_lit, p0, p1, p2, q_eq, hk, eq_self, if_true, q_sub, hm, if_false]
  · have : isWd l 1 5 k s e = false := by
      unfold isWd
      rw [decide_eq_false (fun h => hk h.1), Bool.false_and]
    rw [this, if_neg (by decide)]
    simp (disch := omega) only [F_X4_isWord_1, q_lit, p0, q_eq, hk, if_false]
theorem wl_2 : ∀ j, j < 5 → chS 2 (nI j) = nI (wlS 2 j) ∧ 97 ≤ wlS 2 j ∧ wlS 2 j ≤ 122 := by decide +kernel
theorem wc_2 : codeF (wlS 2) 5 = 4137608 := by decide +kernel
theorem isW_2 {vB : Nat → Nat → Int32} {vbuffer : Nat → Int32} {l : Nat → Nat} {n k s e v : Nat} {vP : Nat → Int32} {M : (Nat → Int32) × Int64} (hB : Byt vB vbuffer l n) (t : Tk l n vP M k s e v) : F_X4_isWord_2 vP vB = some (if isWd l 2 5 k s e = true then nI 1 else nI 0) ∧ F_X9_isWord M 4137608 = some (if isWd l 2 5 k s e = true then nI 1 else nI 0) := by
  refine ⟨?_, isWr (i := 2) (m := 5) (by omega) (fun j hj => (wl_2 j hj).2) wc_2 (by decide) t⟩
  obtain ⟨t1, t2, t3, p0, p1, p2, _⟩ := t
  have hn := hB.1
  by_cases hk : k = 1
  · by_cases hm : e - s = 5
    · have : isWd l 2 5 k s e = allF (fun j => decide (l (s + j) = wlS 2 j)) 5 := by
        unfold isWd
        rw [decide_eq_true ⟨hk, hm⟩, Bool.true_and]
      rw [this]
      simp (disch := omega) only [F_X4_isWord_2, q_lit, p0, p1, p2, q_eq, hk, eq_self, if_true, q_sub, hm]
      refine lp_all (L := fun f j => L_X4_isWord_2_28 vP vB f j) (U := 5) (fun f j hj => ?_) (fun f => ?_) FU 0 (Nat.zero_le _) (by unfold FU; omega) rfl
      · have hb := hB.2.2 (s + j) (by omega)
        have hw := wl_2 j hj
        have h5 : ¬ 5 ≤ j := by omega
        simp (disch := omega) only [L_X4_isWord_2_28, B_X4_isWord_2_28, q_lit, nI_add, q_ck, q_cl, p1, q_le, h5, if_false, hb.1, hw.1, q_eq]
        by_cases c : l (s + j) = wlS 2 j
        · rw [if_pos c, if_pos (decide_eq_true c)]
        · rw [if_neg c, if_neg (fun h => c (of_decide_eq_true h))]
      · simp (disch := omega) only [L_X4_isWord_2_28, B_X4_isWord_2_28, q_lit, q_le, Nat.le_refl, if_true]
    · have : isWd l 2 5 k s e = false := by
        unfold isWd
        rw [decide_eq_false (fun h => hm h.2), Bool.false_and]
      rw [this, if_neg (by decide)]
      simp (disch := omega) only [F_X4_isWord_2, q_lit, p0, p1, p2, q_eq, hk, eq_self, if_true, q_sub, hm, if_false]
  · have : isWd l 2 5 k s e = false := by
      unfold isWd
      rw [decide_eq_false (fun h => hk h.1), Bool.false_and]
    rw [this, if_neg (by decide)]
    simp (disch := omega) only [F_X4_isWord_2, q_lit, p0, q_eq, hk, if_false]
theorem wl_3 : ∀ j, j < 3 → chS 3 (nI j) = nI (wlS 3 j) ∧ 97 ≤ wlS 3 j ∧ wlS 3 j ≤ 122 := by decide +kernel
theorem wc_3 : codeF (wlS 3) 3 = 3328 := by decide +kernel
theorem isW_3 {vB : Nat → Nat → Int32} {vbuffer : Nat → Int32} {l : Nat → Nat} {n k s e v : Nat} {vP : Nat → Int32} {M : (Nat → Int32) × Int64} (hB : Byt vB vbuffer l n) (t : Tk l n vP M k s e v) : F_X4_isWord_3 vP vB = some (if isWd l 3 3 k s e = true then nI 1 else nI 0) ∧ F_X9_isWord M 3328 = some (if isWd l 3 3 k s e = true then nI 1 else nI 0) := by
  refine ⟨?_, isWr (i := 3) (m := 3) (by omega) (fun j hj => (wl_3 j hj).2) wc_3 (by decide) t⟩
  obtain ⟨t1, t2, t3, p0, p1, p2, _⟩ := t
  have hn := hB.1
  by_cases hk : k = 1
  · by_cases hm : e - s = 3
    · have : isWd l 3 3 k s e = allF (fun j => decide (l (s + j) = wlS 3 j)) 3 := by
        unfold isWd
        rw [decide_eq_true ⟨hk, hm⟩, Bool.true_and]
      rw [this]
      simp (disch := omega) only [F_X4_isWord_3, q_lit, p0, p1, p2, q_eq, hk, eq_self, if_true, q_sub, hm]
      refine lp_all (L := fun f j => L_X4_isWord_3_28 vP vB f j) (U := 3) (fun f j hj => ?_) (fun f => ?_) FU 0 (Nat.zero_le _) (by unfold FU; omega) rfl
      · have hb := hB.2.2 (s + j) (by omega)
        have hw := wl_3 j hj
        have h5 : ¬ 3 ≤ j := by omega
        simp (disch := omega) only [L_X4_isWord_3_28, B_X4_isWord_3_28, q_lit, nI_add, q_ck, q_cl, p1, q_le, h5, if_false, hb.1, hw.1, q_eq]
        by_cases c : l (s + j) = wlS 3 j
        · rw [if_pos c, if_pos (decide_eq_true c)]
        · rw [if_neg c, if_neg (fun h => c (of_decide_eq_true h))]
      · simp (disch := omega) only [L_X4_isWord_3_28, B_X4_isWord_3_28, q_lit, q_le, Nat.le_refl, if_true]
    · have : isWd l 3 3 k s e = false := by
        unfold isWd
        rw [decide_eq_false (fun h => hm h.2), Bool.false_and]
      rw [this, if_neg (by decide)]
      simp (disch := omega) only [F_X4_isWord_3, q_lit, p0, p1, p2, q_eq, hk, eq_self, if_true, q_sub, hm, if_false]
  · have : isWd l 3 3 k s e = false := by
      unfold isWd
      rw [decide_eq_false (fun h => hk h.1), Bool.false_and]
    rw [this, if_neg (by decide)]
    simp (disch := omega) only [F_X4_isWord_3, q_lit, p0, q_eq, hk, if_false]
theorem wl_4 : ∀ j, j < 8 → chS 4 (nI j) = nI (wlS 4 j) ∧ 97 ≤ wlS 4 j ∧ wlS 4 j ≤ 122 := by decide +kernel
theorem wc_4 : codeF (wlS 4) 8 = 224742254860 := by decide +kernel
theorem isW_4 {vB : Nat → Nat → Int32} {vbuffer : Nat → Int32} {l : Nat → Nat} {n k s e v : Nat} {vP : Nat → Int32} {M : (Nat → Int32) × Int64} (hB : Byt vB vbuffer l n) (t : Tk l n vP M k s e v) : F_X4_isWord_4 vP vB = some (if isWd l 4 8 k s e = true then nI 1 else nI 0) ∧ F_X9_isWord M 224742254860 = some (if isWd l 4 8 k s e = true then nI 1 else nI 0) := by
  refine ⟨?_, isWr (i := 4) (m := 8) (by omega) (fun j hj => (wl_4 j hj).2) wc_4 (by decide) t⟩
  obtain ⟨t1, t2, t3, p0, p1, p2, _⟩ := t
  have hn := hB.1
  by_cases hk : k = 1
  · by_cases hm : e - s = 8
    · have : isWd l 4 8 k s e = allF (fun j => decide (l (s + j) = wlS 4 j)) 8 := by
        unfold isWd
        rw [decide_eq_true ⟨hk, hm⟩, Bool.true_and]
      rw [this]
      simp (disch := omega) only [F_X4_isWord_4, q_lit, p0, p1, p2, q_eq, hk, eq_self, if_true, q_sub, hm]
      refine lp_all (L := fun f j => L_X4_isWord_4_28 vP vB f j) (U := 8) (fun f j hj => ?_) (fun f => ?_) FU 0 (Nat.zero_le _) (by unfold FU; omega) rfl
      · have hb := hB.2.2 (s + j) (by omega)
        have hw := wl_4 j hj
        have h5 : ¬ 8 ≤ j := by omega
        simp (disch := omega) only [L_X4_isWord_4_28, B_X4_isWord_4_28, q_lit, nI_add, q_ck, q_cl, p1, q_le, h5, if_false, hb.1, hw.1, q_eq]
        by_cases c : l (s + j) = wlS 4 j
        · rw [if_pos c, if_pos (decide_eq_true c)]
        · rw [if_neg c, if_neg (fun h => c (of_decide_eq_true h))]
      · simp (disch := omega) only [L_X4_isWord_4_28, B_X4_isWord_4_28, q_lit, q_le, Nat.le_refl, if_true]
    · have : isWd l 4 8 k s e = false := by
        unfold isWd
        rw [decide_eq_false (fun h => hm h.2), Bool.false_and]
      rw [this, if_neg (by decide)]
      simp (disch := omega) only [F_X4_isWord_4, q_lit, p0, p1, p2, q_eq, hk, eq_self, if_true, q_sub, hm, if_false]
  · have : isWd l 4 8 k s e = false := by
      unfold isWd
      rw [decide_eq_false (fun h => hk h.1), Bool.false_and]
    rw [this, if_neg (by decide)]
    simp (disch := omega) only [F_X4_isWord_4, q_lit, p0, q_eq, hk, if_false]
def Mw (M : (Nat → Int32) × Int64) : (Nat → Int32) × Int64 := (va_up (va_up M.1 8 (nI 1)) 2 (M.1 5), M.2)
theorem tk0 {M : (Nat → Int32) × Int64} {b : Nat → Int32} (h8 : M.1 8 = nI 0) : F_X9_takes M b (nI 0) = some (nI 0, Mw M) := by
  have x5 : va_up M.1 8 (nI 1) 5 = M.1 5 := rfl
  simp (disch := omega) only [F_X9_takes, h8, q_lit, eq_self, if_true, q_lt0, x5]
  rfl
theorem tk1 {M M' : (Nat → Int32) × Int64} {b : Nat → Int32} (h8 : M.1 8 = nI 0) (e : F_X9_next M b = some M') : F_X9_takes M b (nI 1) = some (nI 1, M') := by
  simp (disch := omega) only [F_X9_takes, h8, q_lit, eq_self, if_true, q_eq, e10, if_false, e, q_sb]
theorem tkw {M : (Nat → Int32) × Int64} {b : Nat → Int32} (h8 : M.1 8 = nI 1) (x : Int32) : F_X9_takes M b x = some (nI 0, M) := by
  simp (disch := omega) only [F_X9_takes, h8, q_lit, q_eq, e10, if_false]
theorem tnw {M : (Nat → Int32) × Int64} {b : Nat → Int32} (h8 : M.1 8 = nI 1) (lo hi : Int32) : F_X9_takesNumber M b lo hi = some (lo, M) := by
  unfold F_X9_takesNumber
  simp only [tkw h8, q_sb]
  have hz : (if (nI 0 = (0 : Int32)) then (some (lo, M)) else (some (M.1 7, M))) = some (lo, M) := if_pos rfl
  rw [hz]
  by_cases c : M.1 6 = 2
  · rw [if_pos c]
    unfold F_X9_in
    by_cases c1 : M.1 7 < lo
    · rw [if_pos c1, q_sb, if_pos rfl]
    · rw [if_neg c1]
      by_cases c2 : hi < M.1 7
      · rw [if_pos c2, q_sb, if_pos rfl]
      · rw [if_neg c2, q_sb, if_neg (by decide)]
  · rw [if_neg c]
/-- a number in its range, or not -/
theorem numc {vbuffer : Nat → Int32} {l : Nat → Nat} {n k s e v : Nat} {vP : Nat → Int32} {M : (Nat → Int32) × Int64} (t : Tk l n vP M k s e v) (h8 : M.1 8 = nI 0) (lo hi : Nat) (hhi : hi ≤ 999) (hlo : lo ≤ hi) : (k = 2 ∧ lo ≤ v ∧ v ≤ hi ∧ F_X4_isNumber vP (nI lo) (nI hi) = some (nI 1) ∧ ∀ M', F_X9_next M vbuffer = some M' → F_X9_takesNumber M vbuffer (nI lo) (nI hi) = some (nI v, M')) ∨ (F_X4_isNumber vP (nI lo) (nI hi) = some (nI 0) ∧ F_X9_takesNumber M vbuffer (nI lo) (nI hi) = some (nI lo, Mw M)) := by
  obtain ⟨t1, t2, t3, p0, p1, p2, x1, x4, x5, x6, hnum, hwd⟩ := t
  by_cases hk : k = 2
  · obtain ⟨v1, v2, v3⟩ := hnum hk
    by_cases c1 : v < lo
    · right
      constructor
      · simp (disch := omega) only [F_X4_isNumber, p0, hk, q_lit, eq_self, if_true, v2, q_lt, c1]
      · simp (disch := omega) only [F_X9_takesNumber, x6, hk, q_lit, eq_self, if_true, v3, F_X9_in, q_lt, c1, q_sb, tk0 h8]
    · by_cases c2 : hi < v
      · right
        constructor
        · simp (disch := omega) only [F_X4_isNumber, p0, hk, q_lit, eq_self, if_true, v2, q_lt, c1, c2, if_false]
        · simp (disch := omega) only [F_X9_takesNumber, x6, hk, q_lit, eq_self, if_true, v3, F_X9_in, q_lt, c1, c2, if_false, q_sb, tk0 h8]
      · left
        refine ⟨hk, by omega, by omega, ?_, fun M' e => ?_⟩
        · simp (disch := omega) only [F_X4_isNumber, p0, hk, q_lit, eq_self, if_true, v2, q_lt, c1, c2, if_false]
        · simp (disch := omega) only [F_X9_takesNumber, x6, hk, q_lit, eq_self, if_true, v3, F_X9_in, q_lt, c1, c2, if_false, q_sb, tk1 h8 e, q_eq, e10]
  · right
    constructor
    · simp (disch := omega) only [F_X4_isNumber, p0, q_lit, q_eq, hk, if_false]
    · simp (disch := omega) only [F_X9_takesNumber, x6, q_lit, q_eq, hk, if_false, tk0 h8, q_sb, eq_self, if_true]
def Fr2 (M M' : (Nat → Int32) × Int64) : Prop := M'.1 0 = M.1 0 ∧ M'.1 1 = M.1 1 ∧ M'.1 3 = M.1 3 ∧ M'.1 9 = M.1 9
theorem Fr.w {A B : (Nat → Int32) × Int64} (h : Fr A B) : Fr2 A (Mw B) := ⟨h.1, h.2.1, h.2.2.2.1, h.2.2.2.2.2⟩
theorem Fr.to2 {A B : (Nat → Int32) × Int64} (h : Fr A B) : Fr2 A B := ⟨h.1, h.2.1, h.2.2.2.1, h.2.2.2.2.2⟩
theorem Fr2.t {A B C : (Nat → Int32) × Int64} (h : Fr2 A B) (g : Fr2 B C) : Fr2 A C := ⟨g.1.trans h.1, g.2.1.trans h.2.1, g.2.2.1.trans h.2.2.1, g.2.2.2.trans h.2.2.2⟩
theorem Mw_er {l : Nat → Nat} {n k s e v : Nat} {vP : Nat → Int32} {M : (Nat → Int32) × Int64} (t : Tk l n vP M k s e v) : (Mw M).1 8 = nI 1 ∧ (Mw M).1 2 = nI s := ⟨rfl, t.2.2.2.2.2.2.2.2.1⟩
/-- the sign behind a guest or an umbrella -/
theorem semi {vB : Nat → Nat → Int32} {vbuffer : Nat → Int32} {l : Nat → Nat} {n k s e v : Nat} {vP : Nat → Int32} {M : (Nat → Int32) × Int64} (hB : Byt vB vbuffer l n) (t : Tk l n vP M k s e v) (h8 : M.1 8 = nI 0) : (∃ P2 M2 k2 s2 e2 v2, F_X4_passSemicolon vP vB = some (nI 1, P2) ∧ F_X9_takes M vbuffer (if M.1 6 = 3 then 1 else 0) = some (nI 1, M2) ∧ Tk l n P2 M2 k2 s2 e2 v2 ∧ M2.1 8 = nI 0 ∧ Fr M M2) ∨ (F_X4_passSemicolon vP vB = some (nI 0, vP) ∧ F_X9_takes M vbuffer (if M.1 6 = 3 then 1 else 0) = some (nI 0, Mw M)) := by
  have t' := t
  obtain ⟨t1, t2, t3, p0, p1, p2, x1, x4, x5, x6, hnum, hwd⟩ := t'
  by_cases hk : k = 3
  · left
    obtain ⟨P2, M2, k2, s2, e2, v2, a1, a2, a3, a4⟩ := adv hB t2 p2 x4 x1
    have h82 : M2.1 8 = nI 0 := a4.2.2.2.2.1.trans h8
    refine ⟨P2, M2, k2, s2, e2, v2, ?_, ?_, a3, h82, a4⟩
    · simp (disch := omega) only [F_X4_passSemicolon, p0, hk, q_lit, eq_self, if_true, a1, q_sb]
    · rw [x6, hk, if_pos (show nI 3 = (3 : Int32) from rfl)]
      exact tk1 h8 a2
  · right
    have hk' : ¬ nI k = (3 : Int32) := fun h => hk ((nI_eq (by omega) (by omega)).mp h)
    constructor
    · simp (disch := omega) only [F_X4_passSemicolon, p0, q_lit, q_eq, hk, if_false]
    · rw [x6, if_neg hk']
      exact tk0 h8
theorem g_tail {vB : Nat → Nat → Int32} {vbuffer : Nat → Int32} {l : Nat → Nat} {n k s e v : Nat} {vP : Nat → Int32} {M : (Nat → Int32) × Int64} {vN d : Nat → Int32} {vG vU vR : Nat → Nat → Int32} {D : Dn} {T s1 e1 a b : Nat} (hB : Byt vB vbuffer l n) (t : Tk l n vP M k s e v) (h8 : M.1 8 = nI 0) (o : OkN T D) (m8 : M8 vN vG vU vR D) (m9 : M9 d D) (hG : D.G < 10) (hs : s1 < e1) (he : e1 ≤ n) (hlen : e1 - s1 ≤ 5) (hl : ∀ i, s1 ≤ i → i < e1 → 97 ≤ l i ∧ l i ≤ 122) (ha : a ≤ 9) (hb : b ≤ 9) : ∃ G1, F_X1_add vG vB (nI s1) (nI (e1 - s1)) (nI a) (nI b) = some (nI D.G, G1) ∧ ((∃ P2 M2 d2 D2 k2 s2 e2 v2, F_X4_passSemicolon vP vB = some (nI 1, P2) ∧ J_X9_readGuest_94 vbuffer (nI (codeF (fun i => l (s1 + i)) (e1 - s1))) (nI a) (nI b) M d = some (M2, d2) ∧ Tk l n P2 M2 k2 s2 e2 v2 ∧ M2.1 8 = nI 0 ∧ OkN T D2 ∧ M8 vN G1 vU vR D2 ∧ M9 d2 D2 ∧ D2.G = D.G + 1 ∧ D2.U = D.U ∧ Fr M M2) ∨ (F_X4_passSemicolon vP vB = some (nI 0, vP) ∧ J_X9_readGuest_94 vbuffer (nI (codeF (fun i => l (s1 + i)) (e1 - s1))) (nI a) (nI b) M d = some (Mw M, d))) := by
  have hn := hB.1
  have hlet : ∀ i, i < e1 - s1 → 97 ≤ l (s1 + i) ∧ l (s1 + i) ≤ 122 := fun i hi => hl (s1 + i) (by omega) (by omega)
  obtain ⟨r8, f8, g8, n8⟩ := u_addG (l := fun i => l (s1 + i)) (s := s1) (n := e1 - s1) (a := a) (b := b) m8 o.1 hG hlen (by omega) (fun i hi => (hB.2.2 (s1 + i) (by omega)).1)
  obtain ⟨r9, f9, g9, n9⟩ := t_addG (l := fun i => l (s1 + i)) (n := e1 - s1) (a := a) (b := b) m9 o.1 hG
  have on := okn_gst (l := fun i => l (s1 + i)) (n := e1 - s1) (a := a) (b := b) o hG ⟨by omega, hlen⟩ hlet ha hb
  refine ⟨r8.2, by rw [f8, ← g8], ?_⟩
  rcases semi hB t h8 with ⟨P2, M2, k2, s2, e2, v2, a1, a2, a3, a4, a5⟩ | ⟨a1, a2⟩
  · left
    refine ⟨P2, M2, r9.2, _, k2, s2, e2, v2, a1, ?_, a3, a4, on, n8, n9, rfl, rfl, a5⟩
    unfold J_X9_readGuest_94
    rw [a2, q_sb, if_neg (show ¬ nI 1 = (0 : Int32) by decide), f9, q_sb]
  · right
    refine ⟨a1, ?_⟩
    unfold J_X9_readGuest_94
    rw [a2, q_sb, if_pos (show nI 0 = (0 : Int32) from rfl)]
theorem gJw {M : (Nat → Int32) × Int64} {b d : Nat → Int32} (h8 : M.1 8 = nI 1) (x g k : Int32) : J_X9_readGuest_94 b x g k M d = some (M, d) := by
  unfold J_X9_readGuest_94
  rw [tkw h8, q_sb, if_pos (show nI 0 = (0 : Int32) from rfl)]
theorem gJ51w {M : (Nat → Int32) × Int64} {b d : Nat → Int32} (h8 : M.1 8 = nI 0) (x : Int32) : J_X9_readGuest_51 b x 0 M d = some (Mw M, d) := by
  unfold J_X9_readGuest_51
  have hw : (Mw M).1 8 = nI 1 := rfl
  rw [show F_X9_takes M b 0 = some (nI 0, Mw M) from tk0 h8, q_sb, tnw hw, q_sb, if_neg (show ¬ (Mw M).1 8 = (0 : Int32) by rw [hw]; decide)]
  exact gJw hw _ _ _
/-- after the name: the number, the dog, the sign -/
theorem g_num {vB : Nat → Nat → Int32} {vbuffer : Nat → Int32} {l : Nat → Nat} {n k s e v : Nat} {vP : Nat → Int32} {M M0 : (Nat → Int32) × Int64} {vN d : Nat → Int32} {vG vU vR : Nat → Nat → Int32} {D : Dn} {T s1 e1 : Nat} (hB : Byt vB vbuffer l n) (t : Tk l n vP M k s e v) (h8 : M.1 8 = nI 0) (h80 : M0.1 8 = nI 0) (hnx : F_X9_next M0 vbuffer = some M) (o : OkN T D) (m8 : M8 vN vG vU vR D) (m9 : M9 d D) (hG : D.G < 10) (hs : s1 < e1) (he : e1 ≤ n) (hlen : e1 - s1 ≤ 5) (hl : ∀ i, s1 ≤ i → i < e1 → 97 ≤ l i ∧ l i ≤ 122) :
    (∃ P1 G1 P2 M2 d2 D2 k2 s2 e2 v2, ((F_X4_isNumber vP 0 9).bind (fun u4 => (if u4 = 0 then (some (0, vP, vG)) else (F_X4_advance vP vB).bind (fun u5 => (F_X4_isWord_3 u5 vB).bind (fun u6 => (if u6 = 0 then (F_X1_add vG vB (nI s1) (nI (e1 - s1)) (vP 3) 0).bind (fun u7 => (some (1, u5, u7.2))) else (F_X4_advance u5 vB).bind (fun u8 => (F_X4_isNumber u8 1 9).bind (fun u9 => (if u9 = 0 then (some (0, u8, vG)) else (F_X4_advance u8 vB).bind (fun u10 => (F_X1_add vG vB (nI s1) (nI (e1 - s1)) (vP 3) (u8 3)).bind (fun u11 => (some (1, u10, u11.2)))))))))))) = some (nI 1, P1, G1)) ∧ F_X4_passSemicolon P1 vB = some (nI 1, P2) ∧ J_X9_readGuest_51 vbuffer (nI (codeF (fun i => l (s1 + i)) (e1 - s1))) 1 M0 d = some (M2, d2) ∧ Tk l n P2 M2 k2 s2 e2 v2 ∧ M2.1 8 = nI 0 ∧ OkN T D2 ∧ M8 vN G1 vU vR D2 ∧ M9 d2 D2 ∧ D2.G = D.G + 1 ∧ D2.U = D.U ∧ Fr M M2) ∨
    (∃ P1 G1 M2 d2 er, (((F_X4_isNumber vP 0 9).bind (fun u4 => (if u4 = 0 then (some (0, vP, vG)) else (F_X4_advance vP vB).bind (fun u5 => (F_X4_isWord_3 u5 vB).bind (fun u6 => (if u6 = 0 then (F_X1_add vG vB (nI s1) (nI (e1 - s1)) (vP 3) 0).bind (fun u7 => (some (1, u5, u7.2))) else (F_X4_advance u5 vB).bind (fun u8 => (F_X4_isNumber u8 1 9).bind (fun u9 => (if u9 = 0 then (some (0, u8, vG)) else (F_X4_advance u8 vB).bind (fun u10 => (F_X1_add vG vB (nI s1) (nI (e1 - s1)) (vP 3) (u8 3)).bind (fun u11 => (some (1, u10, u11.2))))))))))))) = some (nI 0, P1, G1) ∨ ∃ P0, ((F_X4_isNumber vP 0 9).bind (fun u4 => (if u4 = 0 then (some (0, vP, vG)) else (F_X4_advance vP vB).bind (fun u5 => (F_X4_isWord_3 u5 vB).bind (fun u6 => (if u6 = 0 then (F_X1_add vG vB (nI s1) (nI (e1 - s1)) (vP 3) 0).bind (fun u7 => (some (1, u5, u7.2))) else (F_X4_advance u5 vB).bind (fun u8 => (F_X4_isNumber u8 1 9).bind (fun u9 => (if u9 = 0 then (some (0, u8, vG)) else (F_X4_advance u8 vB).bind (fun u10 => (F_X1_add vG vB (nI s1) (nI (e1 - s1)) (vP 3) (u8 3)).bind (fun u11 => (some (1, u10, u11.2))))))))))))) = some (nI 1, P0, G1) ∧ F_X4_passSemicolon P0 vB = some (nI 0, P1)) ∧ P1 1 = nI er ∧ er ≤ n ∧ J_X9_readGuest_51 vbuffer (nI (codeF (fun i => l (s1 + i)) (e1 - s1))) 1 M0 d = some (M2, d2) ∧ M2.1 8 = nI 1 ∧ M2.1 2 = nI er ∧ Fr2 M M2) := by
  have hn := hB.1
  have t' := t
  obtain ⟨t1, t2, t3, p0, p1, p2, x1, x4, x5, x6, hnum, hwd⟩ := t'
  have hJ : ∀ r, F_X9_takesNumber M vbuffer 0 9 = some r → J_X9_readGuest_51 vbuffer (nI (codeF (fun i => l (s1 + i)) (e1 - s1))) 1 M0 d = (if (r.2.1 8) = 0 then (F_X9_isWord r.2 3328).bind (fun u3 => (if u3 = 0 then (J_X9_readGuest_94 vbuffer (nI (codeF (fun i => l (s1 + i)) (e1 - s1))) r.1 0 r.2 d) else (F_X9_next r.2 vbuffer).bind (fun u4 => (F_X9_takesNumber u4 vbuffer 1 9).bind (fun u5 => (J_X9_readGuest_94 vbuffer (nI (codeF (fun i => l (s1 + i)) (e1 - s1))) r.1 u5.1 u5.2 d))))) else (J_X9_readGuest_94 vbuffer (nI (codeF (fun i => l (s1 + i)) (e1 - s1))) r.1 0 r.2 d)) := by
    intro r hr
    unfold J_X9_readGuest_51
    rw [show F_X9_takes M0 vbuffer 1 = some (nI 1, M) from tk1 h80 hnx, q_sb, hr, q_sb]
  rcases numc (vbuffer := vbuffer) t h8 0 9 (by omega) (by omega) with ⟨hk, _, hv, c8, c9⟩ | ⟨c8, c9⟩
  · obtain ⟨v1, v2, v3⟩ := hnum hk
    have c8' : F_X4_isNumber vP 0 9 = some (nI 1) := c8
    obtain ⟨P5, M5, k5, s5, e5, w5, a1, a2, a3, a4⟩ := adv hB t2 p2 x4 x1
    have h85 : M5.1 8 = nI 0 := a4.2.2.2.2.1.trans h8
    have hr := hJ _ (c9 M5 a2)
    obtain ⟨d8, d9⟩ := isW_3 hB a3
    rw [c8', q_sb, if_neg (show ¬ nI 1 = (0 : Int32) by decide), a1, q_sb, d8, q_sb, v2]
    rw [if_pos (show (M5.1 8) = (0 : Int32) from h85), d9, q_sb] at hr
    cases hdog : isWd l 3 3 k5 s5 e5
    · rw [hdog] at hr
      rw [if_neg (show ¬ (false = true) from Bool.false_ne_true), if_pos (show nI 0 = (0 : Int32) from rfl)] at hr ⊢
      obtain ⟨G1, f1, f2⟩ := g_tail (a := v) (b := 0) hB a3 h85 o m8 m9 hG hs he hlen hl hv (by omega)
      rw [show F_X1_add vG vB (nI s1) (nI (e1 - s1)) (nI v) 0 = some (nI D.G, G1) from f1, q_sb]
      rcases f2 with ⟨P2, M2, d2, D2, k2, s2, e2, v2, b1, b2, b3, b4, b5, b6, b7, b8, b9, b10⟩ | ⟨b1, b2⟩
      · exact Or.inl ⟨P5, G1, P2, M2, d2, D2, k2, s2, e2, v2, rfl, b1, hr.trans b2, b3, b4, b5, b6, b7, b8, b9, Fr.t a4 b10⟩
      · exact Or.inr ⟨P5, G1, Mw M5, d, s5, Or.inr ⟨P5, rfl, b1⟩, a3.2.2.2.2.1, by have := a3.1; have := a3.2.1; omega, hr.trans b2, (Mw_er a3).1, (Mw_er a3).2, a4.w⟩
    · rw [hdog] at hr
      rw [if_pos (show true = true from rfl), if_neg (show ¬ nI 1 = (0 : Int32) by decide)] at hr ⊢
      obtain ⟨P8, M8', k8, s8, e8, w8, b1, b2, b3, b4⟩ := adv hB a3.2.1 a3.2.2.2.2.2.1 a3.2.2.2.2.2.2.2.1 a3.2.2.2.2.2.2.1
      have h88 : M8'.1 8 = nI 0 := b4.2.2.2.2.1.trans h85
      rw [b1, q_sb]
      rw [b2, q_sb] at hr
      rcases numc (vbuffer := vbuffer) b3 h88 1 9 (by omega) (by omega) with ⟨hk8, hv1, hv2, y8, y9⟩ | ⟨y8, y9⟩
      · obtain ⟨q1, q2, q3⟩ := b3.2.2.2.2.2.2.2.2.2.2.1 hk8
        obtain ⟨P10, M10, k10, s10, e10', w10, j1, j2, j3, j4⟩ := adv hB b3.2.1 b3.2.2.2.2.2.1 b3.2.2.2.2.2.2.2.1 b3.2.2.2.2.2.2.1
        have h810 : M10.1 8 = nI 0 := j4.2.2.2.2.1.trans h88
        have y9' : F_X9_takesNumber M8' vbuffer 1 9 = some (nI w8, M10) := y9 M10 j2
        rw [show F_X4_isNumber P8 1 9 = some (nI 1) from y8, q_sb, if_neg (show ¬ nI 1 = (0 : Int32) by decide), j1, q_sb, q2]
        rw [y9', q_sb] at hr
        obtain ⟨G1, f1, f2⟩ := g_tail (a := v) (b := w8) hB j3 h810 o m8 m9 hG hs he hlen hl hv hv2
        rw [f1, q_sb]
        rcases f2 with ⟨P2, M2, d2, D2, k2, s2, e2, v2, z1, z2, z3, z4, z5, z6, z7, z8, z9, z10⟩ | ⟨z1, z2⟩
        · exact Or.inl ⟨P10, G1, P2, M2, d2, D2, k2, s2, e2, v2, rfl, z1, hr.trans z2, z3, z4, z5, z6, z7, z8, z9, Fr.t a4 (Fr.t b4 (Fr.t j4 z10))⟩
        · exact Or.inr ⟨P10, G1, Mw M10, d, s10, Or.inr ⟨P10, rfl, z1⟩, j3.2.2.2.2.1, by have := j3.1; have := j3.2.1; omega, hr.trans z2, (Mw_er j3).1, (Mw_er j3).2, (Fr.t a4 (Fr.t b4 j4)).w⟩
      · have y9' : F_X9_takesNumber M8' vbuffer 1 9 = some (nI 1, Mw M8') := y9
        rw [show F_X4_isNumber P8 1 9 = some (nI 0) from y8, q_sb, if_pos (show nI 0 = (0 : Int32) from rfl)]
        rw [y9', q_sb, gJw (Mw_er b3).1] at hr
        exact Or.inr ⟨P8, vG, Mw M8', d, s8, Or.inl rfl, b3.2.2.2.2.1, by have := b3.1; have := b3.2.1; omega, hr, (Mw_er b3).1, (Mw_er b3).2, (Fr.t a4 b4).w⟩
  · have c8' : F_X4_isNumber vP 0 9 = some (nI 0) := c8
    have hr := hJ _ c9
    have hw : (Mw M).1 8 = nI 1 := rfl
    rw [if_neg (show ¬ (Mw M).1 8 = (0 : Int32) by rw [hw]; decide), gJw hw] at hr
    rw [c8', q_sb, if_pos (show nI 0 = (0 : Int32) from rfl)]
    exact Or.inr ⟨vP, vG, Mw M, d, s, Or.inl rfl, p1, by omega, hr, rfl, x5, (Fr.r M).w⟩
theorem q_lti {n : Nat} : Int64.toInt32 (lN n) = nI n := lN_i n
theorem g_step {vB : Nat → Nat → Int32} {vbuffer : Nat → Int32} {l : Nat → Nat} {n k s e v : Nat} {vP : Nat → Int32} {M : (Nat → Int32) × Int64} {vN d : Nat → Int32} {vG vU vR : Nat → Nat → Int32} {D : Dn} {T : Nat} (hB : Byt vB vbuffer l n) (t : Tk l n vP M k s e v) (h8 : M.1 8 = nI 0) (o : OkN T D) (m8 : M8 vN vG vU vR D) (m9 : M9 d D) (hG : D.G < 10) :
    (∃ P1 G1 P2 M2 d2 D2 k2 s2 e2 v2, F_X4_readGuest vP vG vB = some (nI 1, P1, G1) ∧ F_X4_passSemicolon P1 vB = some (nI 1, P2) ∧ F_X9_readGuest M d vbuffer = some (M2, d2) ∧ Tk l n P2 M2 k2 s2 e2 v2 ∧ M2.1 8 = nI 0 ∧ OkN T D2 ∧ M8 vN G1 vU vR D2 ∧ M9 d2 D2 ∧ D2.G = D.G + 1 ∧ D2.U = D.U ∧ Fr M M2) ∨
    (∃ P1 G1 M2 d2 er, (F_X4_readGuest vP vG vB = some (nI 0, P1, G1) ∨ ∃ P0, F_X4_readGuest vP vG vB = some (nI 1, P0, G1) ∧ F_X4_passSemicolon P0 vB = some (nI 0, P1)) ∧ P1 1 = nI er ∧ er ≤ n ∧ F_X9_readGuest M d vbuffer = some (M2, d2) ∧ M2.1 8 = nI 1 ∧ M2.1 2 = nI er ∧ Fr2 M M2) := by
  have hn := hB.1
  obtain ⟨P1, M1, k1, s1, e1, w1, a1, a2, a3, a4⟩ := adv hB t.2.1 t.2.2.2.2.2.1 t.2.2.2.2.2.2.2.1 t.2.2.2.2.2.2.1
  have h81 : M1.1 8 = nI 0 := a4.2.2.2.2.1.trans h8
  have a3' := a3
  obtain ⟨y1, y2, y3, p0, p1, p2, x1, x4, x5, x6, hnum, hwd⟩ := a3'
  have d7 : d (Int32.toNatClampNeg 7) = nI D.G := m9.G
  have e9 : F_X9_readGuest M d vbuffer = (F_X9_wordName M1).bind (fun u2 => (if u2 ≤ 0 then (J_X9_readGuest_51 vbuffer u2 0 M1 d) else (F_X9_guestBy d u2).bind (fun u3 => (if 0 ≤ u3 then (J_X9_readGuest_51 vbuffer u2 0 M1 d) else (J_X9_readGuest_51 vbuffer u2 1 M1 d))))) := by
    unfold F_X9_readGuest
    rw [show ∀ z : Option (((Nat → Int32) × Int64) × (Nat → Int32)), ck 7 306 z = z from fun z => q_ck (n := 7) (by omega) (by omega), d7, if_neg (show ¬ (10 : Int32) ≤ nI D.G from fun h => by rw [show (10 : Int32) = nI 10 from rfl, q_le (by omega) (by omega)] at h; omega), show F_X9_takes M vbuffer 1 = some (nI 1, M1) from tk1 h8 a2, q_sb, if_neg (show ¬ nI 1 = (0 : Int32) by decide)]
  have e8 : F_X4_readGuest vP vG vB = (if (P1 0) = 1 then (if 5 < ((P1 2) - (P1 1)) then (some (0, P1, vG)) else (F_X1_find vG vB (P1 1) ((P1 2) - (P1 1))).bind (fun u2 => (if u2 = (-1) then (F_X4_advance P1 vB).bind (fun u3 => (F_X4_isNumber u3 0 9).bind (fun u4 => (if u4 = 0 then (some (0, u3, vG)) else (F_X4_advance u3 vB).bind (fun u5 => (F_X4_isWord_3 u5 vB).bind (fun u6 => (if u6 = 0 then (F_X1_add vG vB (P1 1) ((P1 2) - (P1 1)) (u3 3) 0).bind (fun u7 => (some (1, u5, u7.2))) else (F_X4_advance u5 vB).bind (fun u8 => (F_X4_isNumber u8 1 9).bind (fun u9 => (if u9 = 0 then (some (0, u8, vG)) else (F_X4_advance u8 vB).bind (fun u10 => (F_X1_add vG vB (P1 1) ((P1 2) - (P1 1)) (u3 3) (u8 3)).bind (fun u11 => (some (1, u10, u11.2))))))))))))) else (some (0, P1, vG))))) else (some (0, P1, vG))) := by
    unfold F_X4_readGuest
    rw [a1, q_sb]
  have bad : F_X4_readGuest vP vG vB = some (0, P1, vG) → F_X9_readGuest M d vbuffer = some (Mw M1, d) → (∃ P1 G1 M2 d2 er, (F_X4_readGuest vP vG vB = some (nI 0, P1, G1) ∨ ∃ P0, F_X4_readGuest vP vG vB = some (nI 1, P0, G1) ∧ F_X4_passSemicolon P0 vB = some (nI 0, P1)) ∧ P1 1 = nI er ∧ er ≤ n ∧ F_X9_readGuest M d vbuffer = some (M2, d2) ∧ M2.1 8 = nI 1 ∧ M2.1 2 = nI er ∧ Fr2 M M2) := fun h g => ⟨P1, vG, Mw M1, d, s1, Or.inl h, p1, by omega, g, rfl, x5, a4.w⟩
  by_cases hk : k1 = 1
  · obtain ⟨hse, hlt, hw⟩ := hwd hk
    rw [p0, hk, if_pos (show nI 1 = (1 : Int32) from rfl), p1, p2, q_sub y1] at e8
    by_cases h5 : e1 - s1 ≤ 5
    · have hw5 : M1.2 = lN (codeF (fun i => l (s1 + i)) (e1 - s1)) := by
        rw [hw]; unfold wcap; rw [if_pos (by omega)]
      have hlet : ∀ i, i < e1 - s1 → 97 ≤ l (s1 + i) ∧ l (s1 + i) ≤ 122 := fun i hi => hlt (s1 + i) (by omega) (by omega)
      have hcp := code_pos (l := fun i => l (s1 + i)) hlet (by omega)
      have hcb := code_bd (l := fun i => l (s1 + i)) hlet h5
      have hwn : F_X9_wordName M1 = some (nI (codeF (fun i => l (s1 + i)) (e1 - s1))) := by
        unfold F_X9_wordName
        rw [x6, hk, if_pos (show nI 1 = (1 : Int32) from rfl), x4, x5, q_sub y1, if_neg (show ¬ (5 : Int32) < nI (e1 - s1) from fun h => by rw [show (5 : Int32) = nI 5 from rfl, q_lt (by omega) (by omega)] at h; omega), hw5, q_lti]
      have hf8 := u_find (l := fun i => l (s1 + i)) (s := s1) (n := e1 - s1) m8 o.1 (by omega) (fun i hi => ⟨(hB.2.2 (s1 + i) (by omega)).1, (hB.2.2 (s1 + i) (by omega)).2.2⟩)
      have hf9 := t_by (l := fun i => l (s1 + i)) (n := e1 - s1) m9 o.1 h5 hlet
      rw [if_neg (show ¬ (5 : Int32) < nI (e1 - s1) from fun h => by rw [show (5 : Int32) = nI 5 from rfl, q_lt (by omega) (by omega)] at h; omega), hf8, q_sb] at e8
      rw [hwn, q_sb, if_neg (show ¬ nI (codeF (fun i => l (s1 + i)) (e1 - s1)) ≤ (0 : Int32) from fun h => by rw [show (0 : Int32) = nI 0 from rfl, q_le (by omega) (by omega)] at h; omega), hf9, q_sb] at e9
      cases hf : findD D (fun i => l (s1 + i)) (e1 - s1) with
      | succ j =>
        right
        have hfl := find_le D (fun i => l (s1 + i)) (e1 - s1)
        rw [hf, nz_s] at e8 e9
        rw [if_neg (show ¬ nI j = (-1 : Int32) from fun h => by have := q_m1e (a := j) (by omega); rw [show m1 = (-1 : Int32) from rfl] at this; rw [this] at h; exact h)] at e8
        rw [if_pos (show (0 : Int32) ≤ nI j by rw [show (0 : Int32) = nI 0 from rfl, q_le (by omega) (by omega)]; exact Nat.zero_le _), gJ51w h81] at e9
        exact bad e8 e9
      | zero =>
        rw [hf, nz_0] at e8 e9
        rw [if_pos (show m1 = (-1 : Int32) from rfl)] at e8
        rw [if_neg (show ¬ (0 : Int32) ≤ m1 from f_0m1)] at e9
        obtain ⟨P3, M3, k3, s3, e3, w3, b1, b2, b3, b4⟩ := adv hB y2 p2 x4 x1
        have h83 : M3.1 8 = nI 0 := b4.2.2.2.2.1.trans h81
        rw [b1, q_sb] at e8
        rcases g_num hB b3 h83 h81 b2 o m8 m9 hG hse y2 h5 hlt with ⟨P5, G1, P2, M2, d2, D2, k2, s2, e2, v2, z1, z2, z3, z4, z5, z6, z7, z8, z9, z10, z11⟩ | ⟨P5, G1, M2, d2, er, z1, z2, z3, z4, z5, z6, z7⟩
        · exact Or.inl ⟨P5, G1, P2, M2, d2, D2, k2, s2, e2, v2, e8.trans z1, z2, e9.trans z3, z4, z5, z6, z7, z8, z9, z10, Fr.t a4 (Fr.t b4 z11)⟩
        · refine Or.inr ⟨P5, G1, M2, d2, er, ?_, z2, z3, e9.trans z4, z5, z6, Fr2.t (Fr.t a4 b4).to2 z7⟩
          rcases z1 with z1 | ⟨P0, z1, z1'⟩
          · exact Or.inl (e8.trans z1)
          · exact Or.inr ⟨P0, e8.trans z1, z1'⟩
    · right
      rw [if_pos (show (5 : Int32) < nI (e1 - s1) by rw [show (5 : Int32) = nI 5 from rfl, q_lt (by omega) (by omega)]; omega)] at e8
      have hwn : F_X9_wordName M1 = some (nI 0) := by
        unfold F_X9_wordName
        rw [x6, hk, if_pos (show nI 1 = (1 : Int32) from rfl), x4, x5, q_sub y1, if_pos (show (5 : Int32) < nI (e1 - s1) by rw [show (5 : Int32) = nI 5 from rfl, q_lt (by omega) (by omega)]; omega)]
        rfl
      rw [hwn, q_sb, if_pos (show nI 0 ≤ (0 : Int32) by decide), gJ51w h81] at e9
      exact bad e8 e9
  · right
    have hk' : ¬ nI k1 = (1 : Int32) := fun h => hk ((nI_eq (by omega) (by omega)).mp h)
    rw [p0, if_neg hk'] at e8
    have hwn : F_X9_wordName M1 = some (nI 0) := by
      unfold F_X9_wordName
      rw [x6, if_neg hk']
      rfl
    rw [hwn, q_sb, if_pos (show nI 0 ≤ (0 : Int32) by decide), gJ51w h81] at e9
    exact bad e8 e9
