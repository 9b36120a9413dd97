/-! the pure layer: a night by naturals (field, index)-/
abbrev Dn : Type := Nat → Nat → Nat
def Dn.mi (D : Dn) : Nat := D 0 0
def Dn.ra (D : Dn) : Nat := D 0 1
def Dn.li (D : Dn) : Nat := D 0 2
def Dn.no (D : Dn) : Nat := D 0 3
def Dn.co (D : Dn) : Nat := D 0 4
def Dn.pu (D : Dn) : Nat := D 0 5
def Dn.ti (D : Dn) : Nat := D 0 6
def Dn.G (D : Dn) : Nat := D 0 7
def Dn.U (D : Dn) : Nat := D 0 8
def Dn.R (D : Dn) : Nat := D 0 9
def Dn.ln (D : Dn) (k : Nat) : Nat := D 1 k
def Dn.lt (D : Dn) (k : Nat) : Nat := D 2 k
def Dn.gi (D : Dn) (k : Nat) : Nat := D 3 k
def Dn.ba (D : Dn) (k : Nat) : Nat := D 4 k
def Dn.ou (D : Dn) (k : Nat) : Nat := D 5 k
def Dn.si (D : Dn) (k : Nat) : Nat := D 6 k
def Dn.so (D : Dn) (k : Nat) : Nat := D 7 k
def Dn.wk (D : Dn) (k : Nat) : Nat := D 8 k
def Dn.wa (D : Dn) (k : Nat) : Nat := D 9 k
def Dn.ow (D : Dn) (k : Nat) : Nat := D 10 k
def Dn.we (D : Dn) (k : Nat) : Nat := D 11 k
def Dn.ca (D : Dn) (k : Nat) : Nat := D 12 k
def Dn.ew (D : Dn) (k : Nat) : Nat := D 13 k
def Dn.eg (D : Dn) (k : Nat) : Nat := D 14 k
def Dn.el (D : Dn) (k : Nat) : Nat := D 15 k
def codeF (l : Nat → Nat) : Nat → Nat
  | 0 => 0
  | n + 1 => 27 * codeF l n + (l n - 96)
def Dn.nm (D : Dn) (k : Nat) : Nat := codeF (fun i => D.lt (5 * k + i)) (D.ln k)
/-! the pure layer's kit -/
theorem q_lit (n : Nat) : (OfNat.ofNat n : Int32) = nI (OfNat.ofNat n) := rfl
theorem q_cl {n : Nat} (h : n < 2147483648) : (nI n).toNatClampNeg = n := pk_cl n rfl h
theorem q_ck {α : Type} {n N : Nat} {k : Option α} (h : n < N) (hN : N < 2147483648) : ck (nI n) N k = k := ck_i (vp_in_nI h hN)
theorem q_le {a b : Nat} (ha : a < 2147483648) (hb : b < 2147483648) : (nI a ≤ nI b) = (a ≤ b) := propext (nI_leI ha hb)
theorem q_lt {a b : Nat} (ha : a < 2147483648) (hb : b < 2147483648) : (nI a < nI b) = (a < b) := propext (nI_ltI ha hb)
theorem q_eq {a b : Nat} (ha : a < 2147483648) (hb : b < 2147483648) : (nI a = nI b) = (a = b) := propext (nI_eq ha hb)
def m1 : Int32 := -1
theorem q_neg : -nI 1 = m1 := rfl
theorem q_m1l {a : Nat} (ha : a < 2147483648) : (nI a < m1) = False := by
  refine eq_false fun h => ?_
  rw [Int32.lt_iff_toInt_lt, nI_toInt ha, show m1.toInt = -1 by decide] at h
  omega
theorem q_m1e {a : Nat} (ha : a < 2147483648) : (nI a = m1) = False := by
  refine eq_false fun h => ?_
  have := congrArg Int32.toInt h
  rw [nI_toInt ha, show m1.toInt = -1 by decide] at this
  omega
theorem q_e1m {a : Nat} (ha : a < 2147483648) : (m1 = nI a) = False := eq_false fun h => of_eq_false (q_m1e ha) h.symm
theorem q_le1 {a : Nat} (ha : a < 2147483648) : (nI a ≤ m1) = False := by
  refine eq_false fun h => ?_
  rw [Int32.le_iff_toInt_le, nI_toInt ha, show m1.toInt = -1 by decide] at h
  omega
theorem q_1le {a : Nat} (ha : a < 2147483648) : (m1 ≤ nI a) = True := by
  refine eq_true ?_
  rw [Int32.le_iff_toInt_le, nI_toInt ha, show m1.toInt = -1 by decide]
  omega
theorem q_1lt {a : Nat} (ha : a < 2147483648) : (m1 < nI a) = True := by
  refine eq_true ?_
  rw [Int32.lt_iff_toInt_lt, nI_toInt ha, show m1.toInt = -1 by decide]
  omega
theorem q_sub {a b : Nat} (h : b ≤ a) : nI a - nI b = nI (a - b) := pk_sub h
theorem q_div {a d : Nat} (ha : a < 2147483648) (h0 : 0 < d) (hd : d < 2147483648) : nI a / nI d = nI (a / d) := pk_div ha h0 hd
theorem q_sb {α β : Type} (a : α) (f : α → Option β) : (some a).bind f = f a := rfl
theorem q_lt0 {α β : Type} (a : α) (f : α → Option β) : lt a f = f a := rfl
/-- the first of n -/
def fst1 (p : Nat → Bool) (n k : Nat) : Int32 := if h : k < n then (if p k then nI k else fst1 p n (k + 1)) else m1
termination_by n - k
def cntF (p : Nat → Bool) : Nat → Nat
  | 0 => 0
  | n + 1 => cntF p n + (if p n then 1 else 0)
theorem cntF_le (p : Nat → Bool) (n : Nat) : cntF p n ≤ n := by
  induction n with
  | zero => exact Nat.le_refl 0
  | succ n ih => simp only [cntF]; split <;> omega
/-- a loop that looks for the first one -/
theorem lp_first {L : Nat → Int32 → Option Int32} {p : Nat → Bool} {U : Nat} (h1 : ∀ n k, k < U → L (n + 1) (nI k) = if p k then some (nI k) else L n (nI (k + 1))) (h2 : ∀ n, L (n + 1) (nI U) = some m1) :
    ∀ n k, k ≤ U → U - k < n → L n (nI k) = some (fst1 p U k) := by
  intro n
  induction n with
  | zero => intro k _ h; omega
  | succ n ih =>
    intro k hk hn
    by_cases hku : k < U
    · rw [h1 n k hku, fst1, dif_pos hku]
      split
      · rfl
      · exact ih (k + 1) hku (by omega)
    · have : k = U := by omega
      subst this
      rw [h2, fst1, dif_neg hku]
theorem bT {P : Prop} {i : Decidable P} (h : P) : some (nI 1) = some (nI (@decide P i).toNat) := by rw [decide_eq_true h]; rfl
theorem bF {P : Prop} {i : Decidable P} (h : ¬ P) : some (nI 0) = some (nI (@decide P i).toNat) := by rw [decide_eq_false h]; rfl
/-- a loop that counts -/
theorem lp_count {L : Nat → Int32 → Int32 → Option Int32} {p : Nat → Bool} {U : Nat} (h1 : ∀ n k c, k < U → c ≤ k → L (n + 1) (nI k) (nI c) = L n (nI (k + 1)) (nI (c + if p k then 1 else 0))) (h2 : ∀ n c, c ≤ U → L (n + 1) (nI U) (nI c) = some (nI c)) :
    ∀ n k, k ≤ U → U - k < n → L n (nI k) (nI (cntF p k)) = some (nI (cntF p U)) := by
  intro n
  induction n with
  | zero => intro k _ h; omega
  | succ n ih =>
    intro k hk hn
    by_cases hku : k < U
    · rw [h1 n k _ hku (cntF_le p k)]
      exact ih (k + 1) hku (by omega)
    · have : k = U := by omega
      subst this
      exact h2 n _ (cntF_le p k)
/-- a loop whose values after k turns are a k -/
theorem lp_acc {α β : Type} {L : Nat → Int32 → α → Option β} {a : Nat → α} {U : Nat} {r : β} (h1 : ∀ n k, k < U → L (n + 1) (nI k) (a k) = L n (nI (k + 1)) (a (k + 1))) (h2 : ∀ n, L (n + 1) (nI U) (a U) = some r) :
    ∀ n k, k ≤ U → U - k < n → L n (nI k) (a k) = some r := by
  intro n
  induction n with
  | zero => intro k _ h; omega
  | succ n ih =>
    intro k hk hn
    by_cases hku : k < U
    · rw [h1 n k hku]
      exact ih (k + 1) hku (by omega)
    · have : k = U := by omega
      subst this
      exact h2 n
/-- a loop that keeps I -/
theorem lp_inv {α β : Type} {L : Nat → Int32 → α → Option β} {I : Nat → α → Prop} {Q : β → Prop} {U : Nat} (h1 : ∀ n k x, k < U → I k x → ∃ x', I (k + 1) x' ∧ L (n + 1) (nI k) x = L n (nI (k + 1)) x') (h2 : ∀ n x, I U x → ∃ r, L (n + 1) (nI U) x = some r ∧ Q r) :
    ∀ n k x, k ≤ U → U - k < n → I k x → ∃ r, L n (nI k) x = some r ∧ Q r := by
  intro n
  induction n with
  | zero => intro k x _ h; omega
  | succ n ih =>
    intro k x hk hn hI
    by_cases hku : k < U
    · obtain ⟨x', hI', e⟩ := h1 n k x hku hI
      rw [e]
      exact ih (k + 1) x' hku (by omega) hI'
    · have : k = U := by omega
      subst this
      exact h2 n x hI
def nz (x : Nat) : Int32 := if x = 0 then m1 else nI (x - 1)
theorem nz_0 : nz 0 = m1 := rfl
theorem nz_s (n : Nat) : nz (n + 1) = nI n := rfl
def smF (f : Nat → Nat) : Nat → Nat
  | 0 => 0
  | n + 1 => smF f n + f n
theorem smF_le {f : Nat → Nat} {c n : Nat} (h : ∀ k, k < n → f k ≤ c) : smF f n ≤ c * n := by
  induction n with
  | zero => exact Nat.zero_le _
  | succ n ih =>
    have h1 := ih fun k hk => h k (by omega)
    have h2 := h n (by omega)
    simp only [smF]
    rw [Nat.mul_succ]
    omega
def M8 (vN : Nat → Int32) (vG : Nat → Nat → Int32) (vU : Nat → Nat → Int32) (vR : Nat → Nat → Int32) (D : Dn) : Prop := (vN 0 = nI D.mi) ∧ (vN 1 = nI D.ra) ∧ (vN 2 = nI D.li) ∧ (vN 3 = nI D.no) ∧ (vN 4 = nI D.co) ∧ (vN 5 = nI D.pu) ∧ (vN 6 = nI D.ti) ∧ (vG 0 0 = nI D.G) ∧ (vU 0 0 = nI D.U) ∧ (vR 0 0 = nI D.R) ∧ (∀ k i, k < D.G → i < D.ln k → vG 1 (k * 5 + i) = nI (D.lt (5 * k + i))) ∧ (∀ k, k < D.G → vG 2 k = nI (D.ln k)) ∧ (∀ k, k < D.G → vG 3 k = nI (D.gi k)) ∧ (∀ k, k < D.G → vG 4 k = nI (D.ba k)) ∧ (∀ k, k < D.G → vG 5 k = if D.ou k = 0 then m1 else nI (D.si k)) ∧ (∀ k, k < D.G → vG 6 k = nI (D.so k)) ∧ (∀ k, k < D.G → vG 7 k = nI (D.wk k)) ∧ (∀ k, k < D.G → D.wk k ≠ 0 → vG 8 k = nI (D.wa k)) ∧ (∀ k, k < D.U → vU 1 k = nI (D.ow k)) ∧ (∀ k, k < D.U → vU 2 k = nI (D.we k)) ∧ (∀ k, k < D.U → vU 3 k = if D.ca k = 0 then m1 else nI (D.ca k - 1)) ∧ (∀ k, k < D.R → vR 1 k = nI (D.ew k)) ∧ (∀ k, k < D.R → vR 2 k = nI (D.eg k)) ∧ (∀ k, k < D.R → vR 3 k = if D.el k = 0 then nI 43 else nI 45)
theorem M8.mi {vN : Nat → Int32} {vG : Nat → Nat → Int32} {vU : Nat → Nat → Int32} {vR : Nat → Nat → Int32} {D : Dn} (h : M8 vN vG vU vR D) : vN 0 = nI D.mi := h.1
theorem M8.ra {vN : Nat → Int32} {vG : Nat → Nat → Int32} {vU : Nat → Nat → Int32} {vR : Nat → Nat → Int32} {D : Dn} (h : M8 vN vG vU vR D) : vN 1 = nI D.ra := h.2.1
theorem M8.li {vN : Nat → Int32} {vG : Nat → Nat → Int32} {vU : Nat → Nat → Int32} {vR : Nat → Nat → Int32} {D : Dn} (h : M8 vN vG vU vR D) : vN 2 = nI D.li := h.2.2.1
theorem M8.no {vN : Nat → Int32} {vG : Nat → Nat → Int32} {vU : Nat → Nat → Int32} {vR : Nat → Nat → Int32} {D : Dn} (h : M8 vN vG vU vR D) : vN 3 = nI D.no := h.2.2.2.1
theorem M8.co {vN : Nat → Int32} {vG : Nat → Nat → Int32} {vU : Nat → Nat → Int32} {vR : Nat → Nat → Int32} {D : Dn} (h : M8 vN vG vU vR D) : vN 4 = nI D.co := h.2.2.2.2.1
theorem M8.pu {vN : Nat → Int32} {vG : Nat → Nat → Int32} {vU : Nat → Nat → Int32} {vR : Nat → Nat → Int32} {D : Dn} (h : M8 vN vG vU vR D) : vN 5 = nI D.pu := h.2.2.2.2.2.1
theorem M8.ti {vN : Nat → Int32} {vG : Nat → Nat → Int32} {vU : Nat → Nat → Int32} {vR : Nat → Nat → Int32} {D : Dn} (h : M8 vN vG vU vR D) : vN 6 = nI D.ti := h.2.2.2.2.2.2.1
theorem M8.G {vN : Nat → Int32} {vG : Nat → Nat → Int32} {vU : Nat → Nat → Int32} {vR : Nat → Nat → Int32} {D : Dn} (h : M8 vN vG vU vR D) : vG 0 0 = nI D.G := h.2.2.2.2.2.2.2.1
theorem M8.U {vN : Nat → Int32} {vG : Nat → Nat → Int32} {vU : Nat → Nat → Int32} {vR : Nat → Nat → Int32} {D : Dn} (h : M8 vN vG vU vR D) : vU 0 0 = nI D.U := h.2.2.2.2.2.2.2.2.1
theorem M8.R {vN : Nat → Int32} {vG : Nat → Nat → Int32} {vU : Nat → Nat → Int32} {vR : Nat → Nat → Int32} {D : Dn} (h : M8 vN vG vU vR D) : vR 0 0 = nI D.R := h.2.2.2.2.2.2.2.2.2.1
theorem M8.lt {vN : Nat → Int32} {vG : Nat → Nat → Int32} {vU : Nat → Nat → Int32} {vR : Nat → Nat → Int32} {D : Dn} (h : M8 vN vG vU vR D) : ∀ k i, k < D.G → i < D.ln k → vG 1 (k * 5 + i) = nI (D.lt (5 * k + i)) := h.2.2.2.2.2.2.2.2.2.2.1
theorem M8.ln {vN : Nat → Int32} {vG : Nat → Nat → Int32} {vU : Nat → Nat → Int32} {vR : Nat → Nat → Int32} {D : Dn} (h : M8 vN vG vU vR D) : ∀ k, k < D.G → vG 2 k = nI (D.ln k) := h.2.2.2.2.2.2.2.2.2.2.2.1
theorem M8.gi {vN : Nat → Int32} {vG : Nat → Nat → Int32} {vU : Nat → Nat → Int32} {vR : Nat → Nat → Int32} {D : Dn} (h : M8 vN vG vU vR D) : ∀ k, k < D.G → vG 3 k = nI (D.gi k) := h.2.2.2.2.2.2.2.2.2.2.2.2.1
theorem M8.ba {vN : Nat → Int32} {vG : Nat → Nat → Int32} {vU : Nat → Nat → Int32} {vR : Nat → Nat → Int32} {D : Dn} (h : M8 vN vG vU vR D) : ∀ k, k < D.G → vG 4 k = nI (D.ba k) := h.2.2.2.2.2.2.2.2.2.2.2.2.2.1
theorem M8.si {vN : Nat → Int32} {vG : Nat → Nat → Int32} {vU : Nat → Nat → Int32} {vR : Nat → Nat → Int32} {D : Dn} (h : M8 vN vG vU vR D) : ∀ k, k < D.G → vG 5 k = if D.ou k = 0 then m1 else nI (D.si k) := h.2.2.2.2.2.2.2.2.2.2.2.2.2.2.1
theorem M8.so {vN : Nat → Int32} {vG : Nat → Nat → Int32} {vU : Nat → Nat → Int32} {vR : Nat → Nat → Int32} {D : Dn} (h : M8 vN vG vU vR D) : ∀ k, k < D.G → vG 6 k = nI (D.so k) := h.2.2.2.2.2.2.2.2.2.2.2.2.2.2.2.1
theorem M8.wk {vN : Nat → Int32} {vG : Nat → Nat → Int32} {vU : Nat → Nat → Int32} {vR : Nat → Nat → Int32} {D : Dn} (h : M8 vN vG vU vR D) : ∀ k, k < D.G → vG 7 k = nI (D.wk k) := h.2.2.2.2.2.2.2.2.2.2.2.2.2.2.2.2.1
theorem M8.wa {vN : Nat → Int32} {vG : Nat → Nat → Int32} {vU : Nat → Nat → Int32} {vR : Nat → Nat → Int32} {D : Dn} (h : M8 vN vG vU vR D) : ∀ k, k < D.G → D.wk k ≠ 0 → vG 8 k = nI (D.wa k) := h.2.2.2.2.2.2.2.2.2.2.2.2.2.2.2.2.2.1
theorem M8.ow {vN : Nat → Int32} {vG : Nat → Nat → Int32} {vU : Nat → Nat → Int32} {vR : Nat → Nat → Int32} {D : Dn} (h : M8 vN vG vU vR D) : ∀ k, k < D.U → vU 1 k = nI (D.ow k) := h.2.2.2.2.2.2.2.2.2.2.2.2.2.2.2.2.2.2.1
theorem M8.we {vN : Nat → Int32} {vG : Nat → Nat → Int32} {vU : Nat → Nat → Int32} {vR : Nat → Nat → Int32} {D : Dn} (h : M8 vN vG vU vR D) : ∀ k, k < D.U → vU 2 k = nI (D.we k) := h.2.2.2.2.2.2.2.2.2.2.2.2.2.2.2.2.2.2.2.1
theorem M8.ca {vN : Nat → Int32} {vG : Nat → Nat → Int32} {vU : Nat → Nat → Int32} {vR : Nat → Nat → Int32} {D : Dn} (h : M8 vN vG vU vR D) : ∀ k, k < D.U → vU 3 k = if D.ca k = 0 then m1 else nI (D.ca k - 1) := h.2.2.2.2.2.2.2.2.2.2.2.2.2.2.2.2.2.2.2.2.1
theorem M8.ew {vN : Nat → Int32} {vG : Nat → Nat → Int32} {vU : Nat → Nat → Int32} {vR : Nat → Nat → Int32} {D : Dn} (h : M8 vN vG vU vR D) : ∀ k, k < D.R → vR 1 k = nI (D.ew k) := h.2.2.2.2.2.2.2.2.2.2.2.2.2.2.2.2.2.2.2.2.2.1
theorem M8.eg {vN : Nat → Int32} {vG : Nat → Nat → Int32} {vU : Nat → Nat → Int32} {vR : Nat → Nat → Int32} {D : Dn} (h : M8 vN vG vU vR D) : ∀ k, k < D.R → vR 2 k = nI (D.eg k) := h.2.2.2.2.2.2.2.2.2.2.2.2.2.2.2.2.2.2.2.2.2.2.1
theorem M8.el {vN : Nat → Int32} {vG : Nat → Nat → Int32} {vU : Nat → Nat → Int32} {vR : Nat → Nat → Int32} {D : Dn} (h : M8 vN vG vU vR D) : ∀ k, k < D.R → vR 3 k = if D.el k = 0 then nI 43 else nI 45 := h.2.2.2.2.2.2.2.2.2.2.2.2.2.2.2.2.2.2.2.2.2.2.2
def OkD (T : Nat) (D : Dn) : Prop := (T ≤ 600) ∧ (D.mi ≤ 960) ∧ (D.ra ≤ 9) ∧ (D.li ≤ 999) ∧ (D.no ≤ 90 * D.mi) ∧ (D.co ≤ D.mi) ∧ (D.pu ≤ 12 * D.mi) ∧ (D.ti ≤ 9 * D.R) ∧ (D.G ≤ 10) ∧ (D.U ≤ 12) ∧ (D.R ≤ 60) ∧ (∀ k, k < D.G → 1 ≤ D.ln k ∧ D.ln k ≤ 5) ∧ (∀ k i, k < D.G → i < D.ln k → 97 ≤ D.lt (5 * k + i) ∧ D.lt (5 * k + i) ≤ 122) ∧ (∀ k, k < D.G → D.gi k ≤ 9) ∧ (∀ k, k < D.G → D.ba k ≤ 9) ∧ (∀ k, k < D.G → D.ou k ≤ 1) ∧ (∀ k, k < D.G → D.si k ≤ D.mi) ∧ (∀ k, k < D.G → D.so k ≤ 999) ∧ (∀ k, k < D.G → D.wk k ≤ T) ∧ (∀ k, k < D.G → D.wk k ≠ 0 → D.wa k ≤ D.mi) ∧ (∀ k, k < D.U → D.ow k < D.G) ∧ (∀ k, k < D.U → D.we k ≤ 99) ∧ (∀ k, k < D.U → D.ca k ≤ D.G) ∧ (∀ k, k < D.R → D.eg k < D.G) ∧ (∀ k, k < D.R → D.el k ≤ 1) ∧ (∀ k, k < D.R → D.ew k ≤ D.mi) ∧ (∀ j k, j ≤ k → k < D.R → D.ew j ≤ D.ew k)
theorem OkD.tT {T : Nat} {D : Dn} (h : OkD T D) : T ≤ 600 := h.1
theorem OkD.mi {T : Nat} {D : Dn} (h : OkD T D) : D.mi ≤ 960 := h.2.1
theorem OkD.ra {T : Nat} {D : Dn} (h : OkD T D) : D.ra ≤ 9 := h.2.2.1
theorem OkD.li {T : Nat} {D : Dn} (h : OkD T D) : D.li ≤ 999 := h.2.2.2.1
theorem OkD.no {T : Nat} {D : Dn} (h : OkD T D) : D.no ≤ 90 * D.mi := h.2.2.2.2.1
theorem OkD.co {T : Nat} {D : Dn} (h : OkD T D) : D.co ≤ D.mi := h.2.2.2.2.2.1
theorem OkD.pu {T : Nat} {D : Dn} (h : OkD T D) : D.pu ≤ 12 * D.mi := h.2.2.2.2.2.2.1
theorem OkD.ti {T : Nat} {D : Dn} (h : OkD T D) : D.ti ≤ 9 * D.R := h.2.2.2.2.2.2.2.1
theorem OkD.G {T : Nat} {D : Dn} (h : OkD T D) : D.G ≤ 10 := h.2.2.2.2.2.2.2.2.1
theorem OkD.U {T : Nat} {D : Dn} (h : OkD T D) : D.U ≤ 12 := h.2.2.2.2.2.2.2.2.2.1
theorem OkD.R {T : Nat} {D : Dn} (h : OkD T D) : D.R ≤ 60 := h.2.2.2.2.2.2.2.2.2.2.1
theorem OkD.ln {T : Nat} {D : Dn} (h : OkD T D) : ∀ k, k < D.G → 1 ≤ D.ln k ∧ D.ln k ≤ 5 := h.2.2.2.2.2.2.2.2.2.2.2.1
theorem OkD.lt {T : Nat} {D : Dn} (h : OkD T D) : ∀ k i, k < D.G → i < D.ln k → 97 ≤ D.lt (5 * k + i) ∧ D.lt (5 * k + i) ≤ 122 := h.2.2.2.2.2.2.2.2.2.2.2.2.1
theorem OkD.gi {T : Nat} {D : Dn} (h : OkD T D) : ∀ k, k < D.G → D.gi k ≤ 9 := h.2.2.2.2.2.2.2.2.2.2.2.2.2.1
theorem OkD.ba {T : Nat} {D : Dn} (h : OkD T D) : ∀ k, k < D.G → D.ba k ≤ 9 := h.2.2.2.2.2.2.2.2.2.2.2.2.2.2.1
theorem OkD.ou {T : Nat} {D : Dn} (h : OkD T D) : ∀ k, k < D.G → D.ou k ≤ 1 := h.2.2.2.2.2.2.2.2.2.2.2.2.2.2.2.1
theorem OkD.si {T : Nat} {D : Dn} (h : OkD T D) : ∀ k, k < D.G → D.si k ≤ D.mi := h.2.2.2.2.2.2.2.2.2.2.2.2.2.2.2.2.1
theorem OkD.so {T : Nat} {D : Dn} (h : OkD T D) : ∀ k, k < D.G → D.so k ≤ 999 := h.2.2.2.2.2.2.2.2.2.2.2.2.2.2.2.2.2.1
theorem OkD.wk {T : Nat} {D : Dn} (h : OkD T D) : ∀ k, k < D.G → D.wk k ≤ T := h.2.2.2.2.2.2.2.2.2.2.2.2.2.2.2.2.2.2.1
theorem OkD.wa {T : Nat} {D : Dn} (h : OkD T D) : ∀ k, k < D.G → D.wk k ≠ 0 → D.wa k ≤ D.mi := h.2.2.2.2.2.2.2.2.2.2.2.2.2.2.2.2.2.2.2.1
theorem OkD.ow {T : Nat} {D : Dn} (h : OkD T D) : ∀ k, k < D.U → D.ow k < D.G := h.2.2.2.2.2.2.2.2.2.2.2.2.2.2.2.2.2.2.2.2.1
theorem OkD.we {T : Nat} {D : Dn} (h : OkD T D) : ∀ k, k < D.U → D.we k ≤ 99 := h.2.2.2.2.2.2.2.2.2.2.2.2.2.2.2.2.2.2.2.2.2.1
theorem OkD.ca {T : Nat} {D : Dn} (h : OkD T D) : ∀ k, k < D.U → D.ca k ≤ D.G := h.2.2.2.2.2.2.2.2.2.2.2.2.2.2.2.2.2.2.2.2.2.2.1
theorem OkD.eg {T : Nat} {D : Dn} (h : OkD T D) : ∀ k, k < D.R → D.eg k < D.G := h.2.2.2.2.2.2.2.2.2.2.2.2.2.2.2.2.2.2.2.2.2.2.2.1
theorem OkD.el {T : Nat} {D : Dn} (h : OkD T D) : ∀ k, k < D.R → D.el k ≤ 1 := h.2.2.2.2.2.2.2.2.2.2.2.2.2.2.2.2.2.2.2.2.2.2.2.2.1
theorem OkD.ew {T : Nat} {D : Dn} (h : OkD T D) : ∀ k, k < D.R → D.ew k ≤ D.mi := h.2.2.2.2.2.2.2.2.2.2.2.2.2.2.2.2.2.2.2.2.2.2.2.2.2.1
theorem OkD.up {T : Nat} {D : Dn} (h : OkD T D) : ∀ j k, j ≤ k → k < D.R → D.ew j ≤ D.ew k := h.2.2.2.2.2.2.2.2.2.2.2.2.2.2.2.2.2.2.2.2.2.2.2.2.2.2

