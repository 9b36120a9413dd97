/-! getters; the register as one number -/
section
variable {T : Nat} {v : KV} {D : Dn}
theorem g_minute (h : S7 T v D) : F_X8_minute (v.1) (v.2.2.1) = some (nI D.mi) := congrArg some h.1.mi
theorem g_rain (h : S7 T v D) : F_X8_rain (v.1) (v.2.2.1) = some (nI D.ra) := congrArg some h.1.ra
theorem g_noiseLimit (h : S7 T v D) : F_X8_noiseLimit (v.1) (v.2.2.1) = some (nI D.li) := congrArg some h.1.li
theorem g_noise (h : S7 T v D) : F_X8_noise (v.1) (v.2.2.1) = some (nI D.no) := congrArg some h.1.no
theorem g_complaints (h : S7 T v D) : F_X8_complaints (v.1) (v.2.2.1) = some (nI D.co) := congrArg some h.1.co
theorem g_puddle (h : S7 T v D) : F_X8_puddle (v.1) (v.2.2.1) = some (nI D.pu) := congrArg some h.1.pu
theorem g_tips (h : S7 T v D) : F_X8_tips (v.1) (v.2.2.1) = some (nI D.ti) := congrArg some h.1.ti
theorem g_guestCount (h : S7 T v D) : F_X8_guestCount (v.1) (v.2.2.1) (v.2.2.2.1) = some (nI D.G) := congrArg some h.1.G
theorem g_umbrellaCount (h : S7 T v D) : F_X8_umbrellaCount (v.1) (v.2.2.1) (v.2.2.2.2.1) = some (nI D.U) := congrArg some h.1.U
theorem g_entryCount (h : S7 T v D) : F_X8_entryCount (v.1) (v.2.2.1) (v.2.2.2.2.2.1) = some (nI D.R) := congrArg some h.1.R
theorem g_yawn (h : S7 T v D) : F_X8_yawn (v.1) (v.2.2.1) (v.2.2.2.2.2.1) = some (nI (yawnD D)) := by
  unfold F_X8_yawn
  rw [u_yawn h.1 h.2.1]
  rfl
theorem g_keys (h : S7 T v D) : F_X8_keysAtDesk (v.1) (v.2.2.1) (v.2.2.2.1) = some (nI (smF D.ou D.G)) := by
  unfold F_X8_keysAtDesk
  rw [u_away_n h.1 h.2.1]
  rfl
theorem g_stand (h : S7 T v D) : F_X8_standCount (v.1) (v.2.2.1) (v.2.2.2.2.1) = some (nI (cntF (fun u => decide (D.ca u = 0)) D.U)) := by
  unfold F_X8_standCount
  rw [u_stand h.1 h.2.1]
  rfl
theorem g_borrowed (h : S7 T v D) : F_X8_borrowedCount (v.1) (v.2.2.1) (v.2.2.2.2.1) = some (nI (cntF (fun u => decide (D.ca u ≠ 0 ∧ D.ca u ≠ D.ow u + 1)) D.U)) := by
  unfold F_X8_borrowedCount
  rw [u_borrow h.1 h.2.1]
  rfl
/-- the answers of the questions 18 to 32 -/
def ansQ (D : Dn) (q k : Nat) : Int32 := if q = 18 then nI (D.gi k) else if q = 19 then nI (D.ba k) else if q = 20 then nI (D.ou k) else if q = 21 then (if D.ou k = 0 then kN else nI (D.si k)) else if q = 22 then nI (D.so k) else if q = 23 then nI (barksD D k (D.mi + 1)).toNat else if q = 24 then nI (D.ow k) else if q = 25 then nI (D.we k) else if q = 26 then (if D.ca k = 0 then nI 1 else nI 0) else if q = 27 then (if D.ca k = 0 ∧ D.we k ≤ 50 then nI 1 else nI 0) else if q = 28 then (if D.ca k = 0 then kN else nI (D.ca k - 1)) else if q = 30 then nI (D.ew k) else if q = 31 then nI (D.eg k) else nI (D.el k)
theorem ansQ_g (h : S7 T v D) {k q : Nat} (hk : k < D.G) (h1 : 18 ≤ q) (h2 : q < 24) : F_K_call__ v (nI q) (nI k) = some (ansQ D q k, v) := by
  rcases (show q = 18 ∨ q = 19 ∨ q = 20 ∨ q = 21 ∨ q = 22 ∨ q = 23 by omega) with rfl | rfl | rfl | rfl | rfl | rfl
  · exact k18 h hk
  · exact k19 h hk
  · exact k20 h hk
  · exact k21 h hk
  · exact k22 h hk
  · exact k23 h hk
theorem ansQ_u (h : S7 T v D) {k q : Nat} (hk : k < D.U) (h1 : 24 ≤ q) (h2 : q < 29) : F_K_call__ v (nI q) (nI k) = some (ansQ D q k, v) := by
  rcases (show q = 24 ∨ q = 25 ∨ q = 26 ∨ q = 27 ∨ q = 28 by omega) with rfl | rfl | rfl | rfl | rfl
  · exact k24 h hk
  · exact k25 h hk
  · exact k26 h hk
  · exact k27 h hk
  · exact k28 h hk
theorem ansQ_e (h : S7 T v D) {k q : Nat} (hk : k < D.R) (h1 : 30 ≤ q) (h2 : q < 33) : F_K_call__ v (nI q) (nI k) = some (ansQ D q k, v) := by
  rcases (show q = 30 ∨ q = 31 ∨ q = 32 by omega) with rfl | rfl | rfl
  · exact k30 h hk
  · exact k31 h hk
  · exact k32 h hk
def stq (c : Int64) (D : Dn) (k : Nat) : Nat → Nat → Int64 → Int64
  | _, 0, x => x
  | q, n + 1, x => stq c D k (q + 1) n (x * c + Int32.toInt64 (ansQ D q k))
def stk (c : Int64) (q nq : Nat) (D : Dn) : Nat → Nat → Int64 → Int64
  | _, 0, x => x
  | k, n + 1, x => stk c q nq D (k + 1) n (stq c D k q nq x)
theorem st90 (h : S7 T v D) {rec : Int64 → Int32 → KV → Option (Int64 × KV)} {k : Nat} (hk : k < D.G) : ∀ n m q x, q + n = 24 → 18 ≤ q → L_K_state_90 rec (n + 1 + m) x (nI k) (nI q) v = rec (stq 1009 D k q n x) (nI (k + 1)) v := by
  intro n
  induction n with
  | zero =>
    intro m q x hq h18
    have : q = 24 := by omega
    subst this
    rw [show 0 + 1 + m = m + 1 by omega]
    show B_K_state_90 _ _ x (nI k) (nI 24) v = _
    unfold B_K_state_90
    rw [if_pos (show (24 : Int32) ≤ nI 24 by decide), show nI k + 1 = nI (k + 1) from nI_add k 1]
    rfl
  | succ n ih =>
    intro m q x hq h18
    rw [show n + 1 + 1 + m = (n + 1 + m) + 1 by omega]
    show B_K_state_90 rec (L_K_state_90 rec (n + 1 + m)) x (nI k) (nI q) v = _
    unfold B_K_state_90
    rw [if_neg (show ¬ (24 : Int32) ≤ nI q by rw [show (24 : Int32) = nI 24 from rfl, q_le (by omega) (by omega)]; omega), ansQ_g h hk h18 (by omega), q_sb]
    show L_K_state_90 rec (n + 1 + m) (x * 1009 + Int32.toInt64 (ansQ D q k)) (nI k) (nI q + 1) v = _
    rw [show nI q + 1 = nI (q + 1) from nI_add q 1, ih m (q + 1) _ (by omega) (by omega)]
    rfl
theorem st78 (h : S7 T v D) : ∀ n m k x, k + n = D.G → L_K_state_78 (n + 1 + m) x (nI k) v = L_K_state_126 13 (stk 1009 18 6 D k n x) 0 v := by
  have hG := h.2.1.G
  have hU := h.2.1.U
  have hR := h.2.1.R
  intro n
  induction n with
  | zero =>
    intro m k x hk
    have hk : k = D.G := by omega
    subst hk
    rw [show 0 + 1 + m = m + 1 by omega]
    show B_K_state_78 _ x (nI D.G) v = _
    unfold B_K_state_78
    rw [g_guestCount h, q_sb, if_pos (show nI D.G ≤ nI D.G by rw [q_le (by omega) (by omega)]; omega)]
    rfl
  | succ n ih =>
    intro m k x hk
    rw [show n + 1 + 1 + m = (n + 1 + m) + 1 by omega]
    show B_K_state_78 (L_K_state_78 (n + 1 + m)) x (nI k) v = _
    unfold B_K_state_78
    rw [g_guestCount h, q_sb, if_neg (show ¬ nI D.G ≤ nI k by rw [q_le (by omega) (by omega)]; omega)]
    show L_K_state_90 (L_K_state_78 (n + 1 + m)) (6 + 1 + 0) x (nI k) (nI 18) v = _
    rw [st90 h (by omega) 6 0 18 x rfl (Nat.le_refl _), ih m (k + 1) _ (by omega)]
    rfl
theorem st780 (h : S7 T v D) {N : Nat} (hN : D.G < N) (x : Int64) : L_K_state_78 N x 0 v = L_K_state_126 13 (stk 1009 18 6 D 0 D.G x) 0 v := by
  obtain ⟨m, rfl⟩ : ∃ m, N = D.G + 1 + m := ⟨N - D.G - 1, by omega⟩
  exact st78 h D.G m 0 x (by omega)
theorem st138 (h : S7 T v D) {rec : Int64 → Int32 → KV → Option (Int64 × KV)} {k : Nat} (hk : k < D.U) : ∀ n m q x, q + n = 29 → 24 ≤ q → L_K_state_138 rec (n + 1 + m) x (nI k) (nI q) v = rec (stq 101 D k q n x) (nI (k + 1)) v := by
  intro n
  induction n with
  | zero =>
    intro m q x hq h18
    have : q = 29 := by omega
    subst this
    rw [show 0 + 1 + m = m + 1 by omega]
    show B_K_state_138 _ _ x (nI k) (nI 29) v = _
    unfold B_K_state_138
    rw [if_pos (show (29 : Int32) ≤ nI 29 by decide), show nI k + 1 = nI (k + 1) from nI_add k 1]
    rfl
  | succ n ih =>
    intro m q x hq h18
    rw [show n + 1 + 1 + m = (n + 1 + m) + 1 by omega]
    show B_K_state_138 rec (L_K_state_138 rec (n + 1 + m)) x (nI k) (nI q) v = _
    unfold B_K_state_138
    rw [if_neg (show ¬ (29 : Int32) ≤ nI q by rw [show (29 : Int32) = nI 29 from rfl, q_le (by omega) (by omega)]; omega), ansQ_u h hk h18 (by omega), q_sb]
    show L_K_state_138 rec (n + 1 + m) (x * 101 + Int32.toInt64 (ansQ D q k)) (nI k) (nI q + 1) v = _
    rw [show nI q + 1 = nI (q + 1) from nI_add q 1, ih m (q + 1) _ (by omega) (by omega)]
    rfl
theorem st126 (h : S7 T v D) : ∀ n m k x, k + n = D.U → L_K_state_126 (n + 1 + m) x (nI k) v = L_K_state_174 61 (stk 101 24 5 D k n x) 0 v := by
  have hG := h.2.1.G
  have hU := h.2.1.U
  have hR := h.2.1.R
  intro n
  induction n with
  | zero =>
    intro m k x hk
    have hk : k = D.U := by omega
    subst hk
    rw [show 0 + 1 + m = m + 1 by omega]
    show B_K_state_126 _ x (nI D.U) v = _
    unfold B_K_state_126
    rw [g_umbrellaCount h, q_sb, if_pos (show nI D.U ≤ nI D.U by rw [q_le (by omega) (by omega)]; omega)]
    rfl
  | succ n ih =>
    intro m k x hk
    rw [show n + 1 + 1 + m = (n + 1 + m) + 1 by omega]
    show B_K_state_126 (L_K_state_126 (n + 1 + m)) x (nI k) v = _
    unfold B_K_state_126
    rw [g_umbrellaCount h, q_sb, if_neg (show ¬ nI D.U ≤ nI k by rw [q_le (by omega) (by omega)]; omega)]
    show L_K_state_138 (L_K_state_126 (n + 1 + m)) (5 + 1 + 0) x (nI k) (nI 24) v = _
    rw [st138 h (by omega) 5 0 24 x rfl (Nat.le_refl _), ih m (k + 1) _ (by omega)]
    rfl
theorem st1260 (h : S7 T v D) {N : Nat} (hN : D.U < N) (x : Int64) : L_K_state_126 N x 0 v = L_K_state_174 61 (stk 101 24 5 D 0 D.U x) 0 v := by
  obtain ⟨m, rfl⟩ : ∃ m, N = D.U + 1 + m := ⟨N - D.U - 1, by omega⟩
  exact st126 h D.U m 0 x (by omega)
theorem st186 (h : S7 T v D) {rec : Int64 → Int32 → KV → Option (Int64 × KV)} {k : Nat} (hk : k < D.R) : ∀ n m q x, q + n = 33 → 30 ≤ q → L_K_state_186 rec (n + 1 + m) x (nI k) (nI q) v = rec (stq 1009 D k q n x) (nI (k + 1)) v := by
  intro n
  induction n with
  | zero =>
    intro m q x hq h18
    have : q = 33 := by omega
    subst this
    rw [show 0 + 1 + m = m + 1 by omega]
    show B_K_state_186 _ _ x (nI k) (nI 33) v = _
    unfold B_K_state_186
    rw [if_pos (show (33 : Int32) ≤ nI 33 by decide), show nI k + 1 = nI (k + 1) from nI_add k 1]
    rfl
  | succ n ih =>
    intro m q x hq h18
    rw [show n + 1 + 1 + m = (n + 1 + m) + 1 by omega]
    show B_K_state_186 rec (L_K_state_186 rec (n + 1 + m)) x (nI k) (nI q) v = _
    unfold B_K_state_186
    rw [if_neg (show ¬ (33 : Int32) ≤ nI q by rw [show (33 : Int32) = nI 33 from rfl, q_le (by omega) (by omega)]; omega), ansQ_e h hk h18 (by omega), q_sb]
    show L_K_state_186 rec (n + 1 + m) (x * 1009 + Int32.toInt64 (ansQ D q k)) (nI k) (nI q + 1) v = _
    rw [show nI q + 1 = nI (q + 1) from nI_add q 1, ih m (q + 1) _ (by omega) (by omega)]
    rfl
theorem st174 (h : S7 T v D) : ∀ n m k x, k + n = D.R → L_K_state_174 (n + 1 + m) x (nI k) v = some (stk 1009 30 3 D k n x, v) := by
  have hG := h.2.1.G
  have hU := h.2.1.U
  have hR := h.2.1.R
  intro n
  induction n with
  | zero =>
    intro m k x hk
    have hk : k = D.R := by omega
    subst hk
    rw [show 0 + 1 + m = m + 1 by omega]
    show B_K_state_174 _ x (nI D.R) v = _
    unfold B_K_state_174
    rw [g_entryCount h, q_sb, if_pos (show nI D.R ≤ nI D.R by rw [q_le (by omega) (by omega)]; omega)]
    rfl
  | succ n ih =>
    intro m k x hk
    rw [show n + 1 + 1 + m = (n + 1 + m) + 1 by omega]
    show B_K_state_174 (L_K_state_174 (n + 1 + m)) x (nI k) v = _
    unfold B_K_state_174
    rw [g_entryCount h, q_sb, if_neg (show ¬ nI D.R ≤ nI k by rw [q_le (by omega) (by omega)]; omega)]
    show L_K_state_186 (L_K_state_174 (n + 1 + m)) (3 + 1 + 0) x (nI k) (nI 30) v = _
    rw [st186 h (by omega) 3 0 30 x rfl (Nat.le_refl _), ih m (k + 1) _ (by omega)]
    rfl
theorem st1740 (h : S7 T v D) {N : Nat} (hN : D.R < N) (x : Int64) : L_K_state_174 N x 0 v = some (stk 1009 30 3 D 0 D.R x, v) := by
  obtain ⟨m, rfl⟩ : ∃ m, N = D.R + 1 + m := ⟨N - D.R - 1, by omega⟩
  exact st174 h D.R m 0 x (by omega)
def stB (D : Dn) : Int64 := ((((((((((((7 * (Int32.toInt64 (nI D.mi))) + (Int32.toInt64 (nI D.ra))) * 1009) + (Int32.toInt64 (nI D.li))) * 1009) + (Int32.toInt64 (nI D.no))) * 101) + (Int32.toInt64 (nI D.co))) * 1009) + (Int32.toInt64 (nI D.pu))) * 101) + (Int32.toInt64 (nI D.ti)))
def stV (D : Dn) : Int64 := stk 1009 30 3 D 0 D.R (stk 101 24 5 D 0 D.U (stk 1009 18 6 D 0 D.G (stB D)))
theorem state_of (h : S7 T v D) : F_K_state v = some (stV D, v) := by
  have hG := h.2.1.G
  have hU := h.2.1.U
  have hR := h.2.1.R
  unfold F_K_state
  rw [g_minute h, q_sb, g_rain h, q_sb, g_noiseLimit h, q_sb, g_noise h, q_sb, g_complaints h, q_sb, g_puddle h, q_sb, g_tips h, q_sb]
  show L_K_state_78 11 (stB D) 0 v = _
  rw [st780 h (by omega), st1260 h (by omega), st1740 h (by omega)]
  rfl
end
