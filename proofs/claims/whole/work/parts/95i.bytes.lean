def bt (x : Int32) (i : Nat) : Bool := x.toBitVec.getLsbD i
theorem b_ext {x y : Int32} (h : ∀ i, i < 32 → bt x i = bt y i) : x = y := Int32.toBitVec_inj.mp (BitVec.eq_of_getLsbD_eq (fun i hi => h i hi))
theorem b_and (x y : Int32) (i : Nat) : bt (x &&& y) i = (bt x i && bt y i) := by unfold bt; rw [Int32.toBitVec_and, BitVec.getLsbD_and]
theorem b_big {x : Int32} {i : Nat} (h : 32 ≤ i) : bt x i = false := BitVec.getLsbD_of_ge _ _ h
theorem b_255 (i : Nat) : bt 255 i = decide (i < 8) := by
  rcases Nat.lt_or_ge i 32 with h | h
  · exact (by decide +kernel : ∀ i, i < 32 → bt 255 i = decide (i < 8)) i h
  · rw [b_big h, decide_eq_false (by omega)]
theorem s_l : ∀ n, n < 32 → ((nI n &&& 31).toBitVec.smod 32).toNat = n := by decide +kernel
theorem s_u : ∀ n, n < 32 → (((nI n).toUInt32 &&& Int32.toUInt32 31).toBitVec % 32).toNat = n := by decide +kernel
theorem b_ushr (n : Nat) (hn : n < 32) (x : Int32) (i : Nat) : bt ((x.toUInt32 >>> ((nI n).toUInt32 &&& Int32.toUInt32 31)).toInt32) i = bt x (n + i) := by
  show (x.toUInt32 >>> ((nI n).toUInt32 &&& Int32.toUInt32 31)).toBitVec.getLsbD i = x.toUInt32.toBitVec.getLsbD (n + i)
  rw [UInt32.toBitVec_shiftRight]
  show (x.toUInt32.toBitVec >>> (((nI n).toUInt32 &&& Int32.toUInt32 31).toBitVec % 32).toNat).getLsbD i = _
  rw [s_u n hn, BitVec.getLsbD_ushiftRight]
theorem b_sshr (n : Nat) (hn : n < 32) (x : Int32) {i : Nat} (hi : i < 32) : bt (x >>> (nI n &&& 31)) i = if n + i < 32 then bt x (n + i) else bt x 31 := by
  unfold bt
  rw [Int32.toBitVec_shiftRight]
  show (x.toBitVec.sshiftRight ((nI n &&& 31).toBitVec.smod 32).toNat).getLsbD i = _
  rw [s_l n hn, BitVec.getLsbD_sshiftRight, BitVec.msb_eq_getLsbD_last]
  simp [hi]
/-! bytes in, bytes out -/
theorem by_sh (n : Nat) (hn : n ≤ 24) (x : Int32) : ((x.toUInt32 >>> ((nI n).toUInt32 &&& Int32.toUInt32 31)).toInt32) &&& 255 = (x >>> (nI n &&& 31)) &&& 255 := b_ext fun i hi => by
  rw [b_and, b_and, b_255, b_ushr n (by omega), b_sshr n (by omega) x hi]
  by_cases c : i < 8
  · rw [if_pos (by omega)]
  · rw [decide_eq_false c, Bool.and_false, Bool.and_false]
theorem and255 (y : Int32) : ∃ b, b < 256 ∧ y &&& 255 = nI b := by
  refine ⟨(y &&& 255).toBitVec.toNat, ?_, ?_⟩
  · rw [Int32.toBitVec_and, BitVec.toNat_and]
    have : y.toBitVec.toNat &&& (255 : Int32).toBitVec.toNat ≤ (255 : Int32).toBitVec.toNat := Nat.and_le_right
    exact Nat.lt_of_le_of_lt this (by decide)
  · apply Int32.toBitVec_inj.mp
    show (y &&& 255).toBitVec = BitVec.ofNat 32 (y &&& 255).toBitVec.toNat
    exact BitVec.eq_of_toNat_eq (by rw [BitVec.toNat_ofNat]; exact (Nat.mod_eq_of_lt (BitVec.isLt _)).symm)
theorem by_255 : ∀ b, b < 256 → nI b &&& 255 = nI b := by decide +kernel
def BufE (B : Nat → Nat → Int32) (M : (Nat → Int32) × Int64) (vb : Nat → Int32) (n : Nat) : Prop := n ≤ 600 ∧ B 0 0 = nI n ∧ M.1 1 = nI n ∧ ∀ i, i < n → ∃ b, b < 256 ∧ B 1 i = nI b ∧ vb i = nI b
theorem BufE.ok {B : Nat → Nat → Int32} {M : (Nat → Int32) × Int64} {vb : Nat → Int32} {n : Nat} (h : BufE B M vb n) : BufOk B M vb (fun i => (B 1 i).toNatClampNeg) n := by
  obtain ⟨h1, h2, h3, h4⟩ := h
  refine ⟨h1, h2, h3, fun i hi => ?_⟩
  obtain ⟨b, hb, e1, e2⟩ := h4 i hi
  have e3 : (B 1 i).toNatClampNeg = b := by rw [e1]; exact q_cl (by omega)
  show B 1 i = nI ((B 1 i).toNatClampNeg) ∧ vb i = nI ((B 1 i).toNatClampNeg) ∧ (B 1 i).toNatClampNeg < 256
  rw [e3]
  exact ⟨e1, e2, hb⟩
theorem BufOk.toE {B : Nat → Nat → Int32} {M : (Nat → Int32) × Int64} {vb : Nat → Int32} {l : Nat → Nat} {n : Nat} (h : BufOk B M vb l n) : BufE B M vb n :=
  ⟨h.1, h.2.1, h.2.2.1, fun i hi => ⟨l i, (h.2.2.2 i hi).2.2, (h.2.2.2 i hi).1, (h.2.2.2 i hi).2.1⟩⟩
theorem u_add {B : Nat → Nat → Int32} {n : Nat} (y : Int32) (h : B 0 0 = nI n) (hn : n < 600) : F_X0_add B y = some (va_up (va_up B 1 (upd (B 1) n (y &&& 255))) 0 (fun _ => nI (n + 1))) := by
  have c1 : ¬ 600 ≤ n := by omega
  have e0 : va_up B 1 (upd (B 1) n (y &&& 255)) 0 0 = nI n := h
  unfold F_X0_add
  rw [h, if_neg (show ¬ (600 : Int32) ≤ nI n from fun h => by rw [show (600 : Int32) = nI 600 from rfl, q_le (by omega) (by omega)] at h; omega), q_ck (by omega) (by omega), q_cl (by omega), q_lt0, q_lt0, e0]
  rw [show nI n + 1 = nI n + nI 1 from rfl, nI_add]
theorem ap1 {B : Nat → Nat → Int32} {M : (Nat → Int32) × Int64} {vb : Nat → Int32} {n : Nat} (h : BufE B M vb n) (hn : n < 600) (y z : Int32) (hz : y &&& 255 = z) : ∃ B', F_X0_add B y = some B' ∧ BufE B' (va_up M.1 1 (nI (n + 1)), M.2) (upd vb n z) (n + 1) := by
  obtain ⟨h1, h2, h3, h4⟩ := h
  refine ⟨_, u_add y h2 hn, by omega, rfl, rfl, fun i hi => ?_⟩
  subst hz
  show ∃ b, b < 256 ∧ upd (B 1) n (y &&& 255) i = nI b ∧ upd vb n (y &&& 255) i = nI b
  by_cases c : i = n
  · subst c
    rw [up_eq, up_eq]
    obtain ⟨b, hb, e⟩ := and255 y
    exact ⟨b, hb, e, e⟩
  · rw [up_ne c, up_ne c]
    exact h4 i (by omega)
def wd5 (x1 x2 x3 x4 x5 : Int32) (q : Nat) : Int32 := if q = 0 then x1 else if q = 1 then x2 else if q = 2 then x3 else if q = 3 then x4 else x5
theorem t_ap {x1 x2 x3 x4 x5 : Int32} {M : (Nat → Int32) × Int64} {vb : Nat → Int32} {n q j : Nat} (f : Nat) (h : M.1 1 = nI n) (hn : n < 600) (hq : q < 5) (hj : j < 4) : L_X9_append_27 x1 x2 x3 x4 x5 (f + 1) (nI (4 * q + j)) M vb = L_X9_append_27 x1 x2 x3 x4 x5 f (nI (4 * q + j + 1)) (va_up M.1 1 (nI (n + 1)), M.2) (upd vb n ((wd5 x1 x2 x3 x4 x5 q >>> (nI (24 - 8 * j) &&& 31)) &&& 255)) := by
  have c20 : ¬ 20 ≤ 4 * q + j := by omega
  have hJ : ∀ t, J_X9_append_80 (L_X9_append_27 x1 x2 x3 x4 x5 f) x1 x2 x3 x4 x5 (nI (4 * q + j)) t M vb = L_X9_append_27 x1 x2 x3 x4 x5 f (nI (4 * q + j + 1)) (va_up M.1 1 (nI (n + 1)), M.2) (upd vb n ((t >>> (nI (24 - 8 * j) &&& 31)) &&& 255)) := by
    intro t
    have hd : (4 * q + j) / 4 = q := by omega
    have hm : 4 * q + j - q * 4 = j := by omega
    have e1 : nI (4 * q + j) / 4 = nI q := by
      rw [show (4 : Int32) = nI 4 from rfl, q_div (by omega) (by omega) (by omega), hd]
    have e2 : (24 : Int32) - 8 * (nI (4 * q + j) - nI (4 * q + j) / 4 * 4) = nI (24 - 8 * j) := by
      rw [e1, show nI q * 4 = nI q * nI 4 from rfl, pk_mul, q_sub (by omega), hm, show (8 : Int32) * nI j = nI 8 * nI j from rfl, pk_mul, show (24 : Int32) - nI (8 * j) = nI 24 - nI (8 * j) from rfl, q_sub (by omega)]
    unfold J_X9_append_80
    rw [h, q_ck (by omega) (by omega), q_cl (by omega), q_lt0, q_lt0, e2, show nI n + 1 = nI n + nI 1 from rfl, nI_add, show nI (4 * q + j) + 1 = nI (4 * q + j) + nI 1 from rfl, nI_add]
  rw [L_X9_append_27]
  unfold B_X9_append_27
  simp only [hJ]
  simp (disch := omega) only [q_lit, q_le, c20, if_false]
  unfold wd5
  rcases (by omega : q = 0 ∨ q = 1 ∨ q = 2 ∨ q = 3 ∨ q = 4) with rfl | rfl | rfl | rfl | rfl
  · rw [if_neg (by omega), if_pos rfl]
  · rw [if_pos (by omega), if_neg (by omega), if_neg (by omega), if_pos rfl]
  · rw [if_pos (by omega), if_pos (by omega), if_neg (by omega), if_neg (by omega), if_neg (by omega), if_pos rfl]
  · rw [if_pos (by omega), if_pos (by omega), if_pos (by omega), if_neg (by omega), if_neg (by omega), if_neg (by omega), if_neg (by omega), if_pos rfl]
  · rw [if_pos (by omega), if_pos (by omega), if_pos (by omega), if_pos (by omega), if_neg (by omega), if_neg (by omega), if_neg (by omega), if_neg (by omega)]
theorem ap4 {x1 x2 x3 x4 x5 : Int32} {B : Nat → Nat → Int32} {M : (Nat → Int32) × Int64} {vb : Nat → Int32} {n q : Nat} (f : Nat) (h : BufE B M vb n) (hn : n + 4 ≤ 600) (hq : q < 5) : ∃ B' vb', F_X0_addFour B (wd5 x1 x2 x3 x4 x5 q) = some B' ∧ L_X9_append_27 x1 x2 x3 x4 x5 (f + 4) (nI (4 * q)) M vb = L_X9_append_27 x1 x2 x3 x4 x5 f (nI (4 * (q + 1))) (va_up M.1 1 (nI (n + 4)), M.2) vb' ∧ BufE B' (va_up M.1 1 (nI (n + 4)), M.2) vb' (n + 4) := by
  generalize hw : wd5 x1 x2 x3 x4 x5 q = w
  obtain ⟨B1, a1, b1⟩ := ap1 h (by omega) _ _ (by_sh 24 (by omega) w)
  obtain ⟨B2, a2, b2⟩ := ap1 b1 (by omega) _ _ (by_sh 16 (by omega) w)
  obtain ⟨B3, a3, b3⟩ := ap1 b2 (by omega) _ _ (by_sh 8 (by omega) w)
  obtain ⟨B4, a4, b4⟩ := ap1 b3 (by omega) w ((w >>> (nI 0 &&& 31)) &&& 255) (congrArg (· &&& 255) (sb_shr0 w).symm)
  have k1 := t_ap (x1 := x1) (x2 := x2) (x3 := x3) (x4 := x4) (x5 := x5) (M := M) (vb := vb) (j := 0) (f + 3) h.2.2.1 (by omega) hq (by omega)
  have k2 := t_ap (x1 := x1) (x2 := x2) (x3 := x3) (x4 := x4) (x5 := x5) (vb := upd vb n ((w >>> (nI 24 &&& 31)) &&& 255)) (j := 1) (f + 2) b1.2.2.1 (by omega) hq (by omega)
  have k3 := t_ap (x1 := x1) (x2 := x2) (x3 := x3) (x4 := x4) (x5 := x5) (vb := upd (upd vb n ((w >>> (nI 24 &&& 31)) &&& 255)) (n + 1) ((w >>> (nI 16 &&& 31)) &&& 255)) (j := 2) (f + 1) b2.2.2.1 (by omega) hq (by omega)
  have k4 := t_ap (x1 := x1) (x2 := x2) (x3 := x3) (x4 := x4) (x5 := x5) (vb := upd (upd (upd vb n ((w >>> (nI 24 &&& 31)) &&& 255)) (n + 1) ((w >>> (nI 16 &&& 31)) &&& 255)) (n + 1 + 1) ((w >>> (nI 8 &&& 31)) &&& 255)) (j := 3) f b3.2.2.1 (by omega) hq (by omega)
  rw [hw] at k1 k2 k3 k4
  have hM : ∀ a b : Int32, va_up (va_up M.1 1 a) 1 b = va_up M.1 1 b := fun a b => by
    funext i
    by_cases c : i = 1
    · subst c; rfl
    · rw [va_up_ne _ _ c, va_up_ne _ _ c, va_up_ne _ _ c]
  simp only [hM] at b2 b3 b4 k2 k3 k4
  refine ⟨B4, _, ?_, ?_, b4⟩
  · have a1' : F_X0_add B ((Int32.toUInt32 w >>> (Int32.toUInt32 24 &&& Int32.toUInt32 31)).toInt32) = some B1 := a1
    have a2' : F_X0_add B1 ((Int32.toUInt32 w >>> (Int32.toUInt32 16 &&& Int32.toUInt32 31)).toInt32) = some B2 := a2
    have a3' : F_X0_add B2 ((Int32.toUInt32 w >>> (Int32.toUInt32 8 &&& Int32.toUInt32 31)).toInt32) = some B3 := a3
    unfold F_X0_addFour
    rw [a1', q_sb, a2', q_sb, a3', q_sb, a4, q_sb]
  · exact k1.trans (k2.trans (k3.trans k4))
theorem a_0 {vX : Nat → Int32} {vB : Nat → Nat → Int32} {vM : (Nat → Int32) × Int64} {vbuffer : Nat → Int32} {vO : Nat → Int64} {n : Nat} (h : BufE vB vM vbuffer n) (x1 x2 x3 x4 x5 : Int32) : ∃ (c : Int32) (B' : Nat → Nat → Int32) (O' : Nat → Int64) (b : Int32) (M' : (Nat → Int32) × Int64) (vb' : Nat → Int32), F_L_append vX vB vO x1 x2 x3 x4 x5 = some (c, B', O') ∧ F_X9_append vM vbuffer x1 x2 x3 x4 x5 = some (b, M', vb') ∧ M'.1 3 = c ∧ (c = 0 → O' 0 = Int32.toInt64 b) ∧ (∃ n', BufE B' M' vb' n') ∧ ∀ k, k ≠ 1 → k ≠ 3 → M'.1 k = vM.1 k := by
  have h' : BufE vB (va_up vM.1 3 0, vM.2) vbuffer n := h
  have hn0 := h.1
  by_cases c : n ≤ 580
  · obtain ⟨B1, v1, a1, l1, b1⟩ := ap4 (x1 := x1) (x2 := x2) (x3 := x3) (x4 := x4) (x5 := x5) (q := 0) 4996 h' (by omega) (by omega)
    obtain ⟨B2, v2, a2, l2, b2⟩ := ap4 (x1 := x1) (x2 := x2) (x3 := x3) (x4 := x4) (x5 := x5) (q := 1) 4992 b1 (by omega) (by omega)
    obtain ⟨B3, v3, a3, l3, b3⟩ := ap4 (x1 := x1) (x2 := x2) (x3 := x3) (x4 := x4) (x5 := x5) (q := 2) 4988 b2 (by omega) (by omega)
    obtain ⟨B4, v4, a4, l4, b4⟩ := ap4 (x1 := x1) (x2 := x2) (x3 := x3) (x4 := x4) (x5 := x5) (q := 3) 4984 b3 (by omega) (by omega)
    obtain ⟨B5, v5, a5, l5, b5⟩ := ap4 (x1 := x1) (x2 := x2) (x3 := x3) (x4 := x4) (x5 := x5) (q := 4) 4980 b4 (by omega) (by omega)
    have e5 : B5 0 0 = nI (n + 4 + 4 + 4 + 4 + 4) := b5.2.1
    have e8 : F_L_append vX vB vO x1 x2 x3 x4 x5 = some (nI 0, B5, vp_updL vO 0 (Int32.toInt64 (nI (n + 4 + 4 + 4 + 4 + 4)))) := by
      have a1' : F_X0_addFour vB x1 = some B1 := a1
      have a2' : F_X0_addFour B1 x2 = some B2 := a2
      have a3' : F_X0_addFour B2 x3 = some B3 := a3
      have a4' : F_X0_addFour B3 x4 = some B4 := a4
      have a5' : F_X0_addFour B4 x5 = some B5 := a5
      simp (disch := omega) only [F_L_append, F_X8_append, h.2.1, c, a1', a2', a3', a4', a5', e5, q_lit, q_neg, nI_add, pk_mul, q_sb, q_lt0, q_ck, q_cl, q_le, q_lt, q_eq, q_m1e, q_e1m, q_m1l, e10, e20, e30, e40, e21, e31, e41, e32, e42, e43, eq_self, if_true, if_false, q_cn0, q_cn1, F_X9_fails, F_X9_isFailed, e14, e12, e13, e24, e23, e34]
    refine ⟨nI 0, B5, _, nI (n + 4 + 4 + 4 + 4 + 4), _, v5, e8, ?_, ?_, fun _ => rfl, ⟨_, b5⟩, fun k hk1 hk3 => ?_⟩
    rotate_left
    · rfl
    · show va_up _ 1 _ k = vM.1 k
      rw [va_up_ne _ _ hk1]
      show va_up _ 1 _ k = vM.1 k
      rw [va_up_ne _ _ hk1]
      show va_up _ 1 _ k = vM.1 k
      rw [va_up_ne _ _ hk1]
      show va_up _ 1 _ k = vM.1 k
      rw [va_up_ne _ _ hk1]
      show va_up _ 1 _ k = vM.1 k
      rw [va_up_ne _ _ hk1]
      exact va_up_ne _ _ hk3
    · unfold F_X9_append
      rw [q_lt0]
      have e1 : (va_up vM.1 3 0) 1 = nI n := h.2.2.1
      dsimp only
      rw [if_pos (show va_up vM.1 3 0 1 + 20 ≤ (600 : Int32) by rw [e1, show nI n + 20 = nI n + nI 20 from rfl, nI_add, show (600 : Int32) = nI 600 from rfl, q_le (by omega) (by omega)]; omega)]
      have hF : FU = 4996 + 4 := rfl
      rw [hF]
      refine l1.trans (l2.trans (l3.trans (l4.trans (l5.trans ?_))))
      rw [show (4980 : Nat) = 4979 + 1 from rfl, L_X9_append_27]
      unfold B_X9_append_27
      exact if_pos (show (20 : Int32) ≤ nI (4 * (4 + 1)) by decide)
  · have e8 : F_L_append vX vB vO x1 x2 x3 x4 x5 = some (nI 1, vB, vO) := by
      simp (disch := omega) only [F_L_append, F_X8_append, h.2.1, c, q_lit, q_neg, nI_add, pk_mul, q_sb, q_lt0, q_ck, q_cl, q_le, q_lt, q_eq, q_m1e, q_e1m, q_m1l, e10, e20, e30, e40, e21, e31, e41, e32, e42, e43, eq_self, if_true, if_false, q_cn0, q_cn1, F_X9_fails, F_X9_isFailed, e14, e12, e13, e24, e23, e34]
    have e1 : (va_up vM.1 3 (nI 0)) 1 = nI n := h.2.2.1
    have c2 : ¬ n + 20 ≤ 600 := by omega
    have hn := h.1
    have e9 : F_X9_append vM vbuffer x1 x2 x3 x4 x5 = some (nI 0, (va_up (va_up vM.1 3 (nI 0)) 3 (nI 1), vM.2), vbuffer) := by
      simp (disch := omega) only [F_X9_append, e1, c2, q_lit, q_neg, nI_add, pk_mul, q_sb, q_lt0, q_ck, q_cl, q_le, q_lt, q_eq, q_m1e, q_e1m, q_m1l, e10, e20, e30, e40, e21, e31, e41, e32, e42, e43, eq_self, if_true, if_false, q_cn0, q_cn1, F_X9_fails, F_X9_isFailed, e14, e12, e13, e24, e23, e34]
    exact ⟨nI 1, vB, vO, _, _, vbuffer, e8, e9, rfl, fun h => absurd h (by decide), ⟨n, h⟩, fun k _ h3 => (va_up_ne _ _ h3).trans (va_up_ne _ _ h3)⟩
theorem a_1 {vX : Nat → Int32} {vB : Nat → Nat → Int32} {vM : (Nat → Int32) × Int64} {vbuffer : Nat → Int32} {vO : Nat → Int64} {n : Nat} (h : BufE vB vM vbuffer n) (x1 : Int32) : ∃ (c : Int32) (B' : Nat → Nat → Int32) (O' : Nat → Int64) (b : Int32) (M' : (Nat → Int32) × Int64), F_L_shorten vX vB vO x1 = some (c, B', O') ∧ F_X9_shorten vM x1 = some (b, M') ∧ M'.1 3 = c ∧ (c = 0 → O' 0 = Int32.toInt64 b) ∧ (∃ n', BufE B' M' vbuffer n') ∧ ∀ k, k ≠ 1 → k ≠ 3 → M'.1 k = vM.1 k := by
  have hn := h.1
  have e1 : (va_up vM.1 3 (nI 0)) 1 = nI n := h.2.2.1
  rcases gcase x1 (n + 1) with ⟨v, hv, rfl⟩ | hb
  · have c1 : v ≤ n := by omega
    have c2 : ¬ n < v := by omega
    have e8 : F_L_shorten vX vB vO (nI v) = some (nI 0, va_up vB 0 (fun _ => nI v), vp_updL vO 0 (Int32.toInt64 (nI v))) := by
      simp (disch := omega) only [F_L_shorten, F_X8_shorten, h.2.1, c1, Nat.not_lt_zero, q_lit, q_neg, nI_add, pk_mul, q_sb, q_lt0, q_ck, q_cl, q_le, q_lt, q_eq, q_m1e, q_e1m, q_m1l, e10, e20, e30, e40, e21, e31, e41, e32, e42, e43, eq_self, if_true, if_false, q_cn0, q_cn1, F_X9_fails, F_X9_isFailed, e14, e12, e13, e24, e23, e34]
    have e9 : F_X9_shorten vM (nI v) = some (nI v, (va_up (va_up vM.1 3 (nI 0)) 1 (nI v), vM.2)) := by
      simp (disch := omega) only [F_X9_shorten, F_X9_in, e1, c2, Nat.not_lt_zero, va_eq, q_lit, q_neg, nI_add, pk_mul, q_sb, q_lt0, q_ck, q_cl, q_le, q_lt, q_eq, q_m1e, q_e1m, q_m1l, e10, e20, e30, e40, e21, e31, e41, e32, e42, e43, eq_self, if_true, if_false, q_cn0, q_cn1, F_X9_fails, F_X9_isFailed, e14, e12, e13, e24, e23, e34]
    exact ⟨nI 0, _, _, _, _, e8, e9, rfl, fun _ => rfl, ⟨v, by omega, rfl, rfl, fun i hi => h.2.2.2 i (by omega)⟩, fun k h1 h3 => (va_up_ne _ _ h1).trans (va_up_ne _ _ h3)⟩
  · have e8 : F_L_shorten vX vB vO x1 = some (nI 1, vB, vO) := by
      rcases hb with hx | ⟨m, h1, h2, rfl⟩
      · have : F_X8_shorten vX vB x1 = some (2, 0, vB) := if_pos hx
        simp (disch := omega) only [F_L_shorten, this, q_lit, q_neg, nI_add, pk_mul, q_sb, q_lt0, q_ck, q_cl, q_le, q_lt, q_eq, q_m1e, q_e1m, q_m1l, e10, e20, e30, e40, e21, e31, e41, e32, e42, e43, eq_self, if_true, if_false, q_cn0, q_cn1, F_X9_fails, F_X9_isFailed, e14, e12, e13, e24, e23, e34]
      · have c1 : ¬ m ≤ n := by omega
        simp (disch := omega) only [F_L_shorten, F_X8_shorten, h.2.1, c1, Nat.not_lt_zero, q_lit, q_neg, nI_add, pk_mul, q_sb, q_lt0, q_ck, q_cl, q_le, q_lt, q_eq, q_m1e, q_e1m, q_m1l, e10, e20, e30, e40, e21, e31, e41, e32, e42, e43, eq_self, if_true, if_false, q_cn0, q_cn1, F_X9_fails, F_X9_isFailed, e14, e12, e13, e24, e23, e34]
    have e9 : F_X9_shorten vM x1 = some (nI 0, (va_up (va_up vM.1 3 (nI 0)) 3 (nI 1), vM.2)) := by
      rcases hb with hx | ⟨m, h1, h2, rfl⟩
      · have : F_X9_in x1 (nI 0) (nI n) = some (nI 0) := if_pos hx
        simp (disch := omega) only [F_X9_shorten, e1, this, q_lit, q_neg, nI_add, pk_mul, q_sb, q_lt0, q_ck, q_cl, q_le, q_lt, q_eq, q_m1e, q_e1m, q_m1l, e10, e20, e30, e40, e21, e31, e41, e32, e42, e43, eq_self, if_true, if_false, q_cn0, q_cn1, F_X9_fails, F_X9_isFailed, e14, e12, e13, e24, e23, e34]
      · have c1 : n < m := by omega
        simp (disch := omega) only [F_X9_shorten, F_X9_in, e1, c1, Nat.not_lt_zero, q_lit, q_neg, nI_add, pk_mul, q_sb, q_lt0, q_ck, q_cl, q_le, q_lt, q_eq, q_m1e, q_e1m, q_m1l, e10, e20, e30, e40, e21, e31, e41, e32, e42, e43, eq_self, if_true, if_false, q_cn0, q_cn1, F_X9_fails, F_X9_isFailed, e14, e12, e13, e24, e23, e34]
    exact ⟨nI 1, vB, vO, _, _, e8, e9, rfl, fun h => absurd h (by decide), ⟨n, h⟩, fun k _ h3 => (va_up_ne _ _ h3).trans (va_up_ne _ _ h3)⟩
