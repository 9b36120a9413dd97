def bt (x : Int32) (i : Nat) : Bool := x.toBitVec.getLsbD i
theorem b_ext {x y : Int32} (h : ∀ i, i < 32 → bt x i = bt y i) : x = y := Int32.toBitVec_inj.mp (BitVec.eq_of_getLsbD_eq (fun i hi => h i hi))
theorem b_and (x y : Int32) (i : Nat) : bt (x &&& y) i = (bt x i && bt y i) := by unfold bt; rw [Int32.toBitVec_and, BitVec.getLsbD_and]
theorem b_big {x : Int32} {i : Nat} (h : 32 ≤ i) : bt x i = false := BitVec.getLsbD_of_ge _ _ h
theorem b_255 (i : Nat) : bt 255 i = decide (i < 8) := by
  rcases Nat.lt_or_ge i 32 with h | h
  · exact (by decide +kernel : ∀ i, i < 32 → bt 255 i = decide (i < 8)) i h
  · rw [b_big h, decide_eq_false (by omega)]
theorem s_l : ∀ n, n < 32 → ((nI n &&& 31).toBitVec.smod 32).toNat = n := by decide +kernel
theorem s_u : ∀ n, n < 32 → (((nI n).toUInt32 &&& Int32.toUInt32 31).toBitVec % 32).toNat = n := by decide +kernel
theorem b_ushr (n : Nat) (hn : n < 32) (x : Int32) (i : Nat) : bt ((x.toUInt32 >>> ((nI n).toUInt32 &&& Int32.toUInt32 31)).toInt32) i = bt x (n + i) := by
  show (x.toUInt32 >>> ((nI n).toUInt32 &&& Int32.toUInt32 31)).toBitVec.getLsbD i = x.toUInt32.toBitVec.getLsbD (n + i)
  rw [UInt32.toBitVec_shiftRight]
  show (x.toUInt32.toBitVec >>> (((nI n).toUInt32 &&& Int32.toUInt32 31).toBitVec % 32).toNat).getLsbD i = _
  rw [s_u n hn, BitVec.getLsbD_ushiftRight]
theorem b_sshr (n : Nat) (hn : n < 32) (x : Int32) {i : Nat} (hi : i < 32) : bt (x >>> (nI n &&& 31)) i = if n + i < 32 then bt x (n + i) else bt x 31 := by
  unfold bt
  rw [Int32.toBitVec_shiftRight]
  show (x.toBitVec.sshiftRight ((nI n &&& 31).toBitVec.smod 32).toNat).getLsbD i = _
  rw [s_l n hn, BitVec.getLsbD_sshiftRight, BitVec.msb_eq_getLsbD_last]
  simp [hi]
/-! bytes in, bytes out -/
theorem by_sh (n : Nat) (hn : n ≤ 24) (x : Int32) : ((x.toUInt32 >>> ((nI n).toUInt32 &&& Int32.toUInt32 31)).toInt32) &&& 255 = (x >>> (nI n &&& 31)) &&& 255 := b_ext fun i hi => by
  rw [b_and, b_and, b_255, b_ushr n (by omega), b_sshr n (by omega) x hi]
  by_cases c : i < 8
  · rw [if_pos (by omega)]
  · rw [decide_eq_false c, Bool.and_false, Bool.and_false]
theorem and255 (y : Int32) : ∃ b, b < 256 ∧ y &&& 255 = nI b := by
  refine ⟨(y &&& 255).toBitVec.toNat, ?_, ?_⟩
  · rw [Int32.toBitVec_and, BitVec.toNat_and]
    have : y.toBitVec.toNat &&& (255 : Int32).toBitVec.toNat ≤ (255 : Int32).toBitVec.toNat := Nat.and_le_right
    exact Nat.lt_of_le_of_lt this (by decide)
  · apply Int32.toBitVec_inj.mp
    show (y &&& 255).toBitVec = BitVec.ofNat 32 (y &&& 255).toBitVec.toNat
    exact BitVec.eq_of_toNat_eq (by rw [BitVec.toNat_ofNat]; exact (Nat.mod_eq_of_lt (BitVec.isLt _)).symm)
theorem by_255 : ∀ b, b < 256 → nI b &&& 255 = nI b := by decide +kernel
def BufE (B : Nat → Nat → Int32) (M : (Nat → Int32) × Int64) (vb : Nat → Int32) (n : Nat) : Prop := n ≤ 600 ∧ B 0 0 = nI n ∧ M.1 1 = nI n ∧ ∀ i, i < n → ∃ b, b < 256 ∧ B 1 i = nI b ∧ vb i = nI b
theorem u_add {B : Nat → Nat → Int32} {n : Nat} (y : Int32) (h : B 0 0 = nI n) (hn : n < 600) : F_X0_add B y = some (va_up (va_up B 1 (upd (B 1) n (y &&& 255))) 0 (fun _ => nI (n + 1))) := by
  have c1 : ¬ 600 ≤ n := by omega
  have e0 : va_up B 1 (upd (B 1) n (y &&& 255)) 0 0 = nI n := h
  unfold F_X0_add
  rw [h, if_neg (show ¬ (600 : Int32) ≤ nI n from fun h => by rw [show (600 : Int32) = nI 600 from rfl, q_le (by omega) (by omega)] at h; omega), q_ck (by omega) (by omega), q_cl (by omega), q_lt0, q_lt0, e0]
  rw [show nI n + 1 = nI n + nI 1 from rfl, nI_add]
theorem ap1 {B : Nat → Nat → Int32} {M : (Nat → Int32) × Int64} {vb : Nat → Int32} {n : Nat} (h : BufE B M vb n) (hn : n < 600) (y z : Int32) (hz : y &&& 255 = z) : ∃ B', F_X0_add B y = some B' ∧ BufE B' (va_up M.1 1 (nI (n + 1)), M.2) (upd vb n z) (n + 1) := by
  obtain ⟨h1, h2, h3, h4⟩ := h
  refine ⟨_, u_add y h2 hn, by omega, rfl, rfl, fun i hi => ?_⟩
  subst hz
  show ∃ b, b < 256 ∧ upd (B 1) n (y &&& 255) i = nI b ∧ upd vb n (y &&& 255) i = nI b
  by_cases c : i = n
  · subst c
    rw [up_eq, up_eq]
    obtain ⟨b, hb, e⟩ := and255 y
    exact ⟨b, hb, e, e⟩
  · rw [up_ne c, up_ne c]
    exact h4 i (by omega)
def wd5 (x1 x2 x3 x4 x5 : Int32) (q : Nat) : Int32 := if q = 0 then x1 else if q = 1 then x2 else if q = 2 then x3 else if q = 3 then x4 else x5
