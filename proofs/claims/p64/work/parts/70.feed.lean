/-! bytes into the buffer -/
theorem b_or (x y : Int32) (i : Nat) : bt (x ||| y) i = (bt x i || bt y i) := by unfold bt; rw [Int32.toBitVec_or, BitVec.getLsbD_or]
theorem b_shl (n : Nat) (hn : n < 32) (x : Int32) {i : Nat} (hi : i < 32) : bt (x <<< (nI n &&& 31)) i = (decide (n ≤ i) && bt x (i - n)) := by
  unfold bt
  rw [Int32.toBitVec_shiftLeft]
  show (x.toBitVec <<< ((nI n &&& 31).toBitVec.smod 32).toNat).getLsbD i = _
  rw [s_l n hn, BitVec.getLsbD_shiftLeft, decide_eq_true hi, Bool.true_and]
  by_cases c : n ≤ i
  · rw [decide_eq_true c, decide_eq_false (by omega)]
    rfl
  · rw [decide_eq_false c, decide_eq_true (by omega)]
    rfl
theorem b_nI (b : Nat) {i : Nat} (hi : i < 32) : bt (nI b) i = b.testBit i := by
  show (BitVec.ofNat 32 b).getLsbD i = _
  rw [BitVec.getLsbD_ofNat, decide_eq_true hi, Bool.true_and]
theorem tb_hi {b i : Nat} (hb : b < 256) (hi : 8 ≤ i) : b.testBit i = false := Nat.testBit_lt_two_pow (Nat.lt_of_lt_of_le hb (by
  have : 2 ^ 8 ≤ 2 ^ i := Nat.pow_le_pow_right (by omega) hi
  omega))
def wd4 (b0 b1 b2 b3 : Nat) : Int32 := ((((0 ||| (nI b0 <<< (nI 24 &&& 31))) ||| (nI b1 <<< (nI 16 &&& 31))) ||| (nI b2 <<< (nI 8 &&& 31))) ||| (nI b3 <<< (nI 0 &&& 31)))
theorem b_0 (i : Nat) : bt 0 i = false := by
  unfold bt
  exact BitVec.getLsbD_zero
theorem wd4_b (b0 b1 b2 b3 : Nat) {i : Nat} (hi : i < 32) : bt (wd4 b0 b1 b2 b3) i = ((((false || (decide (24 ≤ i) && b0.testBit (i - 24))) || (decide (16 ≤ i) && b1.testBit (i - 16))) || (decide (8 ≤ i) && b2.testBit (i - 8))) || (decide (0 ≤ i) && b3.testBit (i - 0))) := by
  unfold wd4
  rw [b_or, b_or, b_or, b_or, b_0, b_shl 24 (by omega) _ hi, b_shl 16 (by omega) _ hi, b_shl 8 (by omega) _ hi, b_shl 0 (by omega) _ hi, b_nI _ (by omega), b_nI _ (by omega), b_nI _ (by omega), b_nI _ (by omega)]
theorem wb_0 {b0 b1 b2 b3 : Nat} (h0 : b0 < 256) (h1 : b1 < 256) (h2 : b2 < 256) (h3 : b3 < 256) : (((wd4 b0 b1 b2 b3).toUInt32 >>> ((nI 24).toUInt32 &&& Int32.toUInt32 31)).toInt32) &&& 255 = nI b0 := b_ext fun i hi => by
  rw [b_and, b_255, b_ushr 24 (by omega), b_nI _ hi]
  by_cases c : i < 8
  · rw [wd4_b _ _ _ _ (by omega), decide_eq_true c, decide_eq_true (show 24 ≤ 24 + i by omega), tb_hi h1 (show 8 ≤ 24 + i - 16 by omega), tb_hi h2 (show 8 ≤ 24 + i - 8 by omega), tb_hi h3 (show 8 ≤ 24 + i - 0 by omega), Nat.add_sub_cancel_left]
    simp
  · rw [decide_eq_false c, Bool.and_false, tb_hi h0 (by omega)]
theorem wb_1 {b0 b1 b2 b3 : Nat} (h0 : b0 < 256) (h1 : b1 < 256) (h2 : b2 < 256) (h3 : b3 < 256) : (((wd4 b0 b1 b2 b3).toUInt32 >>> ((nI 16).toUInt32 &&& Int32.toUInt32 31)).toInt32) &&& 255 = nI b1 := b_ext fun i hi => by
  rw [b_and, b_255, b_ushr 16 (by omega), b_nI _ hi]
  by_cases c : i < 8
  · rw [wd4_b _ _ _ _ (by omega), decide_eq_true c, decide_eq_false (show ¬ 24 ≤ 16 + i by omega), decide_eq_true (show 16 ≤ 16 + i by omega), tb_hi h2 (show 8 ≤ 16 + i - 8 by omega), tb_hi h3 (show 8 ≤ 16 + i - 0 by omega), Nat.add_sub_cancel_left]
    simp
  · rw [decide_eq_false c, Bool.and_false, tb_hi h1 (by omega)]
theorem wb_2 {b0 b1 b2 b3 : Nat} (h0 : b0 < 256) (h1 : b1 < 256) (h2 : b2 < 256) (h3 : b3 < 256) : (((wd4 b0 b1 b2 b3).toUInt32 >>> ((nI 8).toUInt32 &&& Int32.toUInt32 31)).toInt32) &&& 255 = nI b2 := b_ext fun i hi => by
  rw [b_and, b_255, b_ushr 8 (by omega), b_nI _ hi]
  by_cases c : i < 8
  · rw [wd4_b _ _ _ _ (by omega), decide_eq_true c, decide_eq_false (show ¬ 24 ≤ 8 + i by omega), decide_eq_false (show ¬ 16 ≤ 8 + i by omega), decide_eq_true (show 8 ≤ 8 + i by omega), tb_hi h3 (show 8 ≤ 8 + i - 0 by omega), Nat.add_sub_cancel_left]
    simp
  · rw [decide_eq_false c, Bool.and_false, tb_hi h2 (by omega)]
theorem wb_3 {b0 b1 b2 b3 : Nat} (h0 : b0 < 256) (h1 : b1 < 256) (h2 : b2 < 256) (h3 : b3 < 256) : (wd4 b0 b1 b2 b3) &&& 255 = nI b3 := b_ext fun i hi => by
  rw [b_and, b_255, b_nI _ hi]
  by_cases c : i < 8
  · rw [wd4_b _ _ _ _ hi, decide_eq_true c, decide_eq_false (show ¬ 24 ≤ i by omega), decide_eq_false (show ¬ 16 ≤ i by omega), decide_eq_false (show ¬ 8 ≤ i by omega), Nat.sub_zero]
    simp
  · rw [decide_eq_false c, Bool.and_false, tb_hi h3 (by omega)]
/-- the buffer: n bytes, the first ones l -/
def Buf (B : Nat → Nat → Int32) (l : Nat → Nat) (n : Nat) : Prop := B 0 0 = nI n ∧ ∀ i, i < n → B 1 i = nI (l i)
theorem buf_1 {B : Nat → Nat → Int32} {l : Nat → Nat} {n : Nat} (h : Buf B l n) (hn : n < 600) {y : Int32} (hy : y &&& 255 = nI (l n)) : ∃ B', F_X0_add B y = some B' ∧ Buf B' l (n + 1) := by
  refine ⟨_, u_add y h.1 hn, rfl, fun i hi => ?_⟩
  show upd (B 1) n (y &&& 255) i = nI (l i)
  by_cases c : i = n
  · subst c
    rw [up_eq]
    exact hy
  · rw [up_ne c]
    exact h.2 i (by omega)
theorem bnd {α β : Type} {x : Option α} {a : α} {f : α → Option β} {r : Option β} (h : x = some a) (h2 : f a = r) : x.bind f = r := by
  rw [h]
  exact h2
theorem buf_4 {B : Nat → Nat → Int32} {l : Nat → Nat} {n : Nat} (h : Buf B l n) (hn : n + 4 ≤ 600) (hl : ∀ i, l i < 256) : ∃ B', F_X0_addFour B (wd4 (l n) (l (n + 1)) (l (n + 2)) (l (n + 3))) = some B' ∧ Buf B' l (n + 4) := by
  obtain ⟨B1, e1, g1⟩ := buf_1 h (by omega) (wb_0 (hl n) (hl (n + 1)) (hl (n + 2)) (hl (n + 3)))
  obtain ⟨B2, e2, g2⟩ := buf_1 g1 (by omega) (wb_1 (hl n) (hl (n + 1)) (hl (n + 2)) (hl (n + 3)))
  obtain ⟨B3, e3, g3⟩ := buf_1 g2 (by omega) (wb_2 (hl n) (hl (n + 1)) (hl (n + 2)) (hl (n + 3)))
  obtain ⟨B4, e4, g4⟩ := buf_1 g3 (by omega) (wb_3 (hl n) (hl (n + 1)) (hl (n + 2)) (hl (n + 3)))
  refine ⟨B4, ?_, g4⟩
  exact bnd e1 (bnd e2 (bnd e3 (bnd e4 rfl)))
def setB (v : KV) (B : Nat → Nat → Int32) : KV := (v.1, v.2.1, v.2.2.1, v.2.2.2.1, v.2.2.2.2.1, v.2.2.2.2.2.1, v.2.2.2.2.2.2.1, v.2.2.2.2.2.2.2.1, v.2.2.2.2.2.2.2.2.1, v.2.2.2.2.2.2.2.2.2.1, v.2.2.2.2.2.2.2.2.2.2.1, v.2.2.2.2.2.2.2.2.2.2.2.1, v.2.2.2.2.2.2.2.2.2.2.2.2.1, v.2.2.2.2.2.2.2.2.2.2.2.2.2.1, B, v.2.2.2.2.2.2.2.2.2.2.2.2.2.2.2)
theorem feed_20 {v : KV} {l : Nat → Nat} {n : Nat} (h : Buf (v.2.2.2.2.2.2.2.2.2.2.2.2.2.2.1) l n) (hn : n ≤ 580) (hl : ∀ i, l i < 256) : ∃ B', F_K_call v (nI 12) (wd4 (l n) (l (n + 1)) (l (n + 2)) (l (n + 3))) (wd4 (l (n + 4)) (l (n + 5)) (l (n + 6)) (l (n + 7))) (wd4 (l (n + 8)) (l (n + 9)) (l (n + 10)) (l (n + 11))) (wd4 (l (n + 12)) (l (n + 13)) (l (n + 14)) (l (n + 15))) (wd4 (l (n + 16)) (l (n + 17)) (l (n + 18)) (l (n + 19))) = some (nI (n + 20), setB v B') ∧ Buf B' l (n + 20) := by
  obtain ⟨B1, e1, g1⟩ := buf_4 h (by omega) hl
  obtain ⟨B2, e2, g2⟩ := buf_4 g1 (by omega) hl
  obtain ⟨B3, e3, g3⟩ := buf_4 g2 (by omega) hl
  obtain ⟨B4, e4, g4⟩ := buf_4 g3 (by omega) hl
  obtain ⟨B5, e5, g5⟩ := buf_4 g4 (by omega) hl
  refine ⟨B5, ?_, g5⟩
  rw [kc5_12]
  unfold F_arm_append F_X8_append
  rw [h.1, if_pos (show nI n ≤ (580 : Int32) by rw [show (580 : Int32) = nI 580 from rfl, q_le (by omega) (by omega)]; exact hn), show ((F_X0_addFour (v.2.2.2.2.2.2.2.2.2.2.2.2.2.2.1) _).bind _) = some (0, B5 0 0, B5) from bnd e1 (bnd e2 (bnd e3 (bnd e4 (bnd e5 rfl)))), q_sb]
  dsimp only
  rw [if_pos rfl, g5.1]
  rfl
theorem shorten_of {v : KV} {l : Nat → Nat} {n m : Nat} (h : Buf (v.2.2.2.2.2.2.2.2.2.2.2.2.2.2.1) l n) (hm : m ≤ n) (hn : n ≤ 600) : ∃ B', F_K_call__ v (nI 13) (nI m) = some (nI m, setB v B') ∧ Buf B' l m := by
  refine ⟨va_up (v.2.2.2.2.2.2.2.2.2.2.2.2.2.2.1) 0 (fun _ => nI m), ?_, rfl, fun i hi => h.2 i (by omega)⟩
  rw [kc1_13]
  unfold F_arm_shorten F_X8_shorten
  rw [h.1, if_neg (show ¬ nI m < (0 : Int32) by rw [show (0 : Int32) = nI 0 from rfl, q_lt (by omega) (by omega)]; omega), if_pos (show nI m ≤ nI n by rw [q_le (by omega) (by omega)]; exact hm), q_lt0, q_sb]
  dsimp only
  rw [if_pos rfl]
  rfl
