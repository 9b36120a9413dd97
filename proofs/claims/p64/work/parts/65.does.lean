/-! does() is true -/
theorem and_le (y : Int32) {c : Nat} (hc : c < 2147483648) : ∃ b, b ≤ c ∧ y &&& nI c = nI b := by
  refine ⟨(y &&& nI c).toBitVec.toNat, ?_, ?_⟩
  · rw [Int32.toBitVec_and, BitVec.toNat_and]
    have h1 : y.toBitVec.toNat &&& (nI c).toBitVec.toNat ≤ (nI c).toBitVec.toNat := Nat.and_le_right
    have e : (nI c).toBitVec.toNat = c := by
      show (BitVec.ofNat 32 c).toNat = c
      rw [BitVec.toNat_ofNat]
      omega
    omega
  · apply Int32.toBitVec_inj.mp
    show (y &&& nI c).toBitVec = BitVec.ofNat 32 (y &&& nI c).toBitVec.toNat
    rw [BitVec.ofNat_toNat, BitVec.setWidth_eq]
theorem q_mod {m n : Nat} (hm : m < 100000) (h0 : 0 < n) (hn : n < 100000) : nI m - nI m / nI n * nI n = nI (m % n) := by
  rw [q_div (by omega) h0 (by omega), pk_mul]
  have h1 := Nat.div_add_mod m n
  have h2 : m / n * n = n * (m / n) := Nat.mul_comm _ _
  rw [q_sub (by omega)]
  exact congrArg nI (by omega)
theorem lgc_self (x : Int64) : lg_cmp x x = 0 := (lg_cmp_eq x x).mpr rfl
theorem nI_nn {a : Nat} (h : a < 2147483648) : (0 : Int32) ≤ nI a := by
  rw [show (0 : Int32) = nI 0 from rfl, q_le (by omega) (by omega)]
  exact Nat.zero_le _
theorem co_mono (D : Dn) (n : Nat) : D.co ≤ (passN D n).co := by
  induction n with
  | zero => exact Nat.le_refl _
  | succ n ih =>
    refine Nat.le_trans ih ?_
    show (passN D n).co ≤ (passD (passN D n)).co
    rw [passD_co]
    split
    · split
      · exact Nat.le_refl _
      · exact Nat.le_succ _
    · exact Nat.le_refl _
section
variable {T : Nat} {v : KV} {D : Dn} {n : Nat} {Hs : Nat → Dn}
theorem S8.mono (h : S8 T v D n Hs) (hT : T + 1 ≤ 600) : S8 (T + 1) v D n Hs := by
  obtain ⟨⟨⟨m, o⟩, cr⟩, hh, hs, hB, _⟩ := h
  exact ⟨⟨⟨m, o.mono (Nat.le_succ T) hT⟩, cr⟩, hh.mono (Nat.le_succ T) hT, hs.mono (Nat.le_succ T) hT, hB, hT⟩
def Did (T : Nat) (v : KV) (r : Option (Int32 × KV)) : Prop := ∃ x v2 D2 n2 Hs2, r = some (x, v2) ∧ S8 T v2 D2 n2 Hs2 ∧ ((0 : Int32) ≤ x ∨ v2 = v)
theorem Did.ok {r : Option (Int32 × KV)} {a : Nat} {v2 : KV} {D2 : Dn} {n2 : Nat} {H2 : Nat → Dn} (e : r = some (nI a, v2)) (h : S8 T v2 D2 n2 H2) (ha : a < 2147483648) (hT : T + 1 ≤ 600) : Did (T + 1) v r := ⟨_, _, _, _, _, e, h.mono hT, Or.inl (nI_nn ha)⟩
theorem Did.no {r : Option (Int32 × KV)} {x : Int32} (e : r = some (x, v)) (h : S8 T v D n Hs) (hT : T + 1 ≤ 600) : Did (T + 1) v r := ⟨_, _, _, _, _, e, h.mono hT, Or.inr rfl⟩
theorem did2 (h : S8 T v D n Hs) (hT : T + 1 ≤ 600) {g : Nat} (hg2 : g < 100000) : Did (T + 1) v (F_K_call__ v (nI 2) (nI g)) := by
  have o := h.1.1.2.1
  have hR := o.R
  have hG := o.G
  by_cases hg : g < D.G
  · rcases Nat.le_one_iff_eq_zero_or_eq_one.mp (o.ou g hg) with e | e
    · by_cases r : D.R < 60
      · obtain ⟨v2, e2, h2⟩ := mu2 h hg e r
        have hs : smF (leaveD D g).ou D.G ≤ 1 * D.G := smF_le fun k hk => by
          rw [leave_ou]
          split
          · exact Nat.le_refl _
          · exact o.ou k hk
        exact Did.ok e2 h2 (by omega) hT
      · exact Did.no (mu2f h hg e (by omega)) h hT
    · exact Did.no (mu2o h hg e) h hT
  · exact Did.no (mu2b h (by omega) hg2) h hT
theorem did3 (h : S8 T v D n Hs) (hT : T + 1 ≤ 600) {g : Nat} (hg2 : g < 100000) : Did (T + 1) v (F_K_call__ v (nI 3) (nI g)) := by
  have o := h.1.1.2.1
  have hR := o.R
  by_cases hg : g < D.G
  · have ht := tipD_le o hg
    rcases Nat.le_one_iff_eq_zero_or_eq_one.mp (o.ou g hg) with e | e
    · exact Did.no (mu3o h hg e) h hT
    · by_cases r : D.R < 60
      · obtain ⟨v2, e2, h2⟩ := mu3 h hg e r
        exact Did.ok e2 h2 (by omega) hT
      · exact Did.no (mu3f h hg e (by omega)) h hT
  · exact Did.no (mu3b h (by omega) hg2) h hT
theorem did4 (h : S8 T v D n Hs) (hT : T + 1 ≤ 600) {c : Nat} (h1 : 1 ≤ c) (h2 : c ≤ 240) : Did (T + 1) v (F_K_call__ v (nI 4) (nI c)) := by
  have o := h.1.1.2.1
  by_cases hc : D.mi + c ≤ 720
  · obtain ⟨v2, e2, h3⟩ := mu4 h h1 h2 hc
    have hm := co_mono D c
    have hb := h3.1.1.2.1.co
    have hb2 := h3.1.1.2.2.2
    rw [q_sub hm] at e2
    exact Did.ok e2 h3 (by omega) hT
  · exact Did.no (mu4f h h1 h2 (by omega)) h hT
theorem did5 (h : S8 T v D n Hs) (hT : T + 1 ≤ 600) {g : Nat} (hg2 : g < 100000) : Did (T + 1) v (F_K_call__ v (nI 5) (nI g)) := by
  have o := h.1.1.2.1
  by_cases hg : g < D.G
  · rcases Nat.le_one_iff_eq_zero_or_eq_one.mp (o.ou g hg) with e | e
    · exact Did.no (mu5o h hg e) h hT
    · by_cases z : D.ba g = 0
      · exact Did.no (mu5z h hg e z) h hT
      · obtain ⟨v2, e2, h2⟩ := mu5 h hg e z hT
        have := o.wk g hg
        exact ⟨_, _, _, _, _, e2, h2, Or.inl (nI_nn (by omega))⟩
  · exact Did.no (mu5b h (by omega) hg2) h hT
theorem did6 (h : S8 T v D n Hs) (hT : T + 1 ≤ 600) {c : Nat} (h2 : c < 100000) : Did (T + 1) v (F_K_call__ v (nI 6) (nI c)) := by
  have o := h.1.1.2.1.ra
  by_cases hc : c ≤ 9
  · obtain ⟨v2, e2, h3⟩ := mu6 h hc
    exact Did.ok e2 h3 (by omega) hT
  · exact Did.no (mu6r h (by omega) h2) h hT
theorem did7 (h : S8 T v D n Hs) (hT : T + 1 ≤ 600) {c : Nat} (h2 : c < 100000) : Did (T + 1) v (F_K_call__ v (nI 7) (nI c)) := by
  have o := h.1.1.2.1.li
  by_cases hc : c ≤ 999
  · obtain ⟨v2, e2, h3⟩ := mu7 h hc
    exact Did.ok e2 h3 (by omega) hT
  · exact Did.no (mu7r h (by omega) h2) h hT
theorem did1 (h : S8 T v D n Hs) (hT : T + 1 ≤ 600) {g c : Nat} (hg2 : g < 100000) (h2 : c < 100000) : Did (T + 1) v (F_K_call_ v (nI 1) (nI g) (nI c)) := by
  have o := h.1.1.2.1
  have hU := o.U
  by_cases hg : g < D.G
  · by_cases hc : c ≤ 99
    · by_cases u : D.U < 12
      · obtain ⟨v2, e2, h3⟩ := mu1 h hg hc u
        exact Did.ok e2 h3 (by omega) hT
      · exact Did.no (mu1f h hg hc (by omega)) h hT
    · exact Did.no (mu1r h hg (by omega) h2) h hT
  · exact Did.no (mu1b h (by omega) hg2) h hT
theorem did9 (h : S8 T v D n Hs) (hT : T + 1 ≤ 600) {s : Nat} (hs : s < 2) : Did (T + 1) v (F_K_call__ v (nI 9) (nI s)) := by
  have := h.1.1.2.2.2
  obtain ⟨v2, e2, h3⟩ := mu9 h hs
  exact Did.ok e2 h3 (by omega) hT
theorem did10 (h : S8 T v D n Hs) (hT : T + 1 ≤ 600) {s : Nat} (hs : s < 2) : Did (T + 1) v (F_K_call__ v (nI 10) (nI s)) := by
  rcases mu10 h hs with e | ⟨v2, E, e2, h3⟩
  · exact Did.no e h hT
  · have := h3.1.1.2.2.2
    exact Did.ok e2 h3 (by omega) hT
theorem j266 (h : S8 T v D n Hs) {r : Option (Int32 × KV)} (hd : Did (T + 1) v r) : ∃ v2 D2 n2 Hs2, r.bind (fun u1 => (J_K_does_266 (stV D) u1.1 u1.2)) = some (1, v2) ∧ S8 (T + 1) v2 D2 n2 Hs2 := by
  obtain ⟨x, v2, D2, n2, H2, e, h2, hx⟩ := hd
  refine ⟨v2, D2, n2, H2, ?_, h2⟩
  rw [e, q_sb]
  unfold J_K_does_266
  by_cases c : (0 : Int32) ≤ x
  · exact if_pos c
  · dsimp only
    rw [if_neg c]
    rcases hx with z | z
    · exact absurd z c
    · subst z
      rw [state_of h.1.1, q_sb]
      exact if_pos (lgc_self _)
theorem does_of (h : S8 T v D n Hs) (hT : T + 1 ≤ 600) (p1 p2 : Int32) : ∃ v2 D2 n2 Hs2, F_K_does v p1 p2 = some (1, v2) ∧ S8 (T + 1) v2 D2 n2 Hs2 := by
  have o := h.1.1.2.1
  have hG := o.G
  obtain ⟨N, hN0, hN, hNe⟩ : ∃ N : Nat, 1 ≤ N ∧ N ≤ 10 ∧ (if 1 < nI D.G then nI D.G else 1) = nI N := by
    by_cases c : 1 < D.G
    · exact ⟨D.G, by omega, hG, if_pos (by rw [show (1 : Int32) = nI 1 from rfl, q_lt (by omega) (by omega)]; exact c)⟩
    · exact ⟨1, by omega, by omega, if_neg (by rw [show (1 : Int32) = nI 1 from rfl, q_lt (by omega) (by omega)]; exact c)⟩
  obtain ⟨m, hm, em⟩ := and_le p2 (c := 255) (by omega)
  obtain ⟨m5, hm5, em5⟩ := and_le p2 (c := 31) (by omega)
  obtain ⟨m10, hm10, em10⟩ := and_le p2 (c := 1023) (by omega)
  obtain ⟨m7, hm7, em7⟩ := and_le (p2 >>> (3 &&& 31)) (c := 127) (by omega)
  obtain ⟨m1b, hm1, em1⟩ := and_le (p2 >>> (1 &&& 31)) (c := 1) (by omega)
  have em : p2 &&& 255 = nI m := em
  have em5 : p2 &&& 31 = nI m5 := em5
  have em10 : p2 &&& 1023 = nI m10 := em10
  have em7 : (p2 >>> (3 &&& 31)) &&& 127 = nI m7 := em7
  have em1 : (p2 >>> (1 &&& 31)) &&& 1 = nI m1b := em1
  have eg : nI m - nI m / nI N * nI N = nI (m % N) := q_mod (by omega) (by omega) (by omega)
  have e11 : nI m - nI m / 11 * 11 = nI (m % 11) := q_mod (n := 11) (by omega) (by omega) (by omega)
  have hg : m % N < 100000 := by have := Nat.mod_le m N; omega
  have hg11 : m % 11 < 100000 := by have := Nat.mod_le m 11; omega
  have hNz : ¬ nI N = (0 : Int32) := fun z => by have := (nI_eq (a := N) (b := 0) (by omega) (by omega)).mp z; omega
  have r2 := j266 h (did2 h hT hg)
  have r3 := j266 h (did3 h hT hg)
  have r4 := j266 h (did4 h hT (c := 1 + m5) (by omega) (by omega))
  have r5 := j266 h (did5 h hT hg)
  have r6 := j266 h (did6 h hT hg11)
  have r7 := j266 h (did7 h hT (c := m10) (by omega))
  have r1 := j266 h (did1 h hT hg (c := m7) (by omega))
  have r9 := j266 h (did9 h hT (s := m1b) (by omega))
  have r10 := j266 h (did10 h hT (s := m1b) (by omega))
  have t2 : J_K_does_92 p2 (stV D) (nI N) v = (F_K_call__ v (nI 2) (nI (m % N))).bind (fun u1 => (J_K_does_266 (stV D) u1.1 u1.2)) := by
    unfold J_K_does_92
    rw [em, eg]
    exact if_pos hNz
  have t3 : J_K_does_110 p2 (stV D) (nI N) v = (F_K_call__ v (nI 3) (nI (m % N))).bind (fun u1 => (J_K_does_266 (stV D) u1.1 u1.2)) := by
    unfold J_K_does_110
    rw [em, eg]
    exact if_pos hNz
  have t4 : J_K_does_128 p2 (stV D) v = (F_K_call__ v (nI 4) (nI (1 + m5))).bind (fun u1 => (J_K_does_266 (stV D) u1.1 u1.2)) := by
    unfold J_K_does_128
    rw [em5, show (1 : Int32) + nI m5 = nI (1 + m5) from nI_add 1 m5]
    rfl
  have t6 : J_K_does_162 p2 (stV D) v = (F_K_call__ v (nI 6) (nI (m % 11))).bind (fun u1 => (J_K_does_266 (stV D) u1.1 u1.2)) := by
    unfold J_K_does_162
    rw [em, e11]
    rfl
  have t9 : J_K_does_235 p2 (stV D) 9 v = (F_K_call__ v (nI 9) (nI m1b)).bind (fun u1 => (J_K_does_266 (stV D) u1.1 u1.2)) := by
    unfold J_K_does_235
    rw [em1]
    rfl
  have t10 : J_K_does_235 p2 (stV D) 10 v = (F_K_call__ v (nI 10) (nI m1b)).bind (fun u1 => (J_K_does_266 (stV D) u1.1 u1.2)) := by
    unfold J_K_does_235
    rw [em1]
    rfl
  rw [← t2] at r2
  rw [← t3] at r3
  rw [← t4] at r4
  rw [← t6] at r6
  rw [← t9] at r9
  rw [← t10] at r10
  have r8 : ∃ v2 D2 n2 Hs2, (F_K_call__ v 8 0).bind (fun u6 => if u6.1 = (-104) then (some (0, u6.2)) else (some (1, u6.2))) = some ((1 : Int32), v2) ∧ S8 (T + 1) v2 D2 n2 Hs2 := by
    by_cases z : n = 0
    · exact ⟨v, D, n, Hs, by rw [show F_K_call__ v 8 0 = some (kS, v) from mu8f h z, q_sb]; exact if_neg (show ¬ kS = -104 by decide), h.mono hT⟩
    · obtain ⟨v2, e2, h2, _⟩ := mu8 (xa := 0) h (by omega)
      obtain ⟨q, hn8, _⟩ := h.2.1
      refine ⟨v2, _, _, _, ?_, h2.mono hT⟩
      rw [show F_K_call__ v 8 0 = some (nI (n - 1), v2) from e2, q_sb]
      refine if_neg fun w => ?_
      have := congrArg Int32.toInt w
      rw [show ((nI (n - 1), v2) : Int32 × KV).1 = nI (n - 1) from rfl, nI_toInt (by omega), show (-104 : Int32).toInt = -104 by decide] at this
      omega
  unfold F_K_does
  rw [state_of h.1.1, q_sb]
  dsimp only
  rw [g_guestCount h.1.1, q_sb, hNe]
  by_cases c0 : (p1 &&& 15) = 0
  · rw [if_pos c0]
    exact r2
  rw [if_neg c0]
  by_cases c1 : (p1 &&& 15) = 1
  · rw [if_pos c1]
    exact r2
  rw [if_neg c1]
  by_cases c2 : (p1 &&& 15) = 2
  · rw [if_pos c2]
    exact r2
  rw [if_neg c2]
  by_cases c3 : (p1 &&& 15) = 3
  · rw [if_pos c3]
    exact r3
  rw [if_neg c3]
  by_cases c4 : (p1 &&& 15) = 4
  · rw [if_pos c4]
    exact r3
  rw [if_neg c4]
  by_cases c5 : (p1 &&& 15) = 5
  · rw [if_pos c5]
    exact r4
  rw [if_neg c5]
  by_cases c6 : (p1 &&& 15) = 6
  · rw [if_pos c6]
    exact r4
  rw [if_neg c6]
  by_cases c7 : (p1 &&& 15) = 7
  · rw [if_pos c7]
    exact r4
  rw [if_neg c7]
  by_cases c8 : (p1 &&& 15) = 8
  · rw [if_pos c8]
    exact r4
  rw [if_neg c8]
  by_cases c9 : (p1 &&& 15) = 9
  · rw [if_pos c9]
    rw [em, eg, q_cnP hNz]
    exact r5
  rw [if_neg c9]
  by_cases c10 : (p1 &&& 15) = 10
  · rw [if_pos c10]
    exact r6
  rw [if_neg c10]
  by_cases c11 : (p1 &&& 15) = 11
  · rw [if_pos c11]
    exact r6
  rw [if_neg c11]
  by_cases c12 : (p1 &&& 15) = 12
  · rw [if_pos c12]
    rw [em10]
    exact r7
  rw [if_neg c12]
  by_cases c13 : (p1 &&& 15) = 13
  · rw [if_pos c13]
    rw [em, eg, em7, q_cnP hNz]
    exact r1
  rw [if_neg c13]
  by_cases c14 : (p1 &&& 15) = 14
  · rw [if_pos c14]
    by_cases cz : (p2 &&& 1) = 0
    · rw [if_pos cz]; exact r9
    · rw [if_neg cz]; exact r10
  rw [if_neg c14]
  exact r8
end
