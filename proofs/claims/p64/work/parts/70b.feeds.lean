/-! feeds() is true -/
def wA (c : Nat → Nat) : Nat → Nat → Int32
  | 0 => fun _ => 0
  | j + 1 => upd (wA c j) (j / 4) (wA c j (j / 4) ||| (nI (c j) <<< (nI (24 - 8 * (j % 4)) &&& 31)))
theorem wA_0 (c : Nat → Nat) : wA c 20 0 = wd4 (c 0) (c 1) (c 2) (c 3) := rfl
theorem wA_1 (c : Nat → Nat) : wA c 20 1 = wd4 (c 4) (c 5) (c 6) (c 7) := rfl
theorem wA_2 (c : Nat → Nat) : wA c 20 2 = wd4 (c 8) (c 9) (c 10) (c 11) := rfl
theorem wA_3 (c : Nat → Nat) : wA c 20 3 = wd4 (c 12) (c 13) (c 14) (c 15) := rfl
theorem wA_4 (c : Nat → Nat) : wA c 20 4 = wd4 (c 16) (c 17) (c 18) (c 19) := rfl
def padT (tS : Nat → Nat) (nS i : Nat) : Nat := if i < nS then tS i else 32
theorem padT_lt {tS : Nat → Nat} {nS : Nat} (ht : ∀ i, tS i < 256) (i : Nat) : padT tS nS i < 256 := by
  unfold padT
  split
  · exact ht i
  · omega
theorem setB_B (v : KV) (B C : Nat → Nat → Int32) : setB (setB v B) C = setB v C := rfl
section
variable {rec : Int32 → KV → Option (Int32 × KV)} {tS : Nat → Nat} {nS : Nat} {v : KV}
theorem fd55 {rec17 : Int32 → Int32 → (Nat → Int32) → KV → Option (Int32 × KV)} {a j b : Nat} {c : Nat → Nat} (hj : j < 20) (hb : c j = b) : J_K_feeds_55 rec rec17 tS nS (nI a) (nI j) (nI (j / 4)) (wA c j (j / 4)) (nI b) (wA c j) v = rec17 (nI a) (nI (j + 1)) (wA c (j + 1)) v := by
  subst hb
  have h1 := Nat.mod_lt j (show 0 < 4 by omega)
  have e1 : nI j - nI j / 4 * 4 = nI (j % 4) := q_mod (n := 4) (by omega) (by omega) (by omega)
  have e2 : (24 : Int32) - (8 * nI (j % 4)) = nI (24 - 8 * (j % 4)) := by
    rw [show (8 : Int32) = nI 8 from rfl, pk_mul, show (24 : Int32) = nI 24 from rfl, q_sub (by omega)]
  unfold J_K_feeds_55
  rw [q_ck (by omega) (by omega), q_cl (by omega), e1, e2, q_lt0, show nI j + 1 = nI (j + 1) from nI_add j 1]
  rfl
theorem fd17 {a : Nat} (ha : a ≤ 600) (hn : nS ≤ 300) : ∀ m j, j ≤ 20 → 20 - j < m → L_K_feeds_17 rec tS nS m (nI a) (nI j) (wA (fun i => padT tS nS (a + i)) j) v = (F_K_call v (nI 12) (wA (fun i => padT tS nS (a + i)) 20 0) (wA (fun i => padT tS nS (a + i)) 20 1) (wA (fun i => padT tS nS (a + i)) 20 2) (wA (fun i => padT tS nS (a + i)) 20 3) (wA (fun i => padT tS nS (a + i)) 20 4)).bind (fun u1 => (if u1.1 = (nI a + 20) then (rec (nI a + 20) u1.2) else (some (0, u1.2)))) := by
  intro m
  induction m with
  | zero => intro j _ h9; omega
  | succ m ih =>
    intro j hj hm
    show B_K_feeds_17 rec (L_K_feeds_17 rec tS nS m) tS nS (nI a) (nI j) _ v = _
    unfold B_K_feeds_17
    by_cases c : j = 20
    · subst c
      rw [if_pos (show (20 : Int32) ≤ nI 20 by decide)]
      rfl
    · rw [if_neg (show ¬ (20 : Int32) ≤ nI j by rw [show (20 : Int32) = nI 20 from rfl, q_le (by omega) (by omega)]; omega), show nI j / 4 = nI (j / 4) from q_div (d := 4) (by omega) (by omega) (by omega), q_ck (by omega) (by omega), q_cl (by omega), nI_add]
      rw [← ih (j + 1) (by omega) (by omega)]
      by_cases c2 : nS ≤ a + j
      · rw [if_pos (show nI nS ≤ nI (a + j) by rw [q_le (by omega) (by omega)]; exact c2)]
        exact fd55 (b := 32) (by omega) (if_neg (by omega))
      · rw [if_neg (show ¬ nI nS ≤ nI (a + j) by rw [q_le (by omega) (by omega)]; exact c2), q_ck (by omega) (by omega), q_cl (by omega)]
        exact fd55 (b := tS (a + j)) (by omega) (if_pos (by omega))
end
theorem fd2 {tS : Nat → Nat} {nS : Nat} (ht : ∀ i, tS i < 256) (hn : nS ≤ 300) : ∀ m k v, 20 * k ≤ nS + 19 → nS + 20 ≤ 20 * k + 20 * m → Buf (v.2.2.2.2.2.2.2.2.2.2.2.2.2.2.1) (padT tS nS) (20 * k) → ∃ B, L_K_feeds_2 tS nS m (nI (20 * k)) v = some (1, setB v B) ∧ Buf B tS nS := by
  intro m
  induction m with
  | zero => intro k v h1 h2; omega
  | succ m ih =>
    intro k v h1 h2 hB
    show ∃ B, B_K_feeds_2 (L_K_feeds_2 tS nS m) tS nS (nI (20 * k)) v = some (1, setB v B) ∧ Buf B tS nS
    unfold B_K_feeds_2
    by_cases c : nS ≤ 20 * k
    · obtain ⟨B, e, hb⟩ := shorten_of hB c (by omega)
      refine ⟨B, ?_, hb.1, fun i hi => (hb.2 i hi).trans (congrArg nI (if_pos hi))⟩
      rw [if_pos (show nI nS ≤ nI (20 * k) by rw [q_le (by omega) (by omega)]; exact c), show F_K_call__ v 13 (nI nS) = _ from e, q_sb]
      exact if_pos rfl
    · have hf := fd17 (rec := L_K_feeds_2 tS nS m) (tS := tS) (nS := nS) (v := v) (a := 20 * k) (by omega) hn 21 0 (by omega) (by omega)
      rw [wA_0, wA_1, wA_2, wA_3, wA_4] at hf
      obtain ⟨B1, e1, g1⟩ := feed_20 hB (by omega) (padT_lt ht)
      obtain ⟨B2, e2, g2⟩ := ih (k + 1) (setB v B1) (by omega) (by omega) g1
      refine ⟨B2, ?_, g2⟩
      rw [if_neg (show ¬ nI nS ≤ nI (20 * k) by rw [q_le (by omega) (by omega)]; exact c)]
      refine Eq.trans hf ?_
      refine bnd e1 ?_
      dsimp only
      rw [show nI (20 * k) + 20 = nI (20 * k + 20) from nI_add _ 20, if_pos rfl]
      exact e2
theorem feeds_of {v : KV} {tS : Nat → Nat} {nS : Nat} (hB : v.2.2.2.2.2.2.2.2.2.2.2.2.2.2.1 0 0 = nI 0) (ht : ∀ i, tS i < 256) (hn : nS ≤ 300) : ∃ B, F_K_feeds v tS nS = some (1, setB v B) ∧ Buf B tS nS := by
  obtain ⟨B, e, h⟩ := fd2 ht hn 16 0 v (by omega) (by omega) ⟨hB, fun i hi => absurd hi (Nat.not_lt_zero i)⟩
  exact ⟨B, e, h⟩
