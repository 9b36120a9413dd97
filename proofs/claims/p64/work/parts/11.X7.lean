def F_X7_stands (vU : Nat → Nat → Int32) (x1 : Int32) : Option (Int32) := ck x1 12 ((some (if (vU 3 (Int32.toNatClampNeg x1)) = (-1) then 1 else 0)))
abbrev rm_X7_stands : Room := { frames := 0, cells := 0, slots := 0, locals := 0 }
set_option maxHeartbeats 4000000 in
set_option maxRecDepth 100000 in
theorem c_X7_stands (E : Ev) (l : Launch) (aU : Nat → Nat) (vU : Nat → Nat → Int32) (x1 : Int32) (r : Int32) (hf : F_X7_stands vU x1 = some r) : CM E l yX7_stands (.code yX7_stands cX7_stands 2 (some .boolean) :: GA) rm_X7_stands [.ref (aU 0), .int x1] (W_U E aU vU) (some (.int r)) (W_U E aU vU) := by
  refine CM.of (own := RX7) rfl (by decide) (Nat.le_of_ble_eq_true rfl) ?_
  intro p e s m below meth c A ls hx hb hr hml hown hg hlocks hK hE hA hP hD hS hl
  have hl : lv_has ls 2 [(0, .ref (aU 0)), (1, .int x1)] := hl
  unfold F_X7_stands at hf
  refine lv_aload_n hx hb dX7_stands_0 rfl (lv_at hl 0 rfl) ?_
  refine gf_X7_22 hx hb hg hown hK hP 0 rfl rfl dX7_stands_1 ?_
  refine lv_iload_n hx hb dX7_stands_4 rfl (lv_at hl 1 rfl) ?_
  obtain ⟨hi, hf⟩ := ck_o hf
  refine ar_ld hx hb hK hP 3 rfl hi dX7_stands_5 ?_
  refine lv_iconst (v := (-1)) hx hb dX7_stands_6 (by decide) ?_
  refine wj (F0 m 15 ls [.int (if (vU 3 (Int32.toNatClampNeg x1)) = (-1) then 1 else 0)]) ?_ (fun jk => ?_)
  rotate_left
  · refine lv_icmp_ne (tgt := 14) hx hb dX7_stands_7 (by decide) (fun cq => ?_) (fun cq => ?_)
    · rw [if_neg cq] at jk
      refine lv_iconst (v := 0) hx hb dX7_stands_14 (by decide) ?_
      exact jk
    · rw [if_pos cq] at jk
      refine lv_iconst (v := 1) hx hb dX7_stands_10 (by decide) ?_
      refine lv_goto (tgt := 15) hx hb dX7_stands_11 (by decide) ?_
      exact jk
  obtain rfl := Option.some.inj hf
  exact cm_zret (v := (if (vU 3 (Int32.toNatClampNeg x1)) = (-1) then 1 else 0)) hx hb hr hlocks hP hS (by split <;> rfl) dX7_stands_15
def F_X7_canBeTaken (vU : Nat → Nat → Int32) (x1 : Int32) : Option (Int32) := (F_X7_stands vU x1).bind (fun u1 => (if u1 = 0 then (some 0) else ck x1 12 ((if 50 < (vU 2 (Int32.toNatClampNeg x1)) then (some 0) else (some 1)))))
abbrev rm_X7_canBeTaken : Room := { frames := 1, cells := 0, slots := 0, locals := 21 }
set_option maxHeartbeats 4000000 in
set_option maxRecDepth 100000 in
theorem c_X7_canBeTaken (E : Ev) (l : Launch) (aU : Nat → Nat) (vU : Nat → Nat → Int32) (x1 : Int32) (r : Int32) (hf : F_X7_canBeTaken vU x1 = some r) : CM E l yX7_canBeTaken (.code yX7_canBeTaken cX7_canBeTaken 2 (some .boolean) :: GA) rm_X7_canBeTaken [.ref (aU 0), .int x1] (W_U E aU vU) (some (.int r)) (W_U E aU vU) := by
  refine CM.of (own := RX7) rfl (by decide) (Nat.le_of_ble_eq_true rfl) ?_
  intro p e s m below meth c A ls hx hb hr hml hown hg hlocks hK hE hA hP hD hS hl
  have hl : lv_has ls 2 [(0, .ref (aU 0)), (1, .int x1)] := hl
  unfold F_X7_canBeTaken at hf
  refine lv_aload_n hx hb dX7_canBeTaken_0 rfl (lv_at hl 0 rfl) ?_
  refine lv_iload_n hx hb dX7_canBeTaken_1 rfl (lv_at hl 1 rfl) ?_
  obtain ⟨u1, hu1, hf⟩ := bn hf
  refine cm_V (As := [.int x1]) (rest := []) (w2 := (W_U E aU vU)) hx hb hml hown hg (c_X7_stands E l aU vU x1 u1 hu1) cy_X7_stands ml_X7_25 ⟨⟨rfl, rfl⟩, Nat.le_of_ble_eq_true rfl, Nat.le_of_ble_eq_true rfl⟩ hK hE hP hD hS hA [true, true, true, true] rfl rfl rfl 0 rfl rfl rfl hl.1 rfl (Nat.le_of_ble_eq_true rfl) dX7_canBeTaken_2 ⟨Nat.le_of_ble_eq_true rfl, Nat.le_of_ble_eq_true rfl⟩ [.int u1] rfl (fun H locs hP hD hS => ?_)
  refine lv_if_eq (tgt := 23) hx hb dX7_canBeTaken_5 (by decide) (fun cq => ?_) (fun cq => ?_)
  · have hf := it cq hf
    refine lv_iconst (v := 0) hx hb dX7_canBeTaken_23 (by decide) ?_
    obtain rfl := Option.some.inj hf
    exact cm_zret (v := 0) hx hb hr hlocks hP hS rfl dX7_canBeTaken_24
  · have hf := ie cq hf
    refine lv_aload_n hx hb dX7_canBeTaken_8 rfl (lv_at hl 0 rfl) ?_
    refine gf_X7_19 hx hb hg hown hK hP 0 rfl rfl dX7_canBeTaken_9 ?_
    refine lv_iload_n hx hb dX7_canBeTaken_12 rfl (lv_at hl 1 rfl) ?_
    obtain ⟨hi, hf⟩ := ck_o hf
    refine ar_ld hx hb hK hP 2 rfl hi dX7_canBeTaken_13 ?_
    refine lv_bipush (v := 50) hx hb dX7_canBeTaken_14 (by decide) ?_
    refine lv_icmp_gt (tgt := 23) hx hb dX7_canBeTaken_16 (by decide) (fun cq => ?_) (fun cq => ?_)
    · have hf := it cq hf
      refine lv_iconst (v := 0) hx hb dX7_canBeTaken_23 (by decide) ?_
      obtain rfl := Option.some.inj hf
      exact cm_zret (v := 0) hx hb hr hlocks hP hS rfl dX7_canBeTaken_24
    · have hf := ie cq hf
      refine lv_iconst (v := 1) hx hb dX7_canBeTaken_19 (by decide) ?_
      refine lv_goto (tgt := 24) hx hb dX7_canBeTaken_20 (by decide) ?_
      obtain rfl := Option.some.inj hf
      exact cm_zret (v := 1) hx hb hr hlocks hP hS rfl dX7_canBeTaken_24
def B_X7_carriedBy_2 (rec : Int32 → Option (Int32)) (vU : Nat → Nat → Int32) (x1 : Int32) (x2 : Int32) : Option (Int32) := (if (vU 0 0) ≤ x2 then (some (-1)) else ck x2 12 ((if (vU 3 (Int32.toNatClampNeg x2)) = x1 then (some x2) else (rec (x2 + 1)))))
def L_X7_carriedBy_2 (vU : Nat → Nat → Int32) (x1 : Int32) : Nat → Int32 → Option (Int32)
  | 0 => fun _ => none
  | n + 1 => fun x2 => B_X7_carriedBy_2 (L_X7_carriedBy_2 vU x1 n) vU x1 x2
def F_X7_carriedBy (vU : Nat → Nat → Int32) (x1 : Int32) : Option (Int32) := (L_X7_carriedBy_2 vU x1 FU 0)
abbrev rm_X7_carriedBy : Room := { frames := 0, cells := 0, slots := 0, locals := 0 }
set_option maxHeartbeats 4000000 in
set_option maxRecDepth 100000 in
theorem c_X7_carriedBy (E : Ev) (l : Launch) (aU : Nat → Nat) (vU : Nat → Nat → Int32) (x1 : Int32) (r : Int32) (hf : F_X7_carriedBy vU x1 = some r) : CM E l yX7_carriedBy (.code yX7_carriedBy cX7_carriedBy 3 (some .int) :: GA) rm_X7_carriedBy [.ref (aU 0), .int x1] (W_U E aU vU) (some (.int r)) (W_U E aU vU) := by
  refine CM.of (own := RX7) rfl (by decide) (Nat.le_of_ble_eq_true rfl) ?_
  intro p e s m below meth c A ls hx hb hr hml hown hg hlocks hK hE hA hP hD hS hl
  have hl : lv_has ls 3 [(0, .ref (aU 0)), (1, .int x1)] := hl
  have lp_2 : ∀ (n : Nat) (x2 : Int32) (H : Heap) (locs : List Loc) (ls : Array Slot), L_X7_carriedBy_2 vU x1 n x2 = some r → va_P E.1 vwCl (W_U E aU vU) H → va_D A (W_U E aU vU) → va_S A s.heap H locs → lv_has ls 3 [(0, .ref (aU 0)), (1, .int x1), (2, .int x2)] → W p l e rm_X7_carriedBy s m ([.ref (aU 0), .int x1] : List Value).toArray below meth c H locs 0 0 (MQ below (QW E (some (.int r)) (W_U E aU vU) A) ([.ref (aU 0), .int x1] : List Value).toArray s 0 0 A) (F0 m 2 ls []) := by
    intro n
    induction n with
    | zero => intro x2 H locs ls hf; cases hf
    | succ n ih =>
      intro x2 H locs ls hf hP hD hS hl
      replace hf : B_X7_carriedBy_2 (L_X7_carriedBy_2 vU x1 n) vU x1 x2 = some r := hf
      unfold B_X7_carriedBy_2 at hf
      refine lv_iload_n hx hb dX7_carriedBy_2 rfl (lv_at hl 2 rfl) ?_
      refine lv_aload_n hx hb dX7_carriedBy_3 rfl (lv_at hl 0 rfl) ?_
      refine gf_X7_9 hx hb hg hown hK hP 0 rfl rfl dX7_carriedBy_4 ?_
      refine lv_icmp_ge (tgt := 28) hx hb dX7_carriedBy_7 (by decide) (fun cq => ?_) (fun cq => ?_)
      · have hf := it cq hf
        refine lv_iconst (v := (-1)) hx hb dX7_carriedBy_28 (by decide) ?_
        obtain rfl := Option.some.inj hf
        exact cm_iret hx hb hr hlocks hP hS dX7_carriedBy_29
      · have hf := ie cq hf
        refine lv_aload_n hx hb dX7_carriedBy_10 rfl (lv_at hl 0 rfl) ?_
        refine gf_X7_22 hx hb hg hown hK hP 0 rfl rfl dX7_carriedBy_11 ?_
        refine lv_iload_n hx hb dX7_carriedBy_14 rfl (lv_at hl 2 rfl) ?_
        obtain ⟨hi, hf⟩ := ck_o hf
        refine ar_ld hx hb hK hP 3 rfl hi dX7_carriedBy_15 ?_
        refine lv_iload_n hx hb dX7_carriedBy_16 rfl (lv_at hl 1 rfl) ?_
        refine lv_icmp_ne (tgt := 22) hx hb dX7_carriedBy_17 (by decide) (fun cq => ?_) (fun cq => ?_)
        · have hf := ie cq hf
          refine lv_iinc (v := (x2 + 1)) (lv' := [(2, .int (x2 + 1)), (0, .ref (aU 0)), (1, .int x1)]) hx hb dX7_carriedBy_22 hl (k := 2) rfl rfl (by decide) rfl (fun ls hl => ?_)
          refine lv_goto (tgt := 2) hx hb dX7_carriedBy_25 (by decide) ?_
          exact ih _ _ _ _ hf hP hD hS (lv_sub hl [1, 2, 0] rfl)
        · have hf := it cq hf
          refine lv_iload_n hx hb dX7_carriedBy_20 rfl (lv_at hl 2 rfl) ?_
          obtain rfl := Option.some.inj hf
          exact cm_iret hx hb hr hlocks hP hS dX7_carriedBy_21
  unfold F_X7_carriedBy at hf
  refine lv_iconst (v := 0) hx hb dX7_carriedBy_0 (by decide) ?_
  refine lv_istore_n (lv' := [(2, .int 0), (0, .ref (aU 0)), (1, .int x1)]) hx hb dX7_carriedBy_1 rfl hl (by decide) rfl (fun ls hl => ?_)
  exact lp_2 FU _ _ _ _ hf hP hD hS (lv_sub hl [1, 2, 0] rfl)
def B_X7_countInStand_4 (rec : Int32 → Int32 → Option (Int32)) (vU : Nat → Nat → Int32) (x1 : Int32) (x2 : Int32) : Option (Int32) := (if (vU 0 0) ≤ x2 then (some x1) else (F_X7_stands vU x2).bind (fun u1 => (if u1 = 0 then (rec x1 (x2 + 1)) else (rec (x1 + 1) (x2 + 1)))))
def L_X7_countInStand_4 (vU : Nat → Nat → Int32) : Nat → Int32 → Int32 → Option (Int32)
  | 0 => fun _ _ => none
  | n + 1 => fun x1 x2 => B_X7_countInStand_4 (L_X7_countInStand_4 vU n) vU x1 x2
def F_X7_countInStand (vU : Nat → Nat → Int32) : Option (Int32) := (L_X7_countInStand_4 vU FU 0 0)
abbrev rm_X7_countInStand : Room := { frames := 1, cells := 0, slots := 0, locals := 21 }
set_option maxHeartbeats 4000000 in
set_option maxRecDepth 100000 in
theorem c_X7_countInStand (E : Ev) (l : Launch) (aU : Nat → Nat) (vU : Nat → Nat → Int32) (r : Int32) (hf : F_X7_countInStand vU = some r) : CM E l yX7_countInStand (.code yX7_countInStand cX7_countInStand 3 (some .int) :: GA) rm_X7_countInStand [.ref (aU 0)] (W_U E aU vU) (some (.int r)) (W_U E aU vU) := by
  refine CM.of (own := RX7) rfl (by decide) (Nat.le_of_ble_eq_true rfl) ?_
  intro p e s m below meth c A ls hx hb hr hml hown hg hlocks hK hE hA hP hD hS hl
  have hl : lv_has ls 3 [(0, .ref (aU 0))] := hl
  have lp_4 : ∀ (n : Nat) (x1 : Int32) (x2 : Int32) (H : Heap) (locs : List Loc) (ls : Array Slot), L_X7_countInStand_4 vU n x1 x2 = some r → va_P E.1 vwCl (W_U E aU vU) H → va_D A (W_U E aU vU) → va_S A s.heap H locs → lv_has ls 3 [(0, .ref (aU 0)), (1, .int x1), (2, .int x2)] → W p l e rm_X7_countInStand s m ([.ref (aU 0)] : List Value).toArray below meth c H locs 0 0 (MQ below (QW E (some (.int r)) (W_U E aU vU) A) ([.ref (aU 0)] : List Value).toArray s 0 0 A) (F0 m 4 ls []) := by
    intro n
    induction n with
    | zero => intro x1 x2 H locs ls hf; cases hf
    | succ n ih =>
      intro x1 x2 H locs ls hf hP hD hS hl
      replace hf : B_X7_countInStand_4 (L_X7_countInStand_4 vU n) vU x1 x2 = some r := hf
      unfold B_X7_countInStand_4 at hf
      refine lv_iload_n hx hb dX7_countInStand_4 rfl (lv_at hl 2 rfl) ?_
      refine lv_aload_n hx hb dX7_countInStand_5 rfl (lv_at hl 0 rfl) ?_
      refine gf_X7_9 hx hb hg hown hK hP 0 rfl rfl dX7_countInStand_6 ?_
      refine lv_icmp_ge (tgt := 29) hx hb dX7_countInStand_9 (by decide) (fun cq => ?_) (fun cq => ?_)
      · have hf := it cq hf
        refine lv_iload_n hx hb dX7_countInStand_29 rfl (lv_at hl 1 rfl) ?_
        obtain rfl := Option.some.inj hf
        exact cm_iret hx hb hr hlocks hP hS dX7_countInStand_30
      · have hf := ie cq hf
        refine lv_aload_n hx hb dX7_countInStand_12 rfl (lv_at hl 0 rfl) ?_
        refine lv_iload_n hx hb dX7_countInStand_13 rfl (lv_at hl 2 rfl) ?_
        obtain ⟨u1, hu1, hf⟩ := bn hf
        refine cm_V (As := [.int x2]) (rest := []) (w2 := (W_U E aU vU)) hx hb hml hown hg (c_X7_stands E l aU vU x2 u1 hu1) cy_X7_stands ml_X7_25 ⟨⟨rfl, rfl⟩, Nat.le_of_ble_eq_true rfl, Nat.le_of_ble_eq_true rfl⟩ hK hE hP hD hS hA [true, true, true, true] rfl rfl rfl 0 rfl rfl rfl hl.1 rfl (Nat.le_of_ble_eq_true rfl) dX7_countInStand_14 ⟨Nat.le_of_ble_eq_true rfl, Nat.le_of_ble_eq_true rfl⟩ [.int u1] rfl (fun H locs hP hD hS => ?_)
        refine lv_if_eq (tgt := 23) hx hb dX7_countInStand_17 (by decide) (fun cq => ?_) (fun cq => ?_)
        · have hf := it cq hf
          refine lv_iinc (v := (x2 + 1)) (lv' := [(2, .int (x2 + 1)), (0, .ref (aU 0)), (1, .int x1)]) hx hb dX7_countInStand_23 hl (k := 2) rfl rfl (by decide) rfl (fun ls hl => ?_)
          refine lv_goto (tgt := 4) hx hb dX7_countInStand_26 (by decide) ?_
          exact ih _ _ _ _ _ hf hP hD hS (lv_sub hl [1, 2, 0] rfl)
        · have hf := ie cq hf
          refine lv_iinc (v := (x1 + 1)) (lv' := [(1, .int (x1 + 1)), (0, .ref (aU 0)), (2, .int x2)]) hx hb dX7_countInStand_20 hl (k := 1) rfl rfl (by decide) rfl (fun ls hl => ?_)
          refine lv_iinc (v := (x2 + 1)) (lv' := [(2, .int (x2 + 1)), (1, .int (x1 + 1)), (0, .ref (aU 0))]) hx hb dX7_countInStand_23 hl (k := 2) rfl rfl (by decide) rfl (fun ls hl => ?_)
          refine lv_goto (tgt := 4) hx hb dX7_countInStand_26 (by decide) ?_
          exact ih _ _ _ _ _ hf hP hD hS (lv_sub hl [2, 1, 0] rfl)
  unfold F_X7_countInStand at hf
  refine lv_iconst (v := 0) hx hb dX7_countInStand_0 (by decide) ?_
  refine lv_istore_n (lv' := [(1, .int 0), (0, .ref (aU 0))]) hx hb dX7_countInStand_1 rfl hl (by decide) rfl (fun ls hl => ?_)
  refine lv_iconst (v := 0) hx hb dX7_countInStand_2 (by decide) ?_
  refine lv_istore_n (lv' := [(2, .int 0), (1, .int 0), (0, .ref (aU 0))]) hx hb dX7_countInStand_3 rfl hl (by decide) rfl (fun ls hl => ?_)
  exact lp_4 FU _ _ _ _ _ hf hP hD hS (lv_sub hl [2, 1, 0] rfl)
def B_X7_countBorrowed_4 (rec : Int32 → Int32 → Option (Int32)) (vU : Nat → Nat → Int32) (x1 : Int32) (x2 : Int32) : Option (Int32) := (if (vU 0 0) ≤ x2 then (some x1) else (F_X7_stands vU x2).bind (fun u1 => (if u1 = 0 then ck x2 12 (ck x2 12 ((if (vU 3 (Int32.toNatClampNeg x2)) = (vU 1 (Int32.toNatClampNeg x2)) then (rec x1 (x2 + 1)) else (rec (x1 + 1) (x2 + 1))))) else (rec x1 (x2 + 1)))))
def L_X7_countBorrowed_4 (vU : Nat → Nat → Int32) : Nat → Int32 → Int32 → Option (Int32)
  | 0 => fun _ _ => none
  | n + 1 => fun x1 x2 => B_X7_countBorrowed_4 (L_X7_countBorrowed_4 vU n) vU x1 x2
def F_X7_countBorrowed (vU : Nat → Nat → Int32) : Option (Int32) := (L_X7_countBorrowed_4 vU FU 0 0)
abbrev rm_X7_countBorrowed : Room := { frames := 1, cells := 0, slots := 0, locals := 21 }
set_option maxHeartbeats 4000000 in
set_option maxRecDepth 100000 in
theorem c_X7_countBorrowed (E : Ev) (l : Launch) (aU : Nat → Nat) (vU : Nat → Nat → Int32) (r : Int32) (hf : F_X7_countBorrowed vU = some r) : CM E l yX7_countBorrowed (.code yX7_countBorrowed cX7_countBorrowed 3 (some .int) :: GA) rm_X7_countBorrowed [.ref (aU 0)] (W_U E aU vU) (some (.int r)) (W_U E aU vU) := by
  refine CM.of (own := RX7) rfl (by decide) (Nat.le_of_ble_eq_true rfl) ?_
  intro p e s m below meth c A ls hx hb hr hml hown hg hlocks hK hE hA hP hD hS hl
  have hl : lv_has ls 3 [(0, .ref (aU 0))] := hl
  have lp_4 : ∀ (n : Nat) (x1 : Int32) (x2 : Int32) (H : Heap) (locs : List Loc) (ls : Array Slot), L_X7_countBorrowed_4 vU n x1 x2 = some r → va_P E.1 vwCl (W_U E aU vU) H → va_D A (W_U E aU vU) → va_S A s.heap H locs → lv_has ls 3 [(0, .ref (aU 0)), (1, .int x1), (2, .int x2)] → W p l e rm_X7_countBorrowed s m ([.ref (aU 0)] : List Value).toArray below meth c H locs 0 0 (MQ below (QW E (some (.int r)) (W_U E aU vU) A) ([.ref (aU 0)] : List Value).toArray s 0 0 A) (F0 m 4 ls []) := by
    intro n
    induction n with
    | zero => intro x1 x2 H locs ls hf; cases hf
    | succ n ih =>
      intro x1 x2 H locs ls hf hP hD hS hl
      replace hf : B_X7_countBorrowed_4 (L_X7_countBorrowed_4 vU n) vU x1 x2 = some r := hf
      unfold B_X7_countBorrowed_4 at hf
      refine lv_iload_n hx hb dX7_countBorrowed_4 rfl (lv_at hl 2 rfl) ?_
      refine lv_aload_n hx hb dX7_countBorrowed_5 rfl (lv_at hl 0 rfl) ?_
      refine gf_X7_9 hx hb hg hown hK hP 0 rfl rfl dX7_countBorrowed_6 ?_
      refine lv_icmp_ge (tgt := 44) hx hb dX7_countBorrowed_9 (by decide) (fun cq => ?_) (fun cq => ?_)
      · have hf := it cq hf
        refine lv_iload_n hx hb dX7_countBorrowed_44 rfl (lv_at hl 1 rfl) ?_
        obtain rfl := Option.some.inj hf
        exact cm_iret hx hb hr hlocks hP hS dX7_countBorrowed_45
      · have hf := ie cq hf
        refine lv_aload_n hx hb dX7_countBorrowed_12 rfl (lv_at hl 0 rfl) ?_
        refine lv_iload_n hx hb dX7_countBorrowed_13 rfl (lv_at hl 2 rfl) ?_
        obtain ⟨u1, hu1, hf⟩ := bn hf
        refine cm_V (As := [.int x2]) (rest := []) (w2 := (W_U E aU vU)) hx hb hml hown hg (c_X7_stands E l aU vU x2 u1 hu1) cy_X7_stands ml_X7_25 ⟨⟨rfl, rfl⟩, Nat.le_of_ble_eq_true rfl, Nat.le_of_ble_eq_true rfl⟩ hK hE hP hD hS hA [true, true, true, true] rfl rfl rfl 0 rfl rfl rfl hl.1 rfl (Nat.le_of_ble_eq_true rfl) dX7_countBorrowed_14 ⟨Nat.le_of_ble_eq_true rfl, Nat.le_of_ble_eq_true rfl⟩ [.int u1] rfl (fun H locs hP hD hS => ?_)
        refine lv_if_ne (tgt := 38) hx hb dX7_countBorrowed_17 (by decide) (fun cq => ?_) (fun cq => ?_)
        · have hf := ie cq hf
          refine lv_iinc (v := (x2 + 1)) (lv' := [(2, .int (x2 + 1)), (0, .ref (aU 0)), (1, .int x1)]) hx hb dX7_countBorrowed_38 hl (k := 2) rfl rfl (by decide) rfl (fun ls hl => ?_)
          refine lv_goto (tgt := 4) hx hb dX7_countBorrowed_41 (by decide) ?_
          exact ih _ _ _ _ _ hf hP hD hS (lv_sub hl [1, 2, 0] rfl)
        · have hf := it cq hf
          refine lv_aload_n hx hb dX7_countBorrowed_20 rfl (lv_at hl 0 rfl) ?_
          refine gf_X7_22 hx hb hg hown hK hP 0 rfl rfl dX7_countBorrowed_21 ?_
          refine lv_iload_n hx hb dX7_countBorrowed_24 rfl (lv_at hl 2 rfl) ?_
          obtain ⟨hi, hf⟩ := ck_o hf
          refine ar_ld hx hb hK hP 3 rfl hi dX7_countBorrowed_25 ?_
          refine lv_aload_n hx hb dX7_countBorrowed_26 rfl (lv_at hl 0 rfl) ?_
          refine gf_X7_15 hx hb hg hown hK hP 0 rfl rfl dX7_countBorrowed_27 ?_
          refine lv_iload_n hx hb dX7_countBorrowed_30 rfl (lv_at hl 2 rfl) ?_
          obtain ⟨hi, hf⟩ := ck_o hf
          refine ar_ld hx hb hK hP 1 rfl hi dX7_countBorrowed_31 ?_
          refine lv_icmp_eq (tgt := 38) hx hb dX7_countBorrowed_32 (by decide) (fun cq => ?_) (fun cq => ?_)
          · have hf := it cq hf
            refine lv_iinc (v := (x2 + 1)) (lv' := [(2, .int (x2 + 1)), (0, .ref (aU 0)), (1, .int x1)]) hx hb dX7_countBorrowed_38 hl (k := 2) rfl rfl (by decide) rfl (fun ls hl => ?_)
            refine lv_goto (tgt := 4) hx hb dX7_countBorrowed_41 (by decide) ?_
            exact ih _ _ _ _ _ hf hP hD hS (lv_sub hl [1, 2, 0] rfl)
          · have hf := ie cq hf
            refine lv_iinc (v := (x1 + 1)) (lv' := [(1, .int (x1 + 1)), (0, .ref (aU 0)), (2, .int x2)]) hx hb dX7_countBorrowed_35 hl (k := 1) rfl rfl (by decide) rfl (fun ls hl => ?_)
            refine lv_iinc (v := (x2 + 1)) (lv' := [(2, .int (x2 + 1)), (1, .int (x1 + 1)), (0, .ref (aU 0))]) hx hb dX7_countBorrowed_38 hl (k := 2) rfl rfl (by decide) rfl (fun ls hl => ?_)
            refine lv_goto (tgt := 4) hx hb dX7_countBorrowed_41 (by decide) ?_
            exact ih _ _ _ _ _ hf hP hD hS (lv_sub hl [2, 1, 0] rfl)
  unfold F_X7_countBorrowed at hf
  refine lv_iconst (v := 0) hx hb dX7_countBorrowed_0 (by decide) ?_
  refine lv_istore_n (lv' := [(1, .int 0), (0, .ref (aU 0))]) hx hb dX7_countBorrowed_1 rfl hl (by decide) rfl (fun ls hl => ?_)
  refine lv_iconst (v := 0) hx hb dX7_countBorrowed_2 (by decide) ?_
  refine lv_istore_n (lv' := [(2, .int 0), (1, .int 0), (0, .ref (aU 0))]) hx hb dX7_countBorrowed_3 rfl hl (by decide) rfl (fun ls hl => ?_)
  exact lp_4 FU _ _ _ _ _ hf hP hD hS (lv_sub hl [2, 1, 0] rfl)
def B_X7_firstOwnUsable_2 (rec : Int32 → Option (Int32)) (vU : Nat → Nat → Int32) (x1 : Int32) (x2 : Int32) : Option (Int32) := (if (vU 0 0) ≤ x2 then (some (-1)) else ck x2 12 ((if (vU 1 (Int32.toNatClampNeg x2)) = x1 then (F_X7_canBeTaken vU x2).bind (fun u1 => (if u1 = 0 then (rec (x2 + 1)) else (some x2))) else (rec (x2 + 1)))))
def L_X7_firstOwnUsable_2 (vU : Nat → Nat → Int32) (x1 : Int32) : Nat → Int32 → Option (Int32)
  | 0 => fun _ => none
  | n + 1 => fun x2 => B_X7_firstOwnUsable_2 (L_X7_firstOwnUsable_2 vU x1 n) vU x1 x2
def F_X7_firstOwnUsable (vU : Nat → Nat → Int32) (x1 : Int32) : Option (Int32) := (L_X7_firstOwnUsable_2 vU x1 FU 0)
abbrev rm_X7_firstOwnUsable : Room := { frames := 2, cells := 0, slots := 0, locals := 42 }
set_option maxHeartbeats 4000000 in
set_option maxRecDepth 100000 in
theorem c_X7_firstOwnUsable (E : Ev) (l : Launch) (aU : Nat → Nat) (vU : Nat → Nat → Int32) (x1 : Int32) (r : Int32) (hf : F_X7_firstOwnUsable vU x1 = some r) : CM E l yX7_firstOwnUsable (.code yX7_firstOwnUsable cX7_firstOwnUsable 3 (some .int) :: GA) rm_X7_firstOwnUsable [.ref (aU 0), .int x1] (W_U E aU vU) (some (.int r)) (W_U E aU vU) := by
  refine CM.of (own := RX7) rfl (by decide) (Nat.le_of_ble_eq_true rfl) ?_
  intro p e s m below meth c A ls hx hb hr hml hown hg hlocks hK hE hA hP hD hS hl
  have hl : lv_has ls 3 [(0, .ref (aU 0)), (1, .int x1)] := hl
  have lp_2 : ∀ (n : Nat) (x2 : Int32) (H : Heap) (locs : List Loc) (ls : Array Slot), L_X7_firstOwnUsable_2 vU x1 n x2 = some r → va_P E.1 vwCl (W_U E aU vU) H → va_D A (W_U E aU vU) → va_S A s.heap H locs → lv_has ls 3 [(0, .ref (aU 0)), (1, .int x1), (2, .int x2)] → W p l e rm_X7_firstOwnUsable s m ([.ref (aU 0), .int x1] : List Value).toArray below meth c H locs 0 0 (MQ below (QW E (some (.int r)) (W_U E aU vU) A) ([.ref (aU 0), .int x1] : List Value).toArray s 0 0 A) (F0 m 2 ls []) := by
    intro n
    induction n with
    | zero => intro x2 H locs ls hf; cases hf
    | succ n ih =>
      intro x2 H locs ls hf hP hD hS hl
      replace hf : B_X7_firstOwnUsable_2 (L_X7_firstOwnUsable_2 vU x1 n) vU x1 x2 = some r := hf
      unfold B_X7_firstOwnUsable_2 at hf
      refine lv_iload_n hx hb dX7_firstOwnUsable_2 rfl (lv_at hl 2 rfl) ?_
      refine lv_aload_n hx hb dX7_firstOwnUsable_3 rfl (lv_at hl 0 rfl) ?_
      refine gf_X7_9 hx hb hg hown hK hP 0 rfl rfl dX7_firstOwnUsable_4 ?_
      refine lv_icmp_ge (tgt := 36) hx hb dX7_firstOwnUsable_7 (by decide) (fun cq => ?_) (fun cq => ?_)
      · have hf := it cq hf
        refine lv_iconst (v := (-1)) hx hb dX7_firstOwnUsable_36 (by decide) ?_
        obtain rfl := Option.some.inj hf
        exact cm_iret hx hb hr hlocks hP hS dX7_firstOwnUsable_37
      · have hf := ie cq hf
        refine lv_aload_n hx hb dX7_firstOwnUsable_10 rfl (lv_at hl 0 rfl) ?_
        refine gf_X7_15 hx hb hg hown hK hP 0 rfl rfl dX7_firstOwnUsable_11 ?_
        refine lv_iload_n hx hb dX7_firstOwnUsable_14 rfl (lv_at hl 2 rfl) ?_
        obtain ⟨hi, hf⟩ := ck_o hf
        refine ar_ld hx hb hK hP 1 rfl hi dX7_firstOwnUsable_15 ?_
        refine lv_iload_n hx hb dX7_firstOwnUsable_16 rfl (lv_at hl 1 rfl) ?_
        refine lv_icmp_ne (tgt := 30) hx hb dX7_firstOwnUsable_17 (by decide) (fun cq => ?_) (fun cq => ?_)
        · have hf := ie cq hf
          refine lv_iinc (v := (x2 + 1)) (lv' := [(2, .int (x2 + 1)), (0, .ref (aU 0)), (1, .int x1)]) hx hb dX7_firstOwnUsable_30 hl (k := 2) rfl rfl (by decide) rfl (fun ls hl => ?_)
          refine lv_goto (tgt := 2) hx hb dX7_firstOwnUsable_33 (by decide) ?_
          exact ih _ _ _ _ hf hP hD hS (lv_sub hl [1, 2, 0] rfl)
        · have hf := it cq hf
          refine lv_aload_n hx hb dX7_firstOwnUsable_20 rfl (lv_at hl 0 rfl) ?_
          refine lv_iload_n hx hb dX7_firstOwnUsable_21 rfl (lv_at hl 2 rfl) ?_
          obtain ⟨u1, hu1, hf⟩ := bn hf
          refine cm_V (As := [.int x2]) (rest := []) (w2 := (W_U E aU vU)) hx hb hml hown hg (c_X7_canBeTaken E l aU vU x2 u1 hu1) cy_X7_canBeTaken ml_X7_29 ⟨⟨rfl, rfl⟩, Nat.le_of_ble_eq_true rfl, Nat.le_of_ble_eq_true rfl⟩ hK hE hP hD hS hA [true, true, true, true] rfl rfl rfl 0 rfl rfl rfl hl.1 rfl (Nat.le_of_ble_eq_true rfl) dX7_firstOwnUsable_22 ⟨Nat.le_of_ble_eq_true rfl, Nat.le_of_ble_eq_true rfl⟩ [.int u1] rfl (fun H locs hP hD hS => ?_)
          refine lv_if_eq (tgt := 30) hx hb dX7_firstOwnUsable_25 (by decide) (fun cq => ?_) (fun cq => ?_)
          · have hf := it cq hf
            refine lv_iinc (v := (x2 + 1)) (lv' := [(2, .int (x2 + 1)), (0, .ref (aU 0)), (1, .int x1)]) hx hb dX7_firstOwnUsable_30 hl (k := 2) rfl rfl (by decide) rfl (fun ls hl => ?_)
            refine lv_goto (tgt := 2) hx hb dX7_firstOwnUsable_33 (by decide) ?_
            exact ih _ _ _ _ hf hP hD hS (lv_sub hl [1, 2, 0] rfl)
          · have hf := ie cq hf
            refine lv_iload_n hx hb dX7_firstOwnUsable_28 rfl (lv_at hl 2 rfl) ?_
            obtain rfl := Option.some.inj hf
            exact cm_iret hx hb hr hlocks hP hS dX7_firstOwnUsable_29
  unfold F_X7_firstOwnUsable at hf
  refine lv_iconst (v := 0) hx hb dX7_firstOwnUsable_0 (by decide) ?_
  refine lv_istore_n (lv' := [(2, .int 0), (0, .ref (aU 0)), (1, .int x1)]) hx hb dX7_firstOwnUsable_1 rfl hl (by decide) rfl (fun ls hl => ?_)
  exact lp_2 FU _ _ _ _ hf hP hD hS (lv_sub hl [1, 2, 0] rfl)
def B_X7_driestUsable_7 (rec : Int32 → Int32 → Int32 → Option (Int32)) (vU : Nat → Nat → Int32) (x1 : Int32) (x2 : Int32) (x3 : Int32) : Option (Int32) := (if (vU 0 0) ≤ x3 then (some x1) else (F_X7_canBeTaken vU x3).bind (fun u1 => (if u1 = 0 then (rec x1 x2 (x3 + 1)) else ck x3 12 ((if x2 ≤ (vU 2 (Int32.toNatClampNeg x3)) then (rec x1 x2 (x3 + 1)) else ck x3 12 ((rec x3 (vU 2 (Int32.toNatClampNeg x3)) (x3 + 1))))))))
def L_X7_driestUsable_7 (vU : Nat → Nat → Int32) : Nat → Int32 → Int32 → Int32 → Option (Int32)
  | 0 => fun _ _ _ => none
  | n + 1 => fun x1 x2 x3 => B_X7_driestUsable_7 (L_X7_driestUsable_7 vU n) vU x1 x2 x3
def F_X7_driestUsable (vU : Nat → Nat → Int32) : Option (Int32) := (L_X7_driestUsable_7 vU FU (-1) 100 0)
abbrev rm_X7_driestUsable : Room := { frames := 2, cells := 0, slots := 0, locals := 42 }
set_option maxHeartbeats 4000000 in
set_option maxRecDepth 100000 in
theorem c_X7_driestUsable (E : Ev) (l : Launch) (aU : Nat → Nat) (vU : Nat → Nat → Int32) (r : Int32) (hf : F_X7_driestUsable vU = some r) : CM E l yX7_driestUsable (.code yX7_driestUsable cX7_driestUsable 4 (some .int) :: GA) rm_X7_driestUsable [.ref (aU 0)] (W_U E aU vU) (some (.int r)) (W_U E aU vU) := by
  refine CM.of (own := RX7) rfl (by decide) (Nat.le_of_ble_eq_true rfl) ?_
  intro p e s m below meth c A ls hx hb hr hml hown hg hlocks hK hE hA hP hD hS hl
  have hl : lv_has ls 4 [(0, .ref (aU 0))] := hl
  have lp_7 : ∀ (n : Nat) (x1 : Int32) (x2 : Int32) (x3 : Int32) (H : Heap) (locs : List Loc) (ls : Array Slot), L_X7_driestUsable_7 vU n x1 x2 x3 = some r → va_P E.1 vwCl (W_U E aU vU) H → va_D A (W_U E aU vU) → va_S A s.heap H locs → lv_has ls 4 [(0, .ref (aU 0)), (1, .int x1), (2, .int x2), (3, .int x3)] → W p l e rm_X7_driestUsable s m ([.ref (aU 0)] : List Value).toArray below meth c H locs 0 0 (MQ below (QW E (some (.int r)) (W_U E aU vU) A) ([.ref (aU 0)] : List Value).toArray s 0 0 A) (F0 m 7 ls []) := by
    intro n
    induction n with
    | zero => intro x1 x2 x3 H locs ls hf; cases hf
    | succ n ih =>
      intro x1 x2 x3 H locs ls hf hP hD hS hl
      replace hf : B_X7_driestUsable_7 (L_X7_driestUsable_7 vU n) vU x1 x2 x3 = some r := hf
      unfold B_X7_driestUsable_7 at hf
      refine lv_iload_n hx hb dX7_driestUsable_7 rfl (lv_at hl 3 rfl) ?_
      refine lv_aload_n hx hb dX7_driestUsable_8 rfl (lv_at hl 0 rfl) ?_
      refine gf_X7_9 hx hb hg hown hK hP 0 rfl rfl dX7_driestUsable_9 ?_
      refine lv_icmp_ge (tgt := 48) hx hb dX7_driestUsable_12 (by decide) (fun cq => ?_) (fun cq => ?_)
      · have hf := it cq hf
        refine lv_iload_n hx hb dX7_driestUsable_48 rfl (lv_at hl 1 rfl) ?_
        obtain rfl := Option.some.inj hf
        exact cm_iret hx hb hr hlocks hP hS dX7_driestUsable_49
      · have hf := ie cq hf
        refine lv_aload_n hx hb dX7_driestUsable_15 rfl (lv_at hl 0 rfl) ?_
        refine lv_iload_n hx hb dX7_driestUsable_16 rfl (lv_at hl 3 rfl) ?_
        obtain ⟨u1, hu1, hf⟩ := bn hf
        refine cm_V (As := [.int x3]) (rest := []) (w2 := (W_U E aU vU)) hx hb hml hown hg (c_X7_canBeTaken E l aU vU x3 u1 hu1) cy_X7_canBeTaken ml_X7_29 ⟨⟨rfl, rfl⟩, Nat.le_of_ble_eq_true rfl, Nat.le_of_ble_eq_true rfl⟩ hK hE hP hD hS hA [true, true, true, true] rfl rfl rfl 0 rfl rfl rfl hl.1 rfl (Nat.le_of_ble_eq_true rfl) dX7_driestUsable_17 ⟨Nat.le_of_ble_eq_true rfl, Nat.le_of_ble_eq_true rfl⟩ [.int u1] rfl (fun H locs hP hD hS => ?_)
        refine lv_if_eq (tgt := 42) hx hb dX7_driestUsable_20 (by decide) (fun cq => ?_) (fun cq => ?_)
        · have hf := it cq hf
          refine lv_iinc (v := (x3 + 1)) (lv' := [(3, .int (x3 + 1)), (0, .ref (aU 0)), (1, .int x1), (2, .int x2)]) hx hb dX7_driestUsable_42 hl (k := 3) rfl rfl (by decide) rfl (fun ls hl => ?_)
          refine lv_goto (tgt := 7) hx hb dX7_driestUsable_45 (by decide) ?_
          exact ih _ _ _ _ _ _ hf hP hD hS (lv_sub hl [1, 2, 3, 0] rfl)
        · have hf := ie cq hf
          refine lv_aload_n hx hb dX7_driestUsable_23 rfl (lv_at hl 0 rfl) ?_
          refine gf_X7_19 hx hb hg hown hK hP 0 rfl rfl dX7_driestUsable_24 ?_
          refine lv_iload_n hx hb dX7_driestUsable_27 rfl (lv_at hl 3 rfl) ?_
          obtain ⟨hi, hf⟩ := ck_o hf
          refine ar_ld hx hb hK hP 2 rfl hi dX7_driestUsable_28 ?_
          refine lv_iload_n hx hb dX7_driestUsable_29 rfl (lv_at hl 2 rfl) ?_
          refine lv_icmp_ge (tgt := 42) hx hb dX7_driestUsable_30 (by decide) (fun cq => ?_) (fun cq => ?_)
          · have hf := it cq hf
            refine lv_iinc (v := (x3 + 1)) (lv' := [(3, .int (x3 + 1)), (0, .ref (aU 0)), (1, .int x1), (2, .int x2)]) hx hb dX7_driestUsable_42 hl (k := 3) rfl rfl (by decide) rfl (fun ls hl => ?_)
            refine lv_goto (tgt := 7) hx hb dX7_driestUsable_45 (by decide) ?_
            exact ih _ _ _ _ _ _ hf hP hD hS (lv_sub hl [1, 2, 3, 0] rfl)
          · have hf := ie cq hf
            refine lv_iload_n hx hb dX7_driestUsable_33 rfl (lv_at hl 3 rfl) ?_
            refine lv_istore_n (lv' := [(1, .int x3), (0, .ref (aU 0)), (2, .int x2), (3, .int x3)]) hx hb dX7_driestUsable_34 rfl hl (by decide) rfl (fun ls hl => ?_)
            refine lv_aload_n hx hb dX7_driestUsable_35 rfl (lv_at hl 1 rfl) ?_
            refine gf_X7_19 hx hb hg hown hK hP 0 rfl rfl dX7_driestUsable_36 ?_
            refine lv_iload_n hx hb dX7_driestUsable_39 rfl (lv_at hl 3 rfl) ?_
            obtain ⟨hi, hf⟩ := ck_o hf
            refine ar_ld hx hb hK hP 2 rfl hi dX7_driestUsable_40 ?_
            refine lv_istore_n (lv' := [(2, .int (vU 2 (Int32.toNatClampNeg x3))), (1, .int x3), (0, .ref (aU 0)), (3, .int x3)]) hx hb dX7_driestUsable_41 rfl hl (by decide) rfl (fun ls hl => ?_)
            refine lv_iinc (v := (x3 + 1)) (lv' := [(3, .int (x3 + 1)), (2, .int (vU 2 (Int32.toNatClampNeg x3))), (1, .int x3), (0, .ref (aU 0))]) hx hb dX7_driestUsable_42 hl (k := 3) rfl rfl (by decide) rfl (fun ls hl => ?_)
            refine lv_goto (tgt := 7) hx hb dX7_driestUsable_45 (by decide) ?_
            exact ih _ _ _ _ _ _ hf hP hD hS (lv_sub hl [3, 2, 1, 0] rfl)
  unfold F_X7_driestUsable at hf
  refine lv_iconst (v := (-1)) hx hb dX7_driestUsable_0 (by decide) ?_
  refine lv_istore_n (lv' := [(1, .int (-1)), (0, .ref (aU 0))]) hx hb dX7_driestUsable_1 rfl hl (by decide) rfl (fun ls hl => ?_)
  refine lv_bipush (v := 100) hx hb dX7_driestUsable_2 (by decide) ?_
  refine lv_istore_n (lv' := [(2, .int 100), (1, .int (-1)), (0, .ref (aU 0))]) hx hb dX7_driestUsable_4 rfl hl (by decide) rfl (fun ls hl => ?_)
  refine lv_iconst (v := 0) hx hb dX7_driestUsable_5 (by decide) ?_
  refine lv_istore_n (lv' := [(3, .int 0), (2, .int 100), (1, .int (-1)), (0, .ref (aU 0))]) hx hb dX7_driestUsable_6 rfl hl (by decide) rfl (fun ls hl => ?_)
  exact lp_7 FU _ _ _ _ _ _ hf hP hD hS (lv_sub hl [3, 2, 1, 0] rfl)
def B_X7_passOneIn_4 (rec : Int32 → Int32 → (Nat → Nat → Int32) → Option (Int32 × (Nat → Nat → Int32))) (x1 : Int32) (x2 : Int32) (x3 : Int32) (vU : Nat → Nat → Int32) : Option (Int32 × (Nat → Nat → Int32)) := (if (vU 0 0) ≤ x3 then (some (x2, vU)) else (F_X7_stands vU x3).bind (fun u1 => (if u1 = 0 then ck x3 12 (ck x3 12 (lt (va_up vU 2 (upd (vU 2) (Int32.toNatClampNeg x3) (if ((vU 2 (Int32.toNatClampNeg x3)) + x1) < 99 then ((vU 2 (Int32.toNatClampNeg x3)) + x1) else 99))) (fun vU_8 => (rec x2 (x3 + 1) vU_8)))) else ck x3 12 ((if (vU 2 (Int32.toNatClampNeg x3)) ≤ 0 then (rec x2 (x3 + 1) vU) else ck x3 12 (ck x3 12 (lt (va_up vU 2 (upd (vU 2) (Int32.toNatClampNeg x3) ((vU 2 (Int32.toNatClampNeg x3)) - 1))) (fun vU_7 => (rec (x2 + 1) (x3 + 1) vU_7)))))))))
def L_X7_passOneIn_4 (x1 : Int32) : Nat → Int32 → Int32 → (Nat → Nat → Int32) → Option (Int32 × (Nat → Nat → Int32))
  | 0 => fun _ _ _ => none
  | n + 1 => fun x2 x3 vU => B_X7_passOneIn_4 (L_X7_passOneIn_4 x1 n) x1 x2 x3 vU
def F_X7_passOneIn (vU : Nat → Nat → Int32) (x1 : Int32) : Option (Int32 × (Nat → Nat → Int32)) := (L_X7_passOneIn_4 x1 FU 0 0 vU)
abbrev rm_X7_passOneIn : Room := { frames := 1, cells := 0, slots := 0, locals := 21 }
set_option maxHeartbeats 4000000 in
set_option maxRecDepth 100000 in
theorem c_X7_passOneIn (E : Ev) (l : Launch) (aU : Nat → Nat) (vU : Nat → Nat → Int32) (x1 : Int32) (r : Int32 × (Nat → Nat → Int32)) (hf : F_X7_passOneIn vU x1 = some r) : CM E l yX7_passOneIn (.code yX7_passOneIn cX7_passOneIn 4 (some .int) :: GA) rm_X7_passOneIn [.ref (aU 0), .int x1] (W_U E aU vU) (some (.int r.1)) (W_U E aU r.2) := by
  refine CM.of (own := RX7) rfl (by decide) (Nat.le_of_ble_eq_true rfl) ?_
  intro p e s m below meth c A ls hx hb hr hml hown hg hlocks hK hE hA hP hD hS hl
  have hl : lv_has ls 4 [(0, .ref (aU 0)), (1, .int x1)] := hl
  have lp_4 : ∀ (n : Nat) (x2 : Int32) (x3 : Int32) (vU : Nat → Nat → Int32) (H : Heap) (locs : List Loc) (ls : Array Slot), L_X7_passOneIn_4 x1 n x2 x3 vU = some r → va_P E.1 vwCl (W_U E aU vU) H → va_D A (W_U E aU vU) → va_S A s.heap H locs → lv_has ls 4 [(0, .ref (aU 0)), (1, .int x1), (2, .int x2), (3, .int x3)] → W p l e rm_X7_passOneIn s m ([.ref (aU 0), .int x1] : List Value).toArray below meth c H locs 0 0 (MQ below (QW E (some (.int r.1)) (W_U E aU r.2) A) ([.ref (aU 0), .int x1] : List Value).toArray s 0 0 A) (F0 m 4 ls []) := by
    intro n
    induction n with
    | zero => intro x2 x3 vU H locs ls hf; cases hf
    | succ n ih =>
      intro x2 x3 vU H locs ls hf hP hD hS hl
      replace hf : B_X7_passOneIn_4 (L_X7_passOneIn_4 x1 n) x1 x2 x3 vU = some r := hf
      unfold B_X7_passOneIn_4 at hf
      refine lv_iload_n hx hb dX7_passOneIn_4 rfl (lv_at hl 3 rfl) ?_
      refine lv_aload_n hx hb dX7_passOneIn_5 rfl (lv_at hl 0 rfl) ?_
      refine gf_X7_9 hx hb hg hown hK hP 0 rfl rfl dX7_passOneIn_6 ?_
      refine lv_icmp_ge (tgt := 70) hx hb dX7_passOneIn_9 (by decide) (fun cq => ?_) (fun cq => ?_)
      · have hf := it cq hf
        refine lv_iload_n hx hb dX7_passOneIn_70 rfl (lv_at hl 2 rfl) ?_
        obtain rfl := Option.some.inj hf
        exact cm_iret hx hb hr hlocks hP hS dX7_passOneIn_71
      · have hf := ie cq hf
        refine lv_aload_n hx hb dX7_passOneIn_12 rfl (lv_at hl 0 rfl) ?_
        refine lv_iload_n hx hb dX7_passOneIn_13 rfl (lv_at hl 3 rfl) ?_
        obtain ⟨u1, hu1, hf⟩ := bn hf
        refine cm_V (As := [.int x3]) (rest := []) (w2 := (W_U E aU vU)) hx hb hml hown hg (c_X7_stands E l aU vU x3 u1 hu1) cy_X7_stands ml_X7_25 ⟨⟨rfl, rfl⟩, Nat.le_of_ble_eq_true rfl, Nat.le_of_ble_eq_true rfl⟩ hK hE hP hD hS hA [true, true, true, true] rfl rfl rfl 0 rfl rfl rfl hl.1 rfl (Nat.le_of_ble_eq_true rfl) dX7_passOneIn_14 ⟨Nat.le_of_ble_eq_true rfl, Nat.le_of_ble_eq_true rfl⟩ [.int u1] rfl (fun H locs hP hD hS => ?_)
        refine lv_if_ne (tgt := 42) hx hb dX7_passOneIn_17 (by decide) (fun cq => ?_) (fun cq => ?_)
        · have hf := ie cq hf
          refine lv_aload_n hx hb dX7_passOneIn_42 rfl (lv_at hl 0 rfl) ?_
          refine gf_X7_19 hx hb hg hown hK hP 0 rfl rfl dX7_passOneIn_43 ?_
          refine lv_iload_n hx hb dX7_passOneIn_46 rfl (lv_at hl 3 rfl) ?_
          obtain ⟨hi, hf⟩ := ck_o hf
          refine ar_ld hx hb hK hP 2 rfl hi dX7_passOneIn_47 ?_
          refine lv_if_le (tgt := 64) hx hb dX7_passOneIn_48 (by decide) (fun cq => ?_) (fun cq => ?_)
          · have hf := it cq hf
            refine lv_iinc (v := (x3 + 1)) (lv' := [(3, .int (x3 + 1)), (0, .ref (aU 0)), (1, .int x1), (2, .int x2)]) hx hb dX7_passOneIn_64 hl (k := 3) rfl rfl (by decide) rfl (fun ls hl => ?_)
            refine lv_goto (tgt := 4) hx hb dX7_passOneIn_67 (by decide) ?_
            exact ih _ _ _ _ _ _ hf hP hD hS (lv_sub hl [1, 2, 3, 0] rfl)
          · have hf := ie cq hf
            refine lv_aload_n hx hb dX7_passOneIn_51 rfl (lv_at hl 0 rfl) ?_
            refine gf_X7_19 hx hb hg hown hK hP 0 rfl rfl dX7_passOneIn_52 ?_
            refine lv_iload_n hx hb dX7_passOneIn_55 rfl (lv_at hl 3 rfl) ?_
            refine lv_dup2_11 hx hb dX7_passOneIn_56 rfl rfl ?_
            obtain ⟨hi, hf⟩ := ck_o hf
            refine ar_ld hx hb hK hP 2 rfl hi dX7_passOneIn_57 ?_
            refine lv_iconst (v := 1) hx hb dX7_passOneIn_58 (by decide) ?_
            refine lv_isub hx hb dX7_passOneIn_59 ?_
            obtain ⟨hi, hf⟩ := ck_o hf
            refine ar_st (w2 := (W_U E aU (va_up vU 2 (upd (vU 2) (Int32.toNatClampNeg x3) ((vU 2 (Int32.toNatClampNeg x3)) - 1))))) hx hb hK hP hD hS 2 rfl hi rfl dX7_passOneIn_60 (fun H locs hP hD hS => ?_)
            obtain ⟨vU_7, hv, hf⟩ := lt_o hf
            rw [← hv] at hP hD
            clear hv
            refine lv_iinc (v := (x2 + 1)) (lv' := [(2, .int (x2 + 1)), (0, .ref (aU 0)), (1, .int x1), (3, .int x3)]) hx hb dX7_passOneIn_61 hl (k := 2) rfl rfl (by decide) rfl (fun ls hl => ?_)
            refine lv_iinc (v := (x3 + 1)) (lv' := [(3, .int (x3 + 1)), (2, .int (x2 + 1)), (0, .ref (aU 0)), (1, .int x1)]) hx hb dX7_passOneIn_64 hl (k := 3) rfl rfl (by decide) rfl (fun ls hl => ?_)
            refine lv_goto (tgt := 4) hx hb dX7_passOneIn_67 (by decide) ?_
            exact ih _ _ _ _ _ _ hf hP hD hS (lv_sub hl [2, 3, 1, 0] rfl)
        · have hf := it cq hf
          refine lv_aload_n hx hb dX7_passOneIn_20 rfl (lv_at hl 0 rfl) ?_
          refine gf_X7_19 hx hb hg hown hK hP 0 rfl rfl dX7_passOneIn_21 ?_
          refine lv_iload_n hx hb dX7_passOneIn_24 rfl (lv_at hl 3 rfl) ?_
          refine lv_bipush (v := 99) hx hb dX7_passOneIn_25 (by decide) ?_
          refine lv_aload_n hx hb dX7_passOneIn_27 rfl (lv_at hl 0 rfl) ?_
          refine gf_X7_19 hx hb hg hown hK hP 0 rfl rfl dX7_passOneIn_28 ?_
          refine lv_iload_n hx hb dX7_passOneIn_31 rfl (lv_at hl 3 rfl) ?_
          obtain ⟨hi, hf⟩ := ck_o hf
          refine ar_ld hx hb hK hP 2 rfl hi dX7_passOneIn_32 ?_
          refine lv_iload_n hx hb dX7_passOneIn_33 rfl (lv_at hl 1 rfl) ?_
          refine lv_iadd hx hb dX7_passOneIn_34 ?_
          refine cm_min hx hb hml hl.1 hown hg ml_X7_32 (Nat.le_of_ble_eq_true rfl) (Nat.le_of_ble_eq_true rfl) ⟨Nat.le_of_ble_eq_true rfl, Nat.le_of_ble_eq_true rfl⟩ dX7_passOneIn_35 ?_
          obtain ⟨hi, hf⟩ := ck_o hf
          refine ar_st (w2 := (W_U E aU (va_up vU 2 (upd (vU 2) (Int32.toNatClampNeg x3) (if ((vU 2 (Int32.toNatClampNeg x3)) + x1) < 99 then ((vU 2 (Int32.toNatClampNeg x3)) + x1) else 99))))) hx hb hK hP hD hS 2 rfl hi rfl dX7_passOneIn_38 (fun H locs hP hD hS => ?_)
          obtain ⟨vU_8, hv, hf⟩ := lt_o hf
          rw [← hv] at hP hD
          clear hv
          refine lv_goto (tgt := 64) hx hb dX7_passOneIn_39 (by decide) ?_
          refine lv_iinc (v := (x3 + 1)) (lv' := [(3, .int (x3 + 1)), (0, .ref (aU 0)), (1, .int x1), (2, .int x2)]) hx hb dX7_passOneIn_64 hl (k := 3) rfl rfl (by decide) rfl (fun ls hl => ?_)
          refine lv_goto (tgt := 4) hx hb dX7_passOneIn_67 (by decide) ?_
          exact ih _ _ _ _ _ _ hf hP hD hS (lv_sub hl [1, 2, 3, 0] rfl)
  unfold F_X7_passOneIn at hf
  refine lv_iconst (v := 0) hx hb dX7_passOneIn_0 (by decide) ?_
  refine lv_istore_n (lv' := [(2, .int 0), (0, .ref (aU 0)), (1, .int x1)]) hx hb dX7_passOneIn_1 rfl hl (by decide) rfl (fun ls hl => ?_)
  refine lv_iconst (v := 0) hx hb dX7_passOneIn_2 (by decide) ?_
  refine lv_istore_n (lv' := [(3, .int 0), (2, .int 0), (0, .ref (aU 0)), (1, .int x1)]) hx hb dX7_passOneIn_3 rfl hl (by decide) rfl (fun ls hl => ?_)
  exact lp_4 FU _ _ _ _ _ _ hf hP hD hS (lv_sub hl [2, 3, 1, 0] rfl)
def F_X7_add (vU : Nat → Nat → Int32) (x1 : Int32) (x2 : Int32) : Option (Int32 × (Nat → Nat → Int32)) := ck (vU 0 0) 12 (lt (va_up vU 1 (upd (vU 1) (Int32.toNatClampNeg (vU 0 0)) x1)) (fun vU_9 => ck (vU 0 0) 12 (lt (va_up vU_9 2 (upd (vU_9 2) (Int32.toNatClampNeg (vU 0 0)) x2)) (fun vU_10 => ck (vU 0 0) 12 (lt (va_up vU_10 3 (upd (vU_10 3) (Int32.toNatClampNeg (vU 0 0)) (-1))) (fun vU_11 => lt (va_up vU_11 0 (fun _ => ((vU_11 0 0) + 1))) (fun vU_12 => (some ((vU 0 0), vU_12)))))))))
abbrev rm_X7_add : Room := { frames := 0, cells := 0, slots := 0, locals := 0 }
set_option maxHeartbeats 4000000 in
set_option maxRecDepth 100000 in
theorem c_X7_add (E : Ev) (l : Launch) (aU : Nat → Nat) (vU : Nat → Nat → Int32) (x1 : Int32) (x2 : Int32) (r : Int32 × (Nat → Nat → Int32)) (hf : F_X7_add vU x1 x2 = some r) : CM E l yX7_add (.code yX7_add cX7_add 4 (some .int) :: GA) rm_X7_add [.ref (aU 0), .int x1, .int x2] (W_U E aU vU) (some (.int r.1)) (W_U E aU r.2) := by
  refine CM.of (own := RX7) rfl (by decide) (Nat.le_of_ble_eq_true rfl) ?_
  intro p e s m below meth c A ls hx hb hr hml hown hg hlocks hK hE hA hP hD hS hl
  have hl : lv_has ls 4 [(0, .ref (aU 0)), (1, .int x1), (2, .int x2)] := hl
  unfold F_X7_add at hf
  refine lv_aload_n hx hb dX7_add_0 rfl (lv_at hl 0 rfl) ?_
  refine gf_X7_9 hx hb hg hown hK hP 0 rfl rfl dX7_add_1 ?_
  refine lv_istore_n (lv' := [(3, .int (vU 0 0)), (0, .ref (aU 0)), (1, .int x1), (2, .int x2)]) hx hb dX7_add_4 rfl hl (by decide) rfl (fun ls hl => ?_)
  refine lv_aload_n hx hb dX7_add_5 rfl (lv_at hl 1 rfl) ?_
  refine gf_X7_15 hx hb hg hown hK hP 0 rfl rfl dX7_add_6 ?_
  refine lv_iload_n hx hb dX7_add_9 rfl (lv_at hl 0 rfl) ?_
  refine lv_iload_n hx hb dX7_add_10 rfl (lv_at hl 2 rfl) ?_
  obtain ⟨hi, hf⟩ := ck_o hf
  refine ar_st (w2 := (W_U E aU (va_up vU 1 (upd (vU 1) (Int32.toNatClampNeg (vU 0 0)) x1)))) hx hb hK hP hD hS 1 rfl hi rfl dX7_add_11 (fun H locs hP hD hS => ?_)
  obtain ⟨vU_9, hv, hf⟩ := lt_o hf
  rw [← hv] at hP hD
  clear hv
  refine lv_aload_n hx hb dX7_add_12 rfl (lv_at hl 1 rfl) ?_
  refine gf_X7_19 hx hb hg hown hK hP 0 rfl rfl dX7_add_13 ?_
  refine lv_iload_n hx hb dX7_add_16 rfl (lv_at hl 0 rfl) ?_
  refine lv_iload_n hx hb dX7_add_17 rfl (lv_at hl 3 rfl) ?_
  obtain ⟨hi, hf⟩ := ck_o hf
  refine ar_st (w2 := (W_U E aU (va_up vU_9 2 (upd (vU_9 2) (Int32.toNatClampNeg (vU 0 0)) x2)))) hx hb hK hP hD hS 2 rfl hi rfl dX7_add_18 (fun H locs hP hD hS => ?_)
  obtain ⟨vU_10, hv, hf⟩ := lt_o hf
  rw [← hv] at hP hD
  clear hv
  refine lv_aload_n hx hb dX7_add_19 rfl (lv_at hl 1 rfl) ?_
  refine gf_X7_22 hx hb hg hown hK hP 0 rfl rfl dX7_add_20 ?_
  refine lv_iload_n hx hb dX7_add_23 rfl (lv_at hl 0 rfl) ?_
  refine lv_iconst (v := (-1)) hx hb dX7_add_24 (by decide) ?_
  obtain ⟨hi, hf⟩ := ck_o hf
  refine ar_st (w2 := (W_U E aU (va_up vU_10 3 (upd (vU_10 3) (Int32.toNatClampNeg (vU 0 0)) (-1))))) hx hb hK hP hD hS 3 rfl hi rfl dX7_add_25 (fun H locs hP hD hS => ?_)
  obtain ⟨vU_11, hv, hf⟩ := lt_o hf
  rw [← hv] at hP hD
  clear hv
  refine lv_aload_n hx hb dX7_add_26 rfl (lv_at hl 1 rfl) ?_
  refine lv_dup hx hb dX7_add_27 rfl ?_
  refine gf_X7_9 hx hb hg hown hK hP 0 rfl rfl dX7_add_28 ?_
  refine lv_iconst (v := 1) hx hb dX7_add_31 (by decide) ?_
  refine lv_iadd hx hb dX7_add_32 ?_
  refine pf_X7_9 (w2 := (W_U E aU (va_up vU_11 0 (fun _ => ((vU_11 0 0) + 1))))) hx hb hg hown hK hP hD hS 0 rfl (Nat.le_of_ble_eq_true rfl) rfl dX7_add_33 (fun H locs hP hD hS => ?_)
  obtain ⟨vU_12, hv, hf⟩ := lt_o hf
  rw [← hv] at hP hD
  clear hv
  refine lv_iload_n hx hb dX7_add_36 rfl (lv_at hl 0 rfl) ?_
  obtain rfl := Option.some.inj hf
  exact cm_iret hx hb hr hlocks hP hS dX7_add_37
def F_X7_copyFrom (vU : Nat → Nat → Int32) (vU1 : Nat → Nat → Int32) : Option ((Nat → Nat → Int32)) := lt (va_up vU 0 (fun _ => (vU1 0 0))) (fun vU_9 => lt (va_up vU_9 1 (va_cpy (vU1 1) (vU_9 1) 0 0 12)) (fun vU_10 => lt (va_up vU_10 2 (va_cpy (vU1 2) (vU_10 2) 0 0 12)) (fun vU_11 => lt (va_up vU_11 3 (va_cpy (vU1 3) (vU_11 3) 0 0 12)) (fun vU_12 => (some vU_12)))))
abbrev rm_X7_copyFrom : Room := { frames := 1, cells := 0, slots := 0, locals := 60 }
set_option maxHeartbeats 4000000 in
set_option maxRecDepth 100000 in
theorem c_X7_copyFrom (E : Ev) (l : Launch) (aU : Nat → Nat) (aU1 : Nat → Nat) (vU : Nat → Nat → Int32) (vU1 : Nat → Nat → Int32) (r : (Nat → Nat → Int32)) (hf : F_X7_copyFrom vU vU1 = some r) : CM E l yX7_copyFrom (.code yX7_copyFrom cX7_copyFrom 2 none :: GA) rm_X7_copyFrom [.ref (aU 0), .ref (aU1 0)] (W_U E aU vU ++ (W_U E aU1 vU1)) none (W_U E aU r ++ (W_U E aU1 vU1)) := by
  refine CM.of (own := RX7) rfl (by decide) (Nat.le_of_ble_eq_true rfl) ?_
  intro p e s m below meth c A ls hx hb hr hml hown hg hlocks hK hE hA hP hD hS hl
  have hl : lv_has ls 2 [(0, .ref (aU 0)), (1, .ref (aU1 0))] := hl
  unfold F_X7_copyFrom at hf
  refine lv_aload_n hx hb dX7_copyFrom_0 rfl (lv_at hl 0 rfl) ?_
  refine lv_aload_n hx hb dX7_copyFrom_1 rfl (lv_at hl 1 rfl) ?_
  refine gf_X7_9 hx hb hg hown hK hP 4 rfl rfl dX7_copyFrom_2 ?_
  refine pf_X7_9 (w2 := (W_U E aU (va_up vU 0 (fun _ => (vU1 0 0))) ++ (W_U E aU1 vU1))) hx hb hg hown hK hP hD hS 0 rfl (Nat.le_of_ble_eq_true rfl) rfl dX7_copyFrom_5 (fun H locs hP hD hS => ?_)
  obtain ⟨vU_9, hv, hf⟩ := lt_o hf
  rw [← hv] at hP hD
  clear hv
  refine lv_aload_n hx hb dX7_copyFrom_8 rfl (lv_at hl 1 rfl) ?_
  refine gf_X7_15 hx hb hg hown hK hP 4 rfl rfl dX7_copyFrom_9 ?_
  refine lv_iconst (v := 0) hx hb dX7_copyFrom_12 (by decide) ?_
  refine lv_aload_n hx hb dX7_copyFrom_13 rfl (lv_at hl 0 rfl) ?_
  refine gf_X7_15 hx hb hg hown hK hP 0 rfl rfl dX7_copyFrom_14 ?_
  refine lv_iconst (v := 0) hx hb dX7_copyFrom_17 (by decide) ?_
  refine lv_bipush (v := 12) hx hb dX7_copyFrom_18 (by decide) ?_
  refine ar_cp (w2 := (W_U E aU (va_up vU_9 1 (va_cpy (vU1 1) (vU_9 1) 0 0 12)) ++ (W_U E aU1 vU1))) hx hb hml hl.1 hown hg ml_X7_38 hK hP hD hS 5 1 rfl rfl (by decide) (by decide) (by decide) (Nat.le_of_ble_eq_true rfl) (Nat.le_of_ble_eq_true rfl) (Nat.le_of_ble_eq_true rfl) (Nat.le_of_ble_eq_true rfl) rfl dX7_copyFrom_20 (fun H locs hP hD hS => ?_)
  obtain ⟨vU_10, hv, hf⟩ := lt_o hf
  rw [← hv] at hP hD
  clear hv
  refine lv_aload_n hx hb dX7_copyFrom_23 rfl (lv_at hl 1 rfl) ?_
  refine gf_X7_19 hx hb hg hown hK hP 4 rfl rfl dX7_copyFrom_24 ?_
  refine lv_iconst (v := 0) hx hb dX7_copyFrom_27 (by decide) ?_
  refine lv_aload_n hx hb dX7_copyFrom_28 rfl (lv_at hl 0 rfl) ?_
  refine gf_X7_19 hx hb hg hown hK hP 0 rfl rfl dX7_copyFrom_29 ?_
  refine lv_iconst (v := 0) hx hb dX7_copyFrom_32 (by decide) ?_
  refine lv_bipush (v := 12) hx hb dX7_copyFrom_33 (by decide) ?_
  refine ar_cp (w2 := (W_U E aU (va_up vU_10 2 (va_cpy (vU1 2) (vU_10 2) 0 0 12)) ++ (W_U E aU1 vU1))) hx hb hml hl.1 hown hg ml_X7_38 hK hP hD hS 6 2 rfl rfl (by decide) (by decide) (by decide) (Nat.le_of_ble_eq_true rfl) (Nat.le_of_ble_eq_true rfl) (Nat.le_of_ble_eq_true rfl) (Nat.le_of_ble_eq_true rfl) rfl dX7_copyFrom_35 (fun H locs hP hD hS => ?_)
  obtain ⟨vU_11, hv, hf⟩ := lt_o hf
  rw [← hv] at hP hD
  clear hv
  refine lv_aload_n hx hb dX7_copyFrom_38 rfl (lv_at hl 1 rfl) ?_
  refine gf_X7_22 hx hb hg hown hK hP 4 rfl rfl dX7_copyFrom_39 ?_
  refine lv_iconst (v := 0) hx hb dX7_copyFrom_42 (by decide) ?_
  refine lv_aload_n hx hb dX7_copyFrom_43 rfl (lv_at hl 0 rfl) ?_
  refine gf_X7_22 hx hb hg hown hK hP 0 rfl rfl dX7_copyFrom_44 ?_
  refine lv_iconst (v := 0) hx hb dX7_copyFrom_47 (by decide) ?_
  refine lv_bipush (v := 12) hx hb dX7_copyFrom_48 (by decide) ?_
  refine ar_cp (w2 := (W_U E aU (va_up vU_11 3 (va_cpy (vU1 3) (vU_11 3) 0 0 12)) ++ (W_U E aU1 vU1))) hx hb hml hl.1 hown hg ml_X7_38 hK hP hD hS 7 3 rfl rfl (by decide) (by decide) (by decide) (Nat.le_of_ble_eq_true rfl) (Nat.le_of_ble_eq_true rfl) (Nat.le_of_ble_eq_true rfl) (Nat.le_of_ble_eq_true rfl) rfl dX7_copyFrom_50 (fun H locs hP hD hS => ?_)
  obtain ⟨vU_12, hv, hf⟩ := lt_o hf
  rw [← hv] at hP hD
  clear hv
  obtain rfl := Option.some.inj hf
  exact cm_vret hx hb hr hlocks hP hS dX7_copyFrom_53
