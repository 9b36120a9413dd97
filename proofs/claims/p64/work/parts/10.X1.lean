def F_X1_letterOf (vG : Nat → Nat → Int32) (x1 : Int32) (x2 : Int32) : Option (Int32) := ck ((x1 * 5) + x2) 50 ((some (vG 1 (Int32.toNatClampNeg ((x1 * 5) + x2)))))
abbrev rm_X1_letterOf : Room := { frames := 0, cells := 0, slots := 0, locals := 0 }
set_option maxHeartbeats 4000000 in
set_option maxRecDepth 100000 in
theorem c_X1_letterOf (E : Ev) (l : Launch) (aG : Nat → Nat) (vG : Nat → Nat → Int32) (x1 : Int32) (x2 : Int32) (r : Int32) (hf : F_X1_letterOf vG x1 x2 = some r) : CM E l yX1_letterOf (.code yX1_letterOf cX1_letterOf 3 (some .int) :: GA) rm_X1_letterOf [.ref (aG 0), .int x1, .int x2] (W_G E aG vG) (some (.int r)) (W_G E aG vG) := by
  refine CM.of (own := RX1) rfl (by decide) (Nat.le_of_ble_eq_true rfl) ?_
  intro p e s m below meth c A ls hx hb hr hml hown hg hlocks hK hE hA hP hD hS hl
  have hl : lv_has ls 3 [(0, .ref (aG 0)), (1, .int x1), (2, .int x2)] := hl
  unfold F_X1_letterOf at hf
  refine lv_aload_n hx hb dX1_letterOf_0 rfl (lv_at hl 0 rfl) ?_
  refine gf_X1_15 hx hb hg hown hK hP 0 rfl rfl dX1_letterOf_1 ?_
  refine lv_iload_n hx hb dX1_letterOf_4 rfl (lv_at hl 1 rfl) ?_
  refine lv_iconst (v := 5) hx hb dX1_letterOf_5 (by decide) ?_
  refine lv_imul hx hb dX1_letterOf_6 ?_
  refine lv_iload_n hx hb dX1_letterOf_7 rfl (lv_at hl 2 rfl) ?_
  refine lv_iadd hx hb dX1_letterOf_8 ?_
  obtain ⟨hi, hf⟩ := ck_o hf
  refine ar_ld hx hb hK hP 1 rfl hi dX1_letterOf_9 ?_
  obtain rfl := Option.some.inj hf
  exact cm_iret hx hb hr hlocks hP hS dX1_letterOf_10
def F_X1_isAway (vG : Nat → Nat → Int32) (x1 : Int32) : Option (Int32) := ck x1 10 ((some (if (vG 5 (Int32.toNatClampNeg x1)) = (-1) then 0 else 1)))
abbrev rm_X1_isAway : Room := { frames := 0, cells := 0, slots := 0, locals := 0 }
set_option maxHeartbeats 4000000 in
set_option maxRecDepth 100000 in
theorem c_X1_isAway (E : Ev) (l : Launch) (aG : Nat → Nat) (vG : Nat → Nat → Int32) (x1 : Int32) (r : Int32) (hf : F_X1_isAway vG x1 = some r) : CM E l yX1_isAway (.code yX1_isAway cX1_isAway 2 (some .boolean) :: GA) rm_X1_isAway [.ref (aG 0), .int x1] (W_G E aG vG) (some (.int r)) (W_G E aG vG) := by
  refine CM.of (own := RX1) rfl (by decide) (Nat.le_of_ble_eq_true rfl) ?_
  intro p e s m below meth c A ls hx hb hr hml hown hg hlocks hK hE hA hP hD hS hl
  have hl : lv_has ls 2 [(0, .ref (aG 0)), (1, .int x1)] := hl
  unfold F_X1_isAway at hf
  refine lv_aload_n hx hb dX1_isAway_0 rfl (lv_at hl 0 rfl) ?_
  refine gf_X1_28 hx hb hg hown hK hP 0 rfl rfl dX1_isAway_1 ?_
  refine lv_iload_n hx hb dX1_isAway_4 rfl (lv_at hl 1 rfl) ?_
  obtain ⟨hi, hf⟩ := ck_o hf
  refine ar_ld hx hb hK hP 5 rfl hi dX1_isAway_5 ?_
  refine lv_iconst (v := (-1)) hx hb dX1_isAway_6 (by decide) ?_
  refine wj (F0 m 15 ls [.int (if (vG 5 (Int32.toNatClampNeg x1)) = (-1) then 0 else 1)]) ?_ (fun jk => ?_)
  rotate_left
  · refine lv_icmp_eq (tgt := 14) hx hb dX1_isAway_7 (by decide) (fun cq => ?_) (fun cq => ?_)
    · rw [if_pos cq] at jk
      refine lv_iconst (v := 0) hx hb dX1_isAway_14 (by decide) ?_
      exact jk
    · rw [if_neg cq] at jk
      refine lv_iconst (v := 1) hx hb dX1_isAway_10 (by decide) ?_
      refine lv_goto (tgt := 15) hx hb dX1_isAway_11 (by decide) ?_
      exact jk
  obtain rfl := Option.some.inj hf
  exact cm_zret (v := (if (vG 5 (Int32.toNatClampNeg x1)) = (-1) then 0 else 1)) hx hb hr hlocks hP hS (by split <;> rfl) dX1_isAway_15
def B_X1_countAway_4 (rec : Int32 → Int32 → Option (Int32)) (vG : Nat → Nat → Int32) (x1 : Int32) (x2 : Int32) : Option (Int32) := (if (vG 0 0) ≤ x2 then (some x1) else (F_X1_isAway vG x2).bind (fun u1 => (if u1 = 0 then (rec x1 (x2 + 1)) else (rec (x1 + 1) (x2 + 1)))))
def L_X1_countAway_4 (vG : Nat → Nat → Int32) : Nat → Int32 → Int32 → Option (Int32)
  | 0 => fun _ _ => none
  | n + 1 => fun x1 x2 => B_X1_countAway_4 (L_X1_countAway_4 vG n) vG x1 x2
def F_X1_countAway (vG : Nat → Nat → Int32) : Option (Int32) := (L_X1_countAway_4 vG FU 0 0)
abbrev rm_X1_countAway : Room := { frames := 1, cells := 0, slots := 0, locals := 21 }
set_option maxHeartbeats 4000000 in
set_option maxRecDepth 100000 in
theorem c_X1_countAway (E : Ev) (l : Launch) (aG : Nat → Nat) (vG : Nat → Nat → Int32) (r : Int32) (hf : F_X1_countAway vG = some r) : CM E l yX1_countAway (.code yX1_countAway cX1_countAway 3 (some .int) :: GA) rm_X1_countAway [.ref (aG 0)] (W_G E aG vG) (some (.int r)) (W_G E aG vG) := by
  refine CM.of (own := RX1) rfl (by decide) (Nat.le_of_ble_eq_true rfl) ?_
  intro p e s m below meth c A ls hx hb hr hml hown hg hlocks hK hE hA hP hD hS hl
  have hl : lv_has ls 3 [(0, .ref (aG 0))] := hl
  have lp_4 : ∀ (n : Nat) (x1 : Int32) (x2 : Int32) (H : Heap) (locs : List Loc) (ls : Array Slot), L_X1_countAway_4 vG n x1 x2 = some r → va_P E.1 vwCl (W_G E aG vG) H → va_D A (W_G E aG vG) → va_S A s.heap H locs → lv_has ls 3 [(0, .ref (aG 0)), (1, .int x1), (2, .int x2)] → W p l e rm_X1_countAway s m ([.ref (aG 0)] : List Value).toArray below meth c H locs 0 0 (MQ below (QW E (some (.int r)) (W_G E aG vG) A) ([.ref (aG 0)] : List Value).toArray s 0 0 A) (F0 m 4 ls []) := by
    intro n
    induction n with
    | zero => intro x1 x2 H locs ls hf; cases hf
    | succ n ih =>
      intro x1 x2 H locs ls hf hP hD hS hl
      replace hf : B_X1_countAway_4 (L_X1_countAway_4 vG n) vG x1 x2 = some r := hf
      unfold B_X1_countAway_4 at hf
      refine lv_iload_n hx hb dX1_countAway_4 rfl (lv_at hl 2 rfl) ?_
      refine lv_aload_n hx hb dX1_countAway_5 rfl (lv_at hl 0 rfl) ?_
      refine gf_X1_9 hx hb hg hown hK hP 0 rfl rfl dX1_countAway_6 ?_
      refine lv_icmp_ge (tgt := 29) hx hb dX1_countAway_9 (by decide) (fun cq => ?_) (fun cq => ?_)
      · have hf := it cq hf
        refine lv_iload_n hx hb dX1_countAway_29 rfl (lv_at hl 1 rfl) ?_
        obtain rfl := Option.some.inj hf
        exact cm_iret hx hb hr hlocks hP hS dX1_countAway_30
      · have hf := ie cq hf
        refine lv_aload_n hx hb dX1_countAway_12 rfl (lv_at hl 0 rfl) ?_
        refine lv_iload_n hx hb dX1_countAway_13 rfl (lv_at hl 2 rfl) ?_
        obtain ⟨u1, hu1, hf⟩ := bn hf
        refine cm_V (As := [.int x2]) (rest := []) (w2 := (W_G E aG vG)) hx hb hml hown hg (c_X1_isAway E l aG vG x2 u1 hu1) cy_X1_isAway ml_X1_53 ⟨⟨rfl, rfl⟩, Nat.le_of_ble_eq_true rfl, Nat.le_of_ble_eq_true rfl⟩ hK hE hP hD hS hA [true, true, true, true, true, true, true, true, true] rfl rfl rfl 0 rfl rfl rfl hl.1 rfl (Nat.le_of_ble_eq_true rfl) dX1_countAway_14 ⟨Nat.le_of_ble_eq_true rfl, Nat.le_of_ble_eq_true rfl⟩ [.int u1] rfl (fun H locs hP hD hS => ?_)
        refine lv_if_eq (tgt := 23) hx hb dX1_countAway_17 (by decide) (fun cq => ?_) (fun cq => ?_)
        · have hf := it cq hf
          refine lv_iinc (v := (x2 + 1)) (lv' := [(2, .int (x2 + 1)), (0, .ref (aG 0)), (1, .int x1)]) hx hb dX1_countAway_23 hl (k := 2) rfl rfl (by decide) rfl (fun ls hl => ?_)
          refine lv_goto (tgt := 4) hx hb dX1_countAway_26 (by decide) ?_
          exact ih _ _ _ _ _ hf hP hD hS (lv_sub hl [1, 2, 0] rfl)
        · have hf := ie cq hf
          refine lv_iinc (v := (x1 + 1)) (lv' := [(1, .int (x1 + 1)), (0, .ref (aG 0)), (2, .int x2)]) hx hb dX1_countAway_20 hl (k := 1) rfl rfl (by decide) rfl (fun ls hl => ?_)
          refine lv_iinc (v := (x2 + 1)) (lv' := [(2, .int (x2 + 1)), (1, .int (x1 + 1)), (0, .ref (aG 0))]) hx hb dX1_countAway_23 hl (k := 2) rfl rfl (by decide) rfl (fun ls hl => ?_)
          refine lv_goto (tgt := 4) hx hb dX1_countAway_26 (by decide) ?_
          exact ih _ _ _ _ _ hf hP hD hS (lv_sub hl [2, 1, 0] rfl)
  unfold F_X1_countAway at hf
  refine lv_iconst (v := 0) hx hb dX1_countAway_0 (by decide) ?_
  refine lv_istore_n (lv' := [(1, .int 0), (0, .ref (aG 0))]) hx hb dX1_countAway_1 rfl hl (by decide) rfl (fun ls hl => ?_)
  refine lv_iconst (v := 0) hx hb dX1_countAway_2 (by decide) ?_
  refine lv_istore_n (lv' := [(2, .int 0), (1, .int 0), (0, .ref (aG 0))]) hx hb dX1_countAway_3 rfl hl (by decide) rfl (fun ls hl => ?_)
  exact lp_4 FU _ _ _ _ _ hf hP hD hS (lv_sub hl [2, 1, 0] rfl)
def B_X1_hasLetters_3 (rec : Int32 → Option (Int32)) (vG : Nat → Nat → Int32) (vB : Nat → Nat → Int32) (x1 : Int32) (x3 : Int32) (x4 : Int32) : Option (Int32) := ck x1 10 ((if (vG 2 (Int32.toNatClampNeg x1)) ≤ x4 then (some 1) else (F_X1_letterOf vG x1 x4).bind (fun u1 => ck (x3 + x4) 600 ((if u1 = (vB 1 (Int32.toNatClampNeg (x3 + x4))) then (rec (x4 + 1)) else (some 0))))))
def L_X1_hasLetters_3 (vG : Nat → Nat → Int32) (vB : Nat → Nat → Int32) (x1 : Int32) (x3 : Int32) : Nat → Int32 → Option (Int32)
  | 0 => fun _ => none
  | n + 1 => fun x4 => B_X1_hasLetters_3 (L_X1_hasLetters_3 vG vB x1 x3 n) vG vB x1 x3 x4
def F_X1_hasLetters (vG : Nat → Nat → Int32) (vB : Nat → Nat → Int32) (x1 : Int32) (x3 : Int32) : Option (Int32) := (L_X1_hasLetters_3 vG vB x1 x3 FU 0)
abbrev rm_X1_hasLetters : Room := { frames := 1, cells := 0, slots := 0, locals := 22 }
set_option maxHeartbeats 4000000 in
set_option maxRecDepth 100000 in
theorem c_X1_hasLetters (E : Ev) (l : Launch) (aG : Nat → Nat) (aB : Nat → Nat) (vG : Nat → Nat → Int32) (vB : Nat → Nat → Int32) (x1 : Int32) (x3 : Int32) (r : Int32) (hf : F_X1_hasLetters vG vB x1 x3 = some r) : CM E l yX1_hasLetters (.code yX1_hasLetters cX1_hasLetters 5 (some .boolean) :: GA) rm_X1_hasLetters [.ref (aG 0), .int x1, .ref (aB 0), .int x3] (W_G E aG vG ++ (W_B E aB vB)) (some (.int r)) (W_G E aG vG ++ (W_B E aB vB)) := by
  refine CM.of (own := RX1) rfl (by decide) (Nat.le_of_ble_eq_true rfl) ?_
  intro p e s m below meth c A ls hx hb hr hml hown hg hlocks hK hE hA hP hD hS hl
  have hl : lv_has ls 5 [(0, .ref (aG 0)), (1, .int x1), (2, .ref (aB 0)), (3, .int x3)] := hl
  have lp_3 : ∀ (n : Nat) (x4 : Int32) (H : Heap) (locs : List Loc) (ls : Array Slot), L_X1_hasLetters_3 vG vB x1 x3 n x4 = some r → va_P E.1 vwCl (W_G E aG vG ++ (W_B E aB vB)) H → va_D A (W_G E aG vG ++ (W_B E aB vB)) → va_S A s.heap H locs → lv_has ls 5 [(0, .ref (aG 0)), (1, .int x1), (2, .ref (aB 0)), (3, .int x3), (4, .int x4)] → W p l e rm_X1_hasLetters s m ([.ref (aG 0), .int x1, .ref (aB 0), .int x3] : List Value).toArray below meth c H locs 0 0 (MQ below (QW E (some (.int r)) (W_G E aG vG ++ (W_B E aB vB)) A) ([.ref (aG 0), .int x1, .ref (aB 0), .int x3] : List Value).toArray s 0 0 A) (F0 m 3 ls []) := by
    intro n
    induction n with
    | zero => intro x4 H locs ls hf; cases hf
    | succ n ih =>
      intro x4 H locs ls hf hP hD hS hl
      replace hf : B_X1_hasLetters_3 (L_X1_hasLetters_3 vG vB x1 x3 n) vG vB x1 x3 x4 = some r := hf
      unfold B_X1_hasLetters_3 at hf
      refine lv_iload hx hb dX1_hasLetters_3 (lv_at hl 4 rfl) ?_
      refine lv_aload_n hx hb dX1_hasLetters_5 rfl (lv_at hl 0 rfl) ?_
      refine gf_X1_19 hx hb hg hown hK hP 0 rfl rfl dX1_hasLetters_6 ?_
      refine lv_iload_n hx hb dX1_hasLetters_9 rfl (lv_at hl 1 rfl) ?_
      obtain ⟨hi, hf⟩ := ck_o hf
      refine ar_ld hx hb hK hP 2 rfl hi dX1_hasLetters_10 ?_
      refine lv_icmp_ge (tgt := 41) hx hb dX1_hasLetters_11 (by decide) (fun cq => ?_) (fun cq => ?_)
      · have hf := it cq hf
        refine lv_iconst (v := 1) hx hb dX1_hasLetters_41 (by decide) ?_
        obtain rfl := Option.some.inj hf
        exact cm_zret (v := 1) hx hb hr hlocks hP hS rfl dX1_hasLetters_42
      · have hf := ie cq hf
        refine lv_aload_n hx hb dX1_hasLetters_14 rfl (lv_at hl 0 rfl) ?_
        refine lv_iload_n hx hb dX1_hasLetters_15 rfl (lv_at hl 1 rfl) ?_
        refine lv_iload hx hb dX1_hasLetters_16 (lv_at hl 4 rfl) ?_
        obtain ⟨u1, hu1, hf⟩ := bn hf
        refine cm_V (As := [.int x1, .int x4]) (rest := []) (w2 := (W_G E aG vG ++ (W_B E aB vB))) hx hb hml hown hg (c_X1_letterOf E l aG vG x1 x4 u1 hu1) cy_X1_letterOf ml_X1_49 ⟨⟨rfl, rfl⟩, Nat.le_of_ble_eq_true rfl, Nat.le_of_ble_eq_true rfl⟩ hK hE hP hD hS hA [true, true, true, true, true, true, true, true, true] rfl rfl rfl 0 rfl rfl rfl hl.1 rfl (Nat.le_of_ble_eq_true rfl) dX1_hasLetters_18 ⟨Nat.le_of_ble_eq_true rfl, Nat.le_of_ble_eq_true rfl⟩ [.int u1] rfl (fun H locs hP hD hS => ?_)
        refine lv_aload_n hx hb dX1_hasLetters_21 rfl (lv_at hl 2 rfl) ?_
        refine gf_X1_40 hx hb hg hown hK hP 9 rfl rfl dX1_hasLetters_22 ?_
        refine lv_iload_n hx hb dX1_hasLetters_25 rfl (lv_at hl 3 rfl) ?_
        refine lv_iload hx hb dX1_hasLetters_26 (lv_at hl 4 rfl) ?_
        refine lv_iadd hx hb dX1_hasLetters_28 ?_
        obtain ⟨hi, hf⟩ := ck_o hf
        refine ar_ld hx hb hK hP 10 rfl hi dX1_hasLetters_29 ?_
        refine lv_icmp_eq (tgt := 35) hx hb dX1_hasLetters_30 (by decide) (fun cq => ?_) (fun cq => ?_)
        · have hf := it cq hf
          refine lv_iinc (v := (x4 + 1)) (lv' := [(4, .int (x4 + 1)), (0, .ref (aG 0)), (1, .int x1), (2, .ref (aB 0)), (3, .int x3)]) hx hb dX1_hasLetters_35 hl (k := 4) rfl rfl (by decide) rfl (fun ls hl => ?_)
          refine lv_goto (tgt := 3) hx hb dX1_hasLetters_38 (by decide) ?_
          exact ih _ _ _ _ hf hP hD hS (lv_sub hl [1, 2, 3, 4, 0] rfl)
        · have hf := ie cq hf
          refine lv_iconst (v := 0) hx hb dX1_hasLetters_33 (by decide) ?_
          obtain rfl := Option.some.inj hf
          exact cm_zret (v := 0) hx hb hr hlocks hP hS rfl dX1_hasLetters_34
  unfold F_X1_hasLetters at hf
  refine lv_iconst (v := 0) hx hb dX1_hasLetters_0 (by decide) ?_
  refine lv_istore (lv' := [(4, .int 0), (0, .ref (aG 0)), (1, .int x1), (2, .ref (aB 0)), (3, .int x3)]) hx hb dX1_hasLetters_1 hl (by decide) rfl (fun ls hl => ?_)
  exact lp_3 FU _ _ _ _ hf hP hD hS (lv_sub hl [1, 2, 3, 4, 0] rfl)
def B_X1_find_3 (rec : Int32 → Option (Int32)) (vG : Nat → Nat → Int32) (vB : Nat → Nat → Int32) (x2 : Int32) (x3 : Int32) (x4 : Int32) : Option (Int32) := (if (vG 0 0) ≤ x4 then (some (-1)) else ck x4 10 ((if (vG 2 (Int32.toNatClampNeg x4)) = x3 then (F_X1_hasLetters vG vB x4 x2).bind (fun u1 => (if u1 = 0 then (rec (x4 + 1)) else (some x4))) else (rec (x4 + 1)))))
def L_X1_find_3 (vG : Nat → Nat → Int32) (vB : Nat → Nat → Int32) (x2 : Int32) (x3 : Int32) : Nat → Int32 → Option (Int32)
  | 0 => fun _ => none
  | n + 1 => fun x4 => B_X1_find_3 (L_X1_find_3 vG vB x2 x3 n) vG vB x2 x3 x4
def F_X1_find (vG : Nat → Nat → Int32) (vB : Nat → Nat → Int32) (x2 : Int32) (x3 : Int32) : Option (Int32) := (L_X1_find_3 vG vB x2 x3 FU 0)
abbrev rm_X1_find : Room := { frames := 2, cells := 0, slots := 0, locals := 46 }
set_option maxHeartbeats 4000000 in
set_option maxRecDepth 100000 in
theorem c_X1_find (E : Ev) (l : Launch) (aG : Nat → Nat) (aB : Nat → Nat) (vG : Nat → Nat → Int32) (vB : Nat → Nat → Int32) (x2 : Int32) (x3 : Int32) (r : Int32) (hf : F_X1_find vG vB x2 x3 = some r) : CM E l yX1_find (.code yX1_find cX1_find 5 (some .int) :: GA) rm_X1_find [.ref (aG 0), .ref (aB 0), .int x2, .int x3] (W_G E aG vG ++ (W_B E aB vB)) (some (.int r)) (W_G E aG vG ++ (W_B E aB vB)) := by
  refine CM.of (own := RX1) rfl (by decide) (Nat.le_of_ble_eq_true rfl) ?_
  intro p e s m below meth c A ls hx hb hr hml hown hg hlocks hK hE hA hP hD hS hl
  have hl : lv_has ls 5 [(0, .ref (aG 0)), (1, .ref (aB 0)), (2, .int x2), (3, .int x3)] := hl
  have lp_3 : ∀ (n : Nat) (x4 : Int32) (H : Heap) (locs : List Loc) (ls : Array Slot), L_X1_find_3 vG vB x2 x3 n x4 = some r → va_P E.1 vwCl (W_G E aG vG ++ (W_B E aB vB)) H → va_D A (W_G E aG vG ++ (W_B E aB vB)) → va_S A s.heap H locs → lv_has ls 5 [(0, .ref (aG 0)), (1, .ref (aB 0)), (2, .int x2), (3, .int x3), (4, .int x4)] → W p l e rm_X1_find s m ([.ref (aG 0), .ref (aB 0), .int x2, .int x3] : List Value).toArray below meth c H locs 0 0 (MQ below (QW E (some (.int r)) (W_G E aG vG ++ (W_B E aB vB)) A) ([.ref (aG 0), .ref (aB 0), .int x2, .int x3] : List Value).toArray s 0 0 A) (F0 m 3 ls []) := by
    intro n
    induction n with
    | zero => intro x4 H locs ls hf; cases hf
    | succ n ih =>
      intro x4 H locs ls hf hP hD hS hl
      replace hf : B_X1_find_3 (L_X1_find_3 vG vB x2 x3 n) vG vB x2 x3 x4 = some r := hf
      unfold B_X1_find_3 at hf
      refine lv_iload hx hb dX1_find_3 (lv_at hl 4 rfl) ?_
      refine lv_aload_n hx hb dX1_find_5 rfl (lv_at hl 0 rfl) ?_
      refine gf_X1_9 hx hb hg hown hK hP 0 rfl rfl dX1_find_6 ?_
      refine lv_icmp_ge (tgt := 43) hx hb dX1_find_9 (by decide) (fun cq => ?_) (fun cq => ?_)
      · have hf := it cq hf
        refine lv_iconst (v := (-1)) hx hb dX1_find_43 (by decide) ?_
        obtain rfl := Option.some.inj hf
        exact cm_iret hx hb hr hlocks hP hS dX1_find_44
      · have hf := ie cq hf
        refine lv_aload_n hx hb dX1_find_12 rfl (lv_at hl 0 rfl) ?_
        refine gf_X1_19 hx hb hg hown hK hP 0 rfl rfl dX1_find_13 ?_
        refine lv_iload hx hb dX1_find_16 (lv_at hl 4 rfl) ?_
        obtain ⟨hi, hf⟩ := ck_o hf
        refine ar_ld hx hb hK hP 2 rfl hi dX1_find_18 ?_
        refine lv_iload_n hx hb dX1_find_19 rfl (lv_at hl 3 rfl) ?_
        refine lv_icmp_ne (tgt := 37) hx hb dX1_find_20 (by decide) (fun cq => ?_) (fun cq => ?_)
        · have hf := ie cq hf
          refine lv_iinc (v := (x4 + 1)) (lv' := [(4, .int (x4 + 1)), (0, .ref (aG 0)), (1, .ref (aB 0)), (2, .int x2), (3, .int x3)]) hx hb dX1_find_37 hl (k := 4) rfl rfl (by decide) rfl (fun ls hl => ?_)
          refine lv_goto (tgt := 3) hx hb dX1_find_40 (by decide) ?_
          exact ih _ _ _ _ hf hP hD hS (lv_sub hl [1, 2, 3, 4, 0] rfl)
        · have hf := it cq hf
          refine lv_aload_n hx hb dX1_find_23 rfl (lv_at hl 0 rfl) ?_
          refine lv_iload hx hb dX1_find_24 (lv_at hl 4 rfl) ?_
          refine lv_aload_n hx hb dX1_find_26 rfl (lv_at hl 1 rfl) ?_
          refine lv_iload_n hx hb dX1_find_27 rfl (lv_at hl 2 rfl) ?_
          obtain ⟨u1, hu1, hf⟩ := bn hf
          refine cm_V (As := [.int x4, .ref (aB 0), .int x2]) (rest := []) (w2 := (W_G E aG vG ++ (W_B E aB vB))) hx hb hml hown hg (c_X1_hasLetters E l aG aB vG vB x4 x2 u1 hu1) cy_X1_hasLetters ml_X1_45 ⟨⟨rfl, rfl⟩, Nat.le_of_ble_eq_true rfl, Nat.le_of_ble_eq_true rfl⟩ hK hE hP hD hS hA [true, true, true, true, true, true, true, true, true, true, true] rfl rfl rfl 0 rfl rfl rfl hl.1 rfl (Nat.le_of_ble_eq_true rfl) dX1_find_28 ⟨Nat.le_of_ble_eq_true rfl, Nat.le_of_ble_eq_true rfl⟩ [.int u1] rfl (fun H locs hP hD hS => ?_)
          refine lv_if_eq (tgt := 37) hx hb dX1_find_31 (by decide) (fun cq => ?_) (fun cq => ?_)
          · have hf := it cq hf
            refine lv_iinc (v := (x4 + 1)) (lv' := [(4, .int (x4 + 1)), (0, .ref (aG 0)), (1, .ref (aB 0)), (2, .int x2), (3, .int x3)]) hx hb dX1_find_37 hl (k := 4) rfl rfl (by decide) rfl (fun ls hl => ?_)
            refine lv_goto (tgt := 3) hx hb dX1_find_40 (by decide) ?_
            exact ih _ _ _ _ hf hP hD hS (lv_sub hl [1, 2, 3, 4, 0] rfl)
          · have hf := ie cq hf
            refine lv_iload hx hb dX1_find_34 (lv_at hl 4 rfl) ?_
            obtain rfl := Option.some.inj hf
            exact cm_iret hx hb hr hlocks hP hS dX1_find_36
  unfold F_X1_find at hf
  refine lv_iconst (v := 0) hx hb dX1_find_0 (by decide) ?_
  refine lv_istore (lv' := [(4, .int 0), (0, .ref (aG 0)), (1, .ref (aB 0)), (2, .int x2), (3, .int x3)]) hx hb dX1_find_1 hl (by decide) rfl (fun ls hl => ?_)
  exact lp_3 FU _ _ _ _ hf hP hD hS (lv_sub hl [1, 2, 3, 4, 0] rfl)
def F_X1_soakBy (vG : Nat → Nat → Int32) (x1 : Int32) (x2 : Int32) : Option ((Nat → Nat → Int32)) := ck x1 10 (ck x1 10 (lt (va_up vG 6 (upd (vG 6) (Int32.toNatClampNeg x1) (if ((vG 6 (Int32.toNatClampNeg x1)) + x2) < 999 then ((vG 6 (Int32.toNatClampNeg x1)) + x2) else 999))) (fun vG_3 => (some vG_3))))
abbrev rm_X1_soakBy : Room := { frames := 1, cells := 0, slots := 0, locals := 21 }
set_option maxHeartbeats 4000000 in
set_option maxRecDepth 100000 in
theorem c_X1_soakBy (E : Ev) (l : Launch) (aG : Nat → Nat) (vG : Nat → Nat → Int32) (x1 : Int32) (x2 : Int32) (r : (Nat → Nat → Int32)) (hf : F_X1_soakBy vG x1 x2 = some r) : CM E l yX1_soakBy (.code yX1_soakBy cX1_soakBy 3 none :: GA) rm_X1_soakBy [.ref (aG 0), .int x1, .int x2] (W_G E aG vG) none (W_G E aG r) := by
  refine CM.of (own := RX1) rfl (by decide) (Nat.le_of_ble_eq_true rfl) ?_
  intro p e s m below meth c A ls hx hb hr hml hown hg hlocks hK hE hA hP hD hS hl
  have hl : lv_has ls 3 [(0, .ref (aG 0)), (1, .int x1), (2, .int x2)] := hl
  unfold F_X1_soakBy at hf
  refine lv_aload_n hx hb dX1_soakBy_0 rfl (lv_at hl 0 rfl) ?_
  refine gf_X1_31 hx hb hg hown hK hP 0 rfl rfl dX1_soakBy_1 ?_
  refine lv_iload_n hx hb dX1_soakBy_4 rfl (lv_at hl 1 rfl) ?_
  refine lv_sipush (v := 999) hx hb dX1_soakBy_5 (by decide) ?_
  refine lv_aload_n hx hb dX1_soakBy_8 rfl (lv_at hl 0 rfl) ?_
  refine gf_X1_31 hx hb hg hown hK hP 0 rfl rfl dX1_soakBy_9 ?_
  refine lv_iload_n hx hb dX1_soakBy_12 rfl (lv_at hl 1 rfl) ?_
  obtain ⟨hi, hf⟩ := ck_o hf
  refine ar_ld hx hb hK hP 6 rfl hi dX1_soakBy_13 ?_
  refine lv_iload_n hx hb dX1_soakBy_14 rfl (lv_at hl 2 rfl) ?_
  refine lv_iadd hx hb dX1_soakBy_15 ?_
  refine cm_min hx hb hml hl.1 hown hg ml_X1_57 (Nat.le_of_ble_eq_true rfl) (Nat.le_of_ble_eq_true rfl) ⟨Nat.le_of_ble_eq_true rfl, Nat.le_of_ble_eq_true rfl⟩ dX1_soakBy_16 ?_
  obtain ⟨hi, hf⟩ := ck_o hf
  refine ar_st (w2 := (W_G E aG (va_up vG 6 (upd (vG 6) (Int32.toNatClampNeg x1) (if ((vG 6 (Int32.toNatClampNeg x1)) + x2) < 999 then ((vG 6 (Int32.toNatClampNeg x1)) + x2) else 999))))) hx hb hK hP hD hS 6 rfl hi rfl dX1_soakBy_19 (fun H locs hP hD hS => ?_)
  obtain ⟨vG_3, hv, hf⟩ := lt_o hf
  rw [← hv] at hP hD
  clear hv
  obtain rfl := Option.some.inj hf
  exact cm_vret hx hb hr hlocks hP hS dX1_soakBy_20
def F_X1_walkAt (vG : Nat → Nat → Int32) (x1 : Int32) (x2 : Int32) : Option (Int32 × (Nat → Nat → Int32)) := ck x1 10 (ck x1 10 (lt (va_up vG 7 (upd (vG 7) (Int32.toNatClampNeg x1) ((vG 7 (Int32.toNatClampNeg x1)) + 1))) (fun vG_5 => ck x1 10 (lt (va_up vG_5 8 (upd (vG_5 8) (Int32.toNatClampNeg x1) x2)) (fun vG_6 => ck x1 10 ((some ((vG_6 7 (Int32.toNatClampNeg x1)), vG_6))))))))
abbrev rm_X1_walkAt : Room := { frames := 0, cells := 0, slots := 0, locals := 0 }
set_option maxHeartbeats 4000000 in
set_option maxRecDepth 100000 in
theorem c_X1_walkAt (E : Ev) (l : Launch) (aG : Nat → Nat) (vG : Nat → Nat → Int32) (x1 : Int32) (x2 : Int32) (r : Int32 × (Nat → Nat → Int32)) (hf : F_X1_walkAt vG x1 x2 = some r) : CM E l yX1_walkAt (.code yX1_walkAt cX1_walkAt 3 (some .int) :: GA) rm_X1_walkAt [.ref (aG 0), .int x1, .int x2] (W_G E aG vG) (some (.int r.1)) (W_G E aG r.2) := by
  refine CM.of (own := RX1) rfl (by decide) (Nat.le_of_ble_eq_true rfl) ?_
  intro p e s m below meth c A ls hx hb hr hml hown hg hlocks hK hE hA hP hD hS hl
  have hl : lv_has ls 3 [(0, .ref (aG 0)), (1, .int x1), (2, .int x2)] := hl
  unfold F_X1_walkAt at hf
  refine lv_aload_n hx hb dX1_walkAt_0 rfl (lv_at hl 0 rfl) ?_
  refine gf_X1_34 hx hb hg hown hK hP 0 rfl rfl dX1_walkAt_1 ?_
  refine lv_iload_n hx hb dX1_walkAt_4 rfl (lv_at hl 1 rfl) ?_
  refine lv_dup2_11 hx hb dX1_walkAt_5 rfl rfl ?_
  obtain ⟨hi, hf⟩ := ck_o hf
  refine ar_ld hx hb hK hP 7 rfl hi dX1_walkAt_6 ?_
  refine lv_iconst (v := 1) hx hb dX1_walkAt_7 (by decide) ?_
  refine lv_iadd hx hb dX1_walkAt_8 ?_
  obtain ⟨hi, hf⟩ := ck_o hf
  refine ar_st (w2 := (W_G E aG (va_up vG 7 (upd (vG 7) (Int32.toNatClampNeg x1) ((vG 7 (Int32.toNatClampNeg x1)) + 1))))) hx hb hK hP hD hS 7 rfl hi rfl dX1_walkAt_9 (fun H locs hP hD hS => ?_)
  obtain ⟨vG_5, hv, hf⟩ := lt_o hf
  rw [← hv] at hP hD
  clear hv
  refine lv_aload_n hx hb dX1_walkAt_10 rfl (lv_at hl 0 rfl) ?_
  refine gf_X1_37 hx hb hg hown hK hP 0 rfl rfl dX1_walkAt_11 ?_
  refine lv_iload_n hx hb dX1_walkAt_14 rfl (lv_at hl 1 rfl) ?_
  refine lv_iload_n hx hb dX1_walkAt_15 rfl (lv_at hl 2 rfl) ?_
  obtain ⟨hi, hf⟩ := ck_o hf
  refine ar_st (w2 := (W_G E aG (va_up vG_5 8 (upd (vG_5 8) (Int32.toNatClampNeg x1) x2)))) hx hb hK hP hD hS 8 rfl hi rfl dX1_walkAt_16 (fun H locs hP hD hS => ?_)
  obtain ⟨vG_6, hv, hf⟩ := lt_o hf
  rw [← hv] at hP hD
  clear hv
  refine lv_aload_n hx hb dX1_walkAt_17 rfl (lv_at hl 0 rfl) ?_
  refine gf_X1_34 hx hb hg hown hK hP 0 rfl rfl dX1_walkAt_18 ?_
  refine lv_iload_n hx hb dX1_walkAt_21 rfl (lv_at hl 1 rfl) ?_
  obtain ⟨hi, hf⟩ := ck_o hf
  refine ar_ld hx hb hK hP 7 rfl hi dX1_walkAt_22 ?_
  obtain rfl := Option.some.inj hf
  exact cm_iret hx hb hr hlocks hP hS dX1_walkAt_23
def J_X1_barksAt_46 (vG : Nat → Nat → Int32) (x1 : Int32) (x2 : Int32) (t0 : Int32) : Option (Int32) := ck x1 10 ((if (x2 - (vG 5 (Int32.toNatClampNeg x1))) ≤ 10 then (some 0) else (if t0 = 0 then (some 1) else (some 0))))
def F_X1_barksAt (vG : Nat → Nat → Int32) (x1 : Int32) (x2 : Int32) : Option (Int32) := ck x1 10 ((if (vG 4 (Int32.toNatClampNeg x1)) = 0 then (some 0) else (F_X1_isAway vG x1).bind (fun u1 => (if u1 = 0 then (some 0) else ck x1 10 ((if (vG 7 (Int32.toNatClampNeg x1)) ≤ 0 then (J_X1_barksAt_46 vG x1 x2 0) else ck x1 10 ((if 60 ≤ (x2 - (vG 8 (Int32.toNatClampNeg x1))) then (J_X1_barksAt_46 vG x1 x2 0) else (J_X1_barksAt_46 vG x1 x2 1)))))))))
abbrev rm_X1_barksAt : Room := { frames := 1, cells := 0, slots := 0, locals := 21 }
set_option maxHeartbeats 4000000 in
set_option maxRecDepth 100000 in
theorem c_X1_barksAt (E : Ev) (l : Launch) (aG : Nat → Nat) (vG : Nat → Nat → Int32) (x1 : Int32) (x2 : Int32) (r : Int32) (hf : F_X1_barksAt vG x1 x2 = some r) : CM E l yX1_barksAt (.code yX1_barksAt cX1_barksAt 4 (some .boolean) :: GA) rm_X1_barksAt [.ref (aG 0), .int x1, .int x2] (W_G E aG vG) (some (.int r)) (W_G E aG vG) := by
  refine CM.of (own := RX1) rfl (by decide) (Nat.le_of_ble_eq_true rfl) ?_
  intro p e s m below meth c A ls hx hb hr hml hown hg hlocks hK hE hA hP hD hS hl
  have hl : lv_has ls 4 [(0, .ref (aG 0)), (1, .int x1), (2, .int x2)] := hl
  have jp_46 : ∀ (t0 : Int32) (H : Heap) (locs : List Loc) (ls : Array Slot), J_X1_barksAt_46 vG x1 x2 t0 = some r → va_P E.1 vwCl (W_G E aG vG) H → va_D A (W_G E aG vG) → va_S A s.heap H locs → lv_has ls 4 [(0, .ref (aG 0)), (1, .int x1), (2, .int x2)] → W p l e rm_X1_barksAt s m ([.ref (aG 0), .int x1, .int x2] : List Value).toArray below meth c H locs 0 0 (MQ below (QW E (some (.int r)) (W_G E aG vG) A) ([.ref (aG 0), .int x1, .int x2] : List Value).toArray s 0 0 A) (F0 m 46 ls [.int t0]) := by
    intro t0 H locs ls hf hP hD hS hl
    unfold J_X1_barksAt_46 at hf
    refine lv_istore_n (lv' := [(3, .int t0), (0, .ref (aG 0)), (1, .int x1), (2, .int x2)]) hx hb dX1_barksAt_46 rfl hl (by decide) rfl (fun ls hl => ?_)
    refine lv_iload_n hx hb dX1_barksAt_47 rfl (lv_at hl 3 rfl) ?_
    refine lv_aload_n hx hb dX1_barksAt_48 rfl (lv_at hl 1 rfl) ?_
    refine gf_X1_28 hx hb hg hown hK hP 0 rfl rfl dX1_barksAt_49 ?_
    refine lv_iload_n hx hb dX1_barksAt_52 rfl (lv_at hl 2 rfl) ?_
    obtain ⟨hi, hf⟩ := ck_o hf
    refine ar_ld hx hb hK hP 5 rfl hi dX1_barksAt_53 ?_
    refine lv_isub hx hb dX1_barksAt_54 ?_
    refine lv_bipush (v := 10) hx hb dX1_barksAt_55 (by decide) ?_
    refine lv_icmp_le (tgt := 68) hx hb dX1_barksAt_57 (by decide) (fun cq => ?_) (fun cq => ?_)
    · have hf := it cq hf
      refine lv_iconst (v := 0) hx hb dX1_barksAt_68 (by decide) ?_
      obtain rfl := Option.some.inj hf
      exact cm_zret (v := 0) hx hb hr hlocks hP hS rfl dX1_barksAt_69
    · have hf := ie cq hf
      refine lv_iload_n hx hb dX1_barksAt_60 rfl (lv_at hl 0 rfl) ?_
      refine lv_if_ne (tgt := 68) hx hb dX1_barksAt_61 (by decide) (fun cq => ?_) (fun cq => ?_)
      · have hf := ie cq hf
        refine lv_iconst (v := 0) hx hb dX1_barksAt_68 (by decide) ?_
        obtain rfl := Option.some.inj hf
        exact cm_zret (v := 0) hx hb hr hlocks hP hS rfl dX1_barksAt_69
      · have hf := it cq hf
        refine lv_iconst (v := 1) hx hb dX1_barksAt_64 (by decide) ?_
        refine lv_goto (tgt := 69) hx hb dX1_barksAt_65 (by decide) ?_
        obtain rfl := Option.some.inj hf
        exact cm_zret (v := 1) hx hb hr hlocks hP hS rfl dX1_barksAt_69
  unfold F_X1_barksAt at hf
  refine lv_aload_n hx hb dX1_barksAt_0 rfl (lv_at hl 0 rfl) ?_
  refine gf_X1_25 hx hb hg hown hK hP 0 rfl rfl dX1_barksAt_1 ?_
  refine lv_iload_n hx hb dX1_barksAt_4 rfl (lv_at hl 1 rfl) ?_
  obtain ⟨hi, hf⟩ := ck_o hf
  refine ar_ld hx hb hK hP 4 rfl hi dX1_barksAt_5 ?_
  refine lv_if_eq (tgt := 17) hx hb dX1_barksAt_6 (by decide) (fun cq => ?_) (fun cq => ?_)
  · have hf := it cq hf
    refine lv_iconst (v := 0) hx hb dX1_barksAt_17 (by decide) ?_
    obtain rfl := Option.some.inj hf
    exact cm_zret (v := 0) hx hb hr hlocks hP hS rfl dX1_barksAt_18
  · have hf := ie cq hf
    refine lv_aload_n hx hb dX1_barksAt_9 rfl (lv_at hl 0 rfl) ?_
    refine lv_iload_n hx hb dX1_barksAt_10 rfl (lv_at hl 1 rfl) ?_
    obtain ⟨u1, hu1, hf⟩ := bn hf
    refine cm_V (As := [.int x1]) (rest := []) (w2 := (W_G E aG vG)) hx hb hml hown hg (c_X1_isAway E l aG vG x1 u1 hu1) cy_X1_isAway ml_X1_53 ⟨⟨rfl, rfl⟩, Nat.le_of_ble_eq_true rfl, Nat.le_of_ble_eq_true rfl⟩ hK hE hP hD hS hA [true, true, true, true, true, true, true, true, true] rfl rfl rfl 0 rfl rfl rfl hl.1 rfl (Nat.le_of_ble_eq_true rfl) dX1_barksAt_11 ⟨Nat.le_of_ble_eq_true rfl, Nat.le_of_ble_eq_true rfl⟩ [.int u1] rfl (fun H locs hP hD hS => ?_)
    refine lv_if_ne (tgt := 19) hx hb dX1_barksAt_14 (by decide) (fun cq => ?_) (fun cq => ?_)
    · have hf := ie cq hf
      refine lv_aload_n hx hb dX1_barksAt_19 rfl (lv_at hl 0 rfl) ?_
      refine gf_X1_34 hx hb hg hown hK hP 0 rfl rfl dX1_barksAt_20 ?_
      refine lv_iload_n hx hb dX1_barksAt_23 rfl (lv_at hl 1 rfl) ?_
      obtain ⟨hi, hf⟩ := ck_o hf
      refine ar_ld hx hb hK hP 7 rfl hi dX1_barksAt_24 ?_
      refine lv_if_le (tgt := 45) hx hb dX1_barksAt_25 (by decide) (fun cq => ?_) (fun cq => ?_)
      · have hf := it cq hf
        refine lv_iconst (v := 0) hx hb dX1_barksAt_45 (by decide) ?_
        exact jp_46 _ _ _ _ hf hP hD hS (lv_sub hl [0, 1, 2] rfl)
      · have hf := ie cq hf
        refine lv_iload_n hx hb dX1_barksAt_28 rfl (lv_at hl 2 rfl) ?_
        refine lv_aload_n hx hb dX1_barksAt_29 rfl (lv_at hl 0 rfl) ?_
        refine gf_X1_37 hx hb hg hown hK hP 0 rfl rfl dX1_barksAt_30 ?_
        refine lv_iload_n hx hb dX1_barksAt_33 rfl (lv_at hl 1 rfl) ?_
        obtain ⟨hi, hf⟩ := ck_o hf
        refine ar_ld hx hb hK hP 8 rfl hi dX1_barksAt_34 ?_
        refine lv_isub hx hb dX1_barksAt_35 ?_
        refine lv_bipush (v := 60) hx hb dX1_barksAt_36 (by decide) ?_
        refine lv_icmp_ge (tgt := 45) hx hb dX1_barksAt_38 (by decide) (fun cq => ?_) (fun cq => ?_)
        · have hf := it cq hf
          refine lv_iconst (v := 0) hx hb dX1_barksAt_45 (by decide) ?_
          exact jp_46 _ _ _ _ hf hP hD hS (lv_sub hl [0, 1, 2] rfl)
        · have hf := ie cq hf
          refine lv_iconst (v := 1) hx hb dX1_barksAt_41 (by decide) ?_
          refine lv_goto (tgt := 46) hx hb dX1_barksAt_42 (by decide) ?_
          exact jp_46 _ _ _ _ hf hP hD hS (lv_sub hl [0, 1, 2] rfl)
    · have hf := it cq hf
      refine lv_iconst (v := 0) hx hb dX1_barksAt_17 (by decide) ?_
      obtain rfl := Option.some.inj hf
      exact cm_zret (v := 0) hx hb hr hlocks hP hS rfl dX1_barksAt_18
def B_X1_noiseAt_4 (rec : Int32 → Int32 → Option (Int32)) (vG : Nat → Nat → Int32) (x1 : Int32) (x2 : Int32) (x3 : Int32) : Option (Int32) := (if (vG 0 0) ≤ x3 then (some x2) else (F_X1_barksAt vG x3 x1).bind (fun u1 => (if u1 = 0 then (rec x2 (x3 + 1)) else ck x3 10 ((rec (x2 + (vG 4 (Int32.toNatClampNeg x3))) (x3 + 1))))))
def L_X1_noiseAt_4 (vG : Nat → Nat → Int32) (x1 : Int32) : Nat → Int32 → Int32 → Option (Int32)
  | 0 => fun _ _ => none
  | n + 1 => fun x2 x3 => B_X1_noiseAt_4 (L_X1_noiseAt_4 vG x1 n) vG x1 x2 x3
def F_X1_noiseAt (vG : Nat → Nat → Int32) (x1 : Int32) : Option (Int32) := (L_X1_noiseAt_4 vG x1 FU 0 0)
abbrev rm_X1_noiseAt : Room := { frames := 2, cells := 0, slots := 0, locals := 44 }
set_option maxHeartbeats 4000000 in
set_option maxRecDepth 100000 in
theorem c_X1_noiseAt (E : Ev) (l : Launch) (aG : Nat → Nat) (vG : Nat → Nat → Int32) (x1 : Int32) (r : Int32) (hf : F_X1_noiseAt vG x1 = some r) : CM E l yX1_noiseAt (.code yX1_noiseAt cX1_noiseAt 4 (some .int) :: GA) rm_X1_noiseAt [.ref (aG 0), .int x1] (W_G E aG vG) (some (.int r)) (W_G E aG vG) := by
  refine CM.of (own := RX1) rfl (by decide) (Nat.le_of_ble_eq_true rfl) ?_
  intro p e s m below meth c A ls hx hb hr hml hown hg hlocks hK hE hA hP hD hS hl
  have hl : lv_has ls 4 [(0, .ref (aG 0)), (1, .int x1)] := hl
  have lp_4 : ∀ (n : Nat) (x2 : Int32) (x3 : Int32) (H : Heap) (locs : List Loc) (ls : Array Slot), L_X1_noiseAt_4 vG x1 n x2 x3 = some r → va_P E.1 vwCl (W_G E aG vG) H → va_D A (W_G E aG vG) → va_S A s.heap H locs → lv_has ls 4 [(0, .ref (aG 0)), (1, .int x1), (2, .int x2), (3, .int x3)] → W p l e rm_X1_noiseAt s m ([.ref (aG 0), .int x1] : List Value).toArray below meth c H locs 0 0 (MQ below (QW E (some (.int r)) (W_G E aG vG) A) ([.ref (aG 0), .int x1] : List Value).toArray s 0 0 A) (F0 m 4 ls []) := by
    intro n
    induction n with
    | zero => intro x2 x3 H locs ls hf; cases hf
    | succ n ih =>
      intro x2 x3 H locs ls hf hP hD hS hl
      replace hf : B_X1_noiseAt_4 (L_X1_noiseAt_4 vG x1 n) vG x1 x2 x3 = some r := hf
      unfold B_X1_noiseAt_4 at hf
      refine lv_iload_n hx hb dX1_noiseAt_4 rfl (lv_at hl 3 rfl) ?_
      refine lv_aload_n hx hb dX1_noiseAt_5 rfl (lv_at hl 0 rfl) ?_
      refine gf_X1_9 hx hb hg hown hK hP 0 rfl rfl dX1_noiseAt_6 ?_
      refine lv_icmp_ge (tgt := 36) hx hb dX1_noiseAt_9 (by decide) (fun cq => ?_) (fun cq => ?_)
      · have hf := it cq hf
        refine lv_iload_n hx hb dX1_noiseAt_36 rfl (lv_at hl 2 rfl) ?_
        obtain rfl := Option.some.inj hf
        exact cm_iret hx hb hr hlocks hP hS dX1_noiseAt_37
      · have hf := ie cq hf
        refine lv_aload_n hx hb dX1_noiseAt_12 rfl (lv_at hl 0 rfl) ?_
        refine lv_iload_n hx hb dX1_noiseAt_13 rfl (lv_at hl 3 rfl) ?_
        refine lv_iload_n hx hb dX1_noiseAt_14 rfl (lv_at hl 1 rfl) ?_
        obtain ⟨u1, hu1, hf⟩ := bn hf
        refine cm_V (As := [.int x3, .int x1]) (rest := []) (w2 := (W_G E aG vG)) hx hb hml hown hg (c_X1_barksAt E l aG vG x3 x1 u1 hu1) cy_X1_barksAt ml_X1_62 ⟨⟨rfl, rfl⟩, Nat.le_of_ble_eq_true rfl, Nat.le_of_ble_eq_true rfl⟩ hK hE hP hD hS hA [true, true, true, true, true, true, true, true, true] rfl rfl rfl 0 rfl rfl rfl hl.1 rfl (Nat.le_of_ble_eq_true rfl) dX1_noiseAt_15 ⟨Nat.le_of_ble_eq_true rfl, Nat.le_of_ble_eq_true rfl⟩ [.int u1] rfl (fun H locs hP hD hS => ?_)
        refine lv_if_eq (tgt := 30) hx hb dX1_noiseAt_18 (by decide) (fun cq => ?_) (fun cq => ?_)
        · have hf := it cq hf
          refine lv_iinc (v := (x3 + 1)) (lv' := [(3, .int (x3 + 1)), (0, .ref (aG 0)), (1, .int x1), (2, .int x2)]) hx hb dX1_noiseAt_30 hl (k := 3) rfl rfl (by decide) rfl (fun ls hl => ?_)
          refine lv_goto (tgt := 4) hx hb dX1_noiseAt_33 (by decide) ?_
          exact ih _ _ _ _ _ hf hP hD hS (lv_sub hl [1, 2, 3, 0] rfl)
        · have hf := ie cq hf
          refine lv_iload_n hx hb dX1_noiseAt_21 rfl (lv_at hl 2 rfl) ?_
          refine lv_aload_n hx hb dX1_noiseAt_22 rfl (lv_at hl 0 rfl) ?_
          refine gf_X1_25 hx hb hg hown hK hP 0 rfl rfl dX1_noiseAt_23 ?_
          refine lv_iload_n hx hb dX1_noiseAt_26 rfl (lv_at hl 3 rfl) ?_
          obtain ⟨hi, hf⟩ := ck_o hf
          refine ar_ld hx hb hK hP 4 rfl hi dX1_noiseAt_27 ?_
          refine lv_iadd hx hb dX1_noiseAt_28 ?_
          refine lv_istore_n (lv' := [(2, .int (x2 + (vG 4 (Int32.toNatClampNeg x3)))), (0, .ref (aG 0)), (1, .int x1), (3, .int x3)]) hx hb dX1_noiseAt_29 rfl hl (by decide) rfl (fun ls hl => ?_)
          refine lv_iinc (v := (x3 + 1)) (lv' := [(3, .int (x3 + 1)), (2, .int (x2 + (vG 4 (Int32.toNatClampNeg x3)))), (0, .ref (aG 0)), (1, .int x1)]) hx hb dX1_noiseAt_30 hl (k := 3) rfl rfl (by decide) rfl (fun ls hl => ?_)
          refine lv_goto (tgt := 4) hx hb dX1_noiseAt_33 (by decide) ?_
          exact ih _ _ _ _ _ hf hP hD hS (lv_sub hl [2, 3, 1, 0] rfl)
  unfold F_X1_noiseAt at hf
  refine lv_iconst (v := 0) hx hb dX1_noiseAt_0 (by decide) ?_
  refine lv_istore_n (lv' := [(2, .int 0), (0, .ref (aG 0)), (1, .int x1)]) hx hb dX1_noiseAt_1 rfl hl (by decide) rfl (fun ls hl => ?_)
  refine lv_iconst (v := 0) hx hb dX1_noiseAt_2 (by decide) ?_
  refine lv_istore_n (lv' := [(3, .int 0), (2, .int 0), (0, .ref (aG 0)), (1, .int x1)]) hx hb dX1_noiseAt_3 rfl hl (by decide) rfl (fun ls hl => ?_)
  exact lp_4 FU _ _ _ _ _ hf hP hD hS (lv_sub hl [2, 3, 1, 0] rfl)
def B_X1_add_9 (rec : Int32 → Int32 → (Nat → Nat → Int32) → Option (Int32 × (Nat → Nat → Int32))) (vB : Nat → Nat → Int32) (x2 : Int32) (x3 : Int32) (x4 : Int32) (x5 : Int32) (x6 : Int32) (x7 : Int32) (vG : Nat → Nat → Int32) : Option (Int32 × (Nat → Nat → Int32)) := (if x3 ≤ x7 then ck x6 10 (lt (va_up vG 2 (upd (vG 2) (Int32.toNatClampNeg x6) x3)) (fun vG_28 => ck x6 10 (lt (va_up vG_28 3 (upd (vG_28 3) (Int32.toNatClampNeg x6) x4)) (fun vG_29 => ck x6 10 (lt (va_up vG_29 4 (upd (vG_29 4) (Int32.toNatClampNeg x6) x5)) (fun vG_30 => ck x6 10 (lt (va_up vG_30 5 (upd (vG_30 5) (Int32.toNatClampNeg x6) (-1))) (fun vG_31 => ck x6 10 (lt (va_up vG_31 6 (upd (vG_31 6) (Int32.toNatClampNeg x6) 0)) (fun vG_32 => ck x6 10 (lt (va_up vG_32 7 (upd (vG_32 7) (Int32.toNatClampNeg x6) 0)) (fun vG_33 => ck x6 10 (lt (va_up vG_33 8 (upd (vG_33 8) (Int32.toNatClampNeg x6) 0)) (fun vG_34 => lt (va_up vG_34 0 (fun _ => ((vG_34 0 0) + 1))) (fun vG_35 => (some (x6, vG_35))))))))))))))))) else ck (x2 + x7) 600 (ck ((x6 * 5) + x7) 50 (lt (va_up vG 1 (upd (vG 1) (Int32.toNatClampNeg ((x6 * 5) + x7)) (vB 1 (Int32.toNatClampNeg (x2 + x7))))) (fun vG_36 => (rec x6 (x7 + 1) vG_36)))))
def L_X1_add_9 (vB : Nat → Nat → Int32) (x2 : Int32) (x3 : Int32) (x4 : Int32) (x5 : Int32) : Nat → Int32 → Int32 → (Nat → Nat → Int32) → Option (Int32 × (Nat → Nat → Int32))
  | 0 => fun _ _ _ => none
  | n + 1 => fun x6 x7 vG => B_X1_add_9 (L_X1_add_9 vB x2 x3 x4 x5 n) vB x2 x3 x4 x5 x6 x7 vG
def F_X1_add (vG : Nat → Nat → Int32) (vB : Nat → Nat → Int32) (x2 : Int32) (x3 : Int32) (x4 : Int32) (x5 : Int32) : Option (Int32 × (Nat → Nat → Int32)) := (L_X1_add_9 vB x2 x3 x4 x5 FU (vG 0 0) 0 vG)
abbrev rm_X1_add : Room := { frames := 0, cells := 0, slots := 0, locals := 0 }
set_option maxHeartbeats 4000000 in
set_option maxRecDepth 100000 in
theorem c_X1_add (E : Ev) (l : Launch) (aG : Nat → Nat) (aB : Nat → Nat) (vG : Nat → Nat → Int32) (vB : Nat → Nat → Int32) (x2 : Int32) (x3 : Int32) (x4 : Int32) (x5 : Int32) (r : Int32 × (Nat → Nat → Int32)) (hf : F_X1_add vG vB x2 x3 x4 x5 = some r) : CM E l yX1_add (.code yX1_add cX1_add 8 (some .int) :: GA) rm_X1_add [.ref (aG 0), .ref (aB 0), .int x2, .int x3, .int x4, .int x5] (W_G E aG vG ++ (W_B E aB vB)) (some (.int r.1)) (W_G E aG r.2 ++ (W_B E aB vB)) := by
  refine CM.of (own := RX1) rfl (by decide) (Nat.le_of_ble_eq_true rfl) ?_
  intro p e s m below meth c A ls hx hb hr hml hown hg hlocks hK hE hA hP hD hS hl
  have hl : lv_has ls 8 [(0, .ref (aG 0)), (1, .ref (aB 0)), (2, .int x2), (3, .int x3), (4, .int x4), (5, .int x5)] := hl
  have lp_9 : ∀ (n : Nat) (x6 : Int32) (x7 : Int32) (vG : Nat → Nat → Int32) (H : Heap) (locs : List Loc) (ls : Array Slot), L_X1_add_9 vB x2 x3 x4 x5 n x6 x7 vG = some r → va_P E.1 vwCl (W_G E aG vG ++ (W_B E aB vB)) H → va_D A (W_G E aG vG ++ (W_B E aB vB)) → va_S A s.heap H locs → lv_has ls 8 [(0, .ref (aG 0)), (1, .ref (aB 0)), (2, .int x2), (3, .int x3), (4, .int x4), (5, .int x5), (6, .int x6), (7, .int x7)] → W p l e rm_X1_add s m ([.ref (aG 0), .ref (aB 0), .int x2, .int x3, .int x4, .int x5] : List Value).toArray below meth c H locs 0 0 (MQ below (QW E (some (.int r.1)) (W_G E aG r.2 ++ (W_B E aB vB)) A) ([.ref (aG 0), .ref (aB 0), .int x2, .int x3, .int x4, .int x5] : List Value).toArray s 0 0 A) (F0 m 9 ls []) := by
    intro n
    induction n with
    | zero => intro x6 x7 vG H locs ls hf; cases hf
    | succ n ih =>
      intro x6 x7 vG H locs ls hf hP hD hS hl
      replace hf : B_X1_add_9 (L_X1_add_9 vB x2 x3 x4 x5 n) vB x2 x3 x4 x5 x6 x7 vG = some r := hf
      unfold B_X1_add_9 at hf
      refine lv_iload hx hb dX1_add_9 (lv_at hl 7 rfl) ?_
      refine lv_iload_n hx hb dX1_add_11 rfl (lv_at hl 3 rfl) ?_
      refine lv_icmp_ge (tgt := 42) hx hb dX1_add_12 (by decide) (fun cq => ?_) (fun cq => ?_)
      · have hf := it cq hf
        refine lv_aload_n hx hb dX1_add_42 rfl (lv_at hl 0 rfl) ?_
        refine gf_X1_19 hx hb hg hown hK hP 0 rfl rfl dX1_add_43 ?_
        refine lv_iload hx hb dX1_add_46 (lv_at hl 6 rfl) ?_
        refine lv_iload_n hx hb dX1_add_48 rfl (lv_at hl 3 rfl) ?_
        obtain ⟨hi, hf⟩ := ck_o hf
        refine ar_st (w2 := (W_G E aG (va_up vG 2 (upd (vG 2) (Int32.toNatClampNeg x6) x3)) ++ (W_B E aB vB))) hx hb hK hP hD hS 2 rfl hi rfl dX1_add_49 (fun H locs hP hD hS => ?_)
        obtain ⟨vG_28, hv, hf⟩ := lt_o hf
        rw [← hv] at hP hD
        clear hv
        refine lv_aload_n hx hb dX1_add_50 rfl (lv_at hl 0 rfl) ?_
        refine gf_X1_22 hx hb hg hown hK hP 0 rfl rfl dX1_add_51 ?_
        refine lv_iload hx hb dX1_add_54 (lv_at hl 6 rfl) ?_
        refine lv_iload hx hb dX1_add_56 (lv_at hl 4 rfl) ?_
        obtain ⟨hi, hf⟩ := ck_o hf
        refine ar_st (w2 := (W_G E aG (va_up vG_28 3 (upd (vG_28 3) (Int32.toNatClampNeg x6) x4)) ++ (W_B E aB vB))) hx hb hK hP hD hS 3 rfl hi rfl dX1_add_58 (fun H locs hP hD hS => ?_)
        obtain ⟨vG_29, hv, hf⟩ := lt_o hf
        rw [← hv] at hP hD
        clear hv
        refine lv_aload_n hx hb dX1_add_59 rfl (lv_at hl 0 rfl) ?_
        refine gf_X1_25 hx hb hg hown hK hP 0 rfl rfl dX1_add_60 ?_
        refine lv_iload hx hb dX1_add_63 (lv_at hl 6 rfl) ?_
        refine lv_iload hx hb dX1_add_65 (lv_at hl 5 rfl) ?_
        obtain ⟨hi, hf⟩ := ck_o hf
        refine ar_st (w2 := (W_G E aG (va_up vG_29 4 (upd (vG_29 4) (Int32.toNatClampNeg x6) x5)) ++ (W_B E aB vB))) hx hb hK hP hD hS 4 rfl hi rfl dX1_add_67 (fun H locs hP hD hS => ?_)
        obtain ⟨vG_30, hv, hf⟩ := lt_o hf
        rw [← hv] at hP hD
        clear hv
        refine lv_aload_n hx hb dX1_add_68 rfl (lv_at hl 0 rfl) ?_
        refine gf_X1_28 hx hb hg hown hK hP 0 rfl rfl dX1_add_69 ?_
        refine lv_iload hx hb dX1_add_72 (lv_at hl 6 rfl) ?_
        refine lv_iconst (v := (-1)) hx hb dX1_add_74 (by decide) ?_
        obtain ⟨hi, hf⟩ := ck_o hf
        refine ar_st (w2 := (W_G E aG (va_up vG_30 5 (upd (vG_30 5) (Int32.toNatClampNeg x6) (-1))) ++ (W_B E aB vB))) hx hb hK hP hD hS 5 rfl hi rfl dX1_add_75 (fun H locs hP hD hS => ?_)
        obtain ⟨vG_31, hv, hf⟩ := lt_o hf
        rw [← hv] at hP hD
        clear hv
        refine lv_aload_n hx hb dX1_add_76 rfl (lv_at hl 0 rfl) ?_
        refine gf_X1_31 hx hb hg hown hK hP 0 rfl rfl dX1_add_77 ?_
        refine lv_iload hx hb dX1_add_80 (lv_at hl 6 rfl) ?_
        refine lv_iconst (v := 0) hx hb dX1_add_82 (by decide) ?_
        obtain ⟨hi, hf⟩ := ck_o hf
        refine ar_st (w2 := (W_G E aG (va_up vG_31 6 (upd (vG_31 6) (Int32.toNatClampNeg x6) 0)) ++ (W_B E aB vB))) hx hb hK hP hD hS 6 rfl hi rfl dX1_add_83 (fun H locs hP hD hS => ?_)
        obtain ⟨vG_32, hv, hf⟩ := lt_o hf
        rw [← hv] at hP hD
        clear hv
        refine lv_aload_n hx hb dX1_add_84 rfl (lv_at hl 0 rfl) ?_
        refine gf_X1_34 hx hb hg hown hK hP 0 rfl rfl dX1_add_85 ?_
        refine lv_iload hx hb dX1_add_88 (lv_at hl 6 rfl) ?_
        refine lv_iconst (v := 0) hx hb dX1_add_90 (by decide) ?_
        obtain ⟨hi, hf⟩ := ck_o hf
        refine ar_st (w2 := (W_G E aG (va_up vG_32 7 (upd (vG_32 7) (Int32.toNatClampNeg x6) 0)) ++ (W_B E aB vB))) hx hb hK hP hD hS 7 rfl hi rfl dX1_add_91 (fun H locs hP hD hS => ?_)
        obtain ⟨vG_33, hv, hf⟩ := lt_o hf
        rw [← hv] at hP hD
        clear hv
        refine lv_aload_n hx hb dX1_add_92 rfl (lv_at hl 0 rfl) ?_
        refine gf_X1_37 hx hb hg hown hK hP 0 rfl rfl dX1_add_93 ?_
        refine lv_iload hx hb dX1_add_96 (lv_at hl 6 rfl) ?_
        refine lv_iconst (v := 0) hx hb dX1_add_98 (by decide) ?_
        obtain ⟨hi, hf⟩ := ck_o hf
        refine ar_st (w2 := (W_G E aG (va_up vG_33 8 (upd (vG_33 8) (Int32.toNatClampNeg x6) 0)) ++ (W_B E aB vB))) hx hb hK hP hD hS 8 rfl hi rfl dX1_add_99 (fun H locs hP hD hS => ?_)
        obtain ⟨vG_34, hv, hf⟩ := lt_o hf
        rw [← hv] at hP hD
        clear hv
        refine lv_aload_n hx hb dX1_add_100 rfl (lv_at hl 0 rfl) ?_
        refine lv_dup hx hb dX1_add_101 rfl ?_
        refine gf_X1_9 hx hb hg hown hK hP 0 rfl rfl dX1_add_102 ?_
        refine lv_iconst (v := 1) hx hb dX1_add_105 (by decide) ?_
        refine lv_iadd hx hb dX1_add_106 ?_
        refine pf_X1_9 (w2 := (W_G E aG (va_up vG_34 0 (fun _ => ((vG_34 0 0) + 1))) ++ (W_B E aB vB))) hx hb hg hown hK hP hD hS 0 rfl (Nat.le_of_ble_eq_true rfl) rfl dX1_add_107 (fun H locs hP hD hS => ?_)
        obtain ⟨vG_35, hv, hf⟩ := lt_o hf
        rw [← hv] at hP hD
        clear hv
        refine lv_iload hx hb dX1_add_110 (lv_at hl 6 rfl) ?_
        obtain rfl := Option.some.inj hf
        exact cm_iret hx hb hr hlocks hP hS dX1_add_112
      · have hf := ie cq hf
        refine lv_aload_n hx hb dX1_add_15 rfl (lv_at hl 0 rfl) ?_
        refine gf_X1_15 hx hb hg hown hK hP 0 rfl rfl dX1_add_16 ?_
        refine lv_iload hx hb dX1_add_19 (lv_at hl 6 rfl) ?_
        refine lv_iconst (v := 5) hx hb dX1_add_21 (by decide) ?_
        refine lv_imul hx hb dX1_add_22 ?_
        refine lv_iload hx hb dX1_add_23 (lv_at hl 7 rfl) ?_
        refine lv_iadd hx hb dX1_add_25 ?_
        refine lv_aload_n hx hb dX1_add_26 rfl (lv_at hl 1 rfl) ?_
        refine gf_X1_40 hx hb hg hown hK hP 9 rfl rfl dX1_add_27 ?_
        refine lv_iload_n hx hb dX1_add_30 rfl (lv_at hl 2 rfl) ?_
        refine lv_iload hx hb dX1_add_31 (lv_at hl 7 rfl) ?_
        refine lv_iadd hx hb dX1_add_33 ?_
        obtain ⟨hi, hf⟩ := ck_o hf
        refine ar_ld hx hb hK hP 10 rfl hi dX1_add_34 ?_
        obtain ⟨hi, hf⟩ := ck_o hf
        refine ar_st (w2 := (W_G E aG (va_up vG 1 (upd (vG 1) (Int32.toNatClampNeg ((x6 * 5) + x7)) (vB 1 (Int32.toNatClampNeg (x2 + x7))))) ++ (W_B E aB vB))) hx hb hK hP hD hS 1 rfl hi rfl dX1_add_35 (fun H locs hP hD hS => ?_)
        obtain ⟨vG_36, hv, hf⟩ := lt_o hf
        rw [← hv] at hP hD
        clear hv
        refine lv_iinc (v := (x7 + 1)) (lv' := [(7, .int (x7 + 1)), (0, .ref (aG 0)), (1, .ref (aB 0)), (2, .int x2), (3, .int x3), (4, .int x4), (5, .int x5), (6, .int x6)]) hx hb dX1_add_36 hl (k := 7) rfl rfl (by decide) rfl (fun ls hl => ?_)
        refine lv_goto (tgt := 9) hx hb dX1_add_39 (by decide) ?_
        exact ih _ _ _ _ _ _ hf hP hD hS (lv_sub hl [1, 2, 3, 4, 5, 6, 7, 0] rfl)
  unfold F_X1_add at hf
  refine lv_aload_n hx hb dX1_add_0 rfl (lv_at hl 0 rfl) ?_
  refine gf_X1_9 hx hb hg hown hK hP 0 rfl rfl dX1_add_1 ?_
  refine lv_istore (lv' := [(6, .int (vG 0 0)), (0, .ref (aG 0)), (1, .ref (aB 0)), (2, .int x2), (3, .int x3), (4, .int x4), (5, .int x5)]) hx hb dX1_add_4 hl (by decide) rfl (fun ls hl => ?_)
  refine lv_iconst (v := 0) hx hb dX1_add_6 (by decide) ?_
  refine lv_istore (lv' := [(7, .int 0), (6, .int (vG 0 0)), (0, .ref (aG 0)), (1, .ref (aB 0)), (2, .int x2), (3, .int x3), (4, .int x4), (5, .int x5)]) hx hb dX1_add_7 hl (by decide) rfl (fun ls hl => ?_)
  exact lp_9 FU _ _ _ _ _ _ hf hP hD hS (lv_sub hl [2, 3, 4, 5, 6, 7, 1, 0] rfl)
def F_X1_copyFrom (vG : Nat → Nat → Int32) (vG1 : Nat → Nat → Int32) : Option ((Nat → Nat → Int32)) := lt (va_up vG 0 (fun _ => (vG1 0 0))) (fun vG_19 => lt (va_up vG_19 1 (va_cpy (vG1 1) (vG_19 1) 0 0 50)) (fun vG_20 => lt (va_up vG_20 2 (va_cpy (vG1 2) (vG_20 2) 0 0 10)) (fun vG_21 => lt (va_up vG_21 3 (va_cpy (vG1 3) (vG_21 3) 0 0 10)) (fun vG_22 => lt (va_up vG_22 4 (va_cpy (vG1 4) (vG_22 4) 0 0 10)) (fun vG_23 => lt (va_up vG_23 5 (va_cpy (vG1 5) (vG_23 5) 0 0 10)) (fun vG_24 => lt (va_up vG_24 6 (va_cpy (vG1 6) (vG_24 6) 0 0 10)) (fun vG_25 => lt (va_up vG_25 7 (va_cpy (vG1 7) (vG_25 7) 0 0 10)) (fun vG_26 => lt (va_up vG_26 8 (va_cpy (vG1 8) (vG_26 8) 0 0 10)) (fun vG_27 => (some vG_27))))))))))
abbrev rm_X1_copyFrom : Room := { frames := 1, cells := 0, slots := 0, locals := 60 }
set_option maxHeartbeats 4000000 in
set_option maxRecDepth 100000 in
theorem c_X1_copyFrom (E : Ev) (l : Launch) (aG : Nat → Nat) (aG1 : Nat → Nat) (vG : Nat → Nat → Int32) (vG1 : Nat → Nat → Int32) (r : (Nat → Nat → Int32)) (hf : F_X1_copyFrom vG vG1 = some r) : CM E l yX1_copyFrom (.code yX1_copyFrom cX1_copyFrom 2 none :: GA) rm_X1_copyFrom [.ref (aG 0), .ref (aG1 0)] (W_G E aG vG ++ (W_G E aG1 vG1)) none (W_G E aG r ++ (W_G E aG1 vG1)) := by
  refine CM.of (own := RX1) rfl (by decide) (Nat.le_of_ble_eq_true rfl) ?_
  intro p e s m below meth c A ls hx hb hr hml hown hg hlocks hK hE hA hP hD hS hl
  have hl : lv_has ls 2 [(0, .ref (aG 0)), (1, .ref (aG1 0))] := hl
  unfold F_X1_copyFrom at hf
  refine lv_aload_n hx hb dX1_copyFrom_0 rfl (lv_at hl 0 rfl) ?_
  refine lv_aload_n hx hb dX1_copyFrom_1 rfl (lv_at hl 1 rfl) ?_
  refine gf_X1_9 hx hb hg hown hK hP 9 rfl rfl dX1_copyFrom_2 ?_
  refine pf_X1_9 (w2 := (W_G E aG (va_up vG 0 (fun _ => (vG1 0 0))) ++ (W_G E aG1 vG1))) hx hb hg hown hK hP hD hS 0 rfl (Nat.le_of_ble_eq_true rfl) rfl dX1_copyFrom_5 (fun H locs hP hD hS => ?_)
  obtain ⟨vG_19, hv, hf⟩ := lt_o hf
  rw [← hv] at hP hD
  clear hv
  refine lv_aload_n hx hb dX1_copyFrom_8 rfl (lv_at hl 1 rfl) ?_
  refine gf_X1_15 hx hb hg hown hK hP 9 rfl rfl dX1_copyFrom_9 ?_
  refine lv_iconst (v := 0) hx hb dX1_copyFrom_12 (by decide) ?_
  refine lv_aload_n hx hb dX1_copyFrom_13 rfl (lv_at hl 0 rfl) ?_
  refine gf_X1_15 hx hb hg hown hK hP 0 rfl rfl dX1_copyFrom_14 ?_
  refine lv_iconst (v := 0) hx hb dX1_copyFrom_17 (by decide) ?_
  refine lv_aload_n hx hb dX1_copyFrom_18 rfl (lv_at hl 0 rfl) ?_
  refine gf_X1_15 hx hb hg hown hK hP 0 rfl rfl dX1_copyFrom_19 ?_
  refine va_alen (v := 50) hx hb hK.1 hP 1 0 rfl rfl rfl dX1_copyFrom_22 ?_
  refine ar_cp (w2 := (W_G E aG (va_up vG_19 1 (va_cpy (vG1 1) (vG_19 1) 0 0 50)) ++ (W_G E aG1 vG1))) hx hb hml hl.1 hown hg ml_X1_66 hK hP hD hS 10 1 rfl rfl (by decide) (by decide) (by decide) (Nat.le_of_ble_eq_true rfl) (Nat.le_of_ble_eq_true rfl) (Nat.le_of_ble_eq_true rfl) (Nat.le_of_ble_eq_true rfl) rfl dX1_copyFrom_23 (fun H locs hP hD hS => ?_)
  obtain ⟨vG_20, hv, hf⟩ := lt_o hf
  rw [← hv] at hP hD
  clear hv
  refine lv_aload_n hx hb dX1_copyFrom_26 rfl (lv_at hl 1 rfl) ?_
  refine gf_X1_19 hx hb hg hown hK hP 9 rfl rfl dX1_copyFrom_27 ?_
  refine lv_iconst (v := 0) hx hb dX1_copyFrom_30 (by decide) ?_
  refine lv_aload_n hx hb dX1_copyFrom_31 rfl (lv_at hl 0 rfl) ?_
  refine gf_X1_19 hx hb hg hown hK hP 0 rfl rfl dX1_copyFrom_32 ?_
  refine lv_iconst (v := 0) hx hb dX1_copyFrom_35 (by decide) ?_
  refine lv_bipush (v := 10) hx hb dX1_copyFrom_36 (by decide) ?_
  refine ar_cp (w2 := (W_G E aG (va_up vG_20 2 (va_cpy (vG1 2) (vG_20 2) 0 0 10)) ++ (W_G E aG1 vG1))) hx hb hml hl.1 hown hg ml_X1_66 hK hP hD hS 11 2 rfl rfl (by decide) (by decide) (by decide) (Nat.le_of_ble_eq_true rfl) (Nat.le_of_ble_eq_true rfl) (Nat.le_of_ble_eq_true rfl) (Nat.le_of_ble_eq_true rfl) rfl dX1_copyFrom_38 (fun H locs hP hD hS => ?_)
  obtain ⟨vG_21, hv, hf⟩ := lt_o hf
  rw [← hv] at hP hD
  clear hv
  refine lv_aload_n hx hb dX1_copyFrom_41 rfl (lv_at hl 1 rfl) ?_
  refine gf_X1_22 hx hb hg hown hK hP 9 rfl rfl dX1_copyFrom_42 ?_
  refine lv_iconst (v := 0) hx hb dX1_copyFrom_45 (by decide) ?_
  refine lv_aload_n hx hb dX1_copyFrom_46 rfl (lv_at hl 0 rfl) ?_
  refine gf_X1_22 hx hb hg hown hK hP 0 rfl rfl dX1_copyFrom_47 ?_
  refine lv_iconst (v := 0) hx hb dX1_copyFrom_50 (by decide) ?_
  refine lv_bipush (v := 10) hx hb dX1_copyFrom_51 (by decide) ?_
  refine ar_cp (w2 := (W_G E aG (va_up vG_21 3 (va_cpy (vG1 3) (vG_21 3) 0 0 10)) ++ (W_G E aG1 vG1))) hx hb hml hl.1 hown hg ml_X1_66 hK hP hD hS 12 3 rfl rfl (by decide) (by decide) (by decide) (Nat.le_of_ble_eq_true rfl) (Nat.le_of_ble_eq_true rfl) (Nat.le_of_ble_eq_true rfl) (Nat.le_of_ble_eq_true rfl) rfl dX1_copyFrom_53 (fun H locs hP hD hS => ?_)
  obtain ⟨vG_22, hv, hf⟩ := lt_o hf
  rw [← hv] at hP hD
  clear hv
  refine lv_aload_n hx hb dX1_copyFrom_56 rfl (lv_at hl 1 rfl) ?_
  refine gf_X1_25 hx hb hg hown hK hP 9 rfl rfl dX1_copyFrom_57 ?_
  refine lv_iconst (v := 0) hx hb dX1_copyFrom_60 (by decide) ?_
  refine lv_aload_n hx hb dX1_copyFrom_61 rfl (lv_at hl 0 rfl) ?_
  refine gf_X1_25 hx hb hg hown hK hP 0 rfl rfl dX1_copyFrom_62 ?_
  refine lv_iconst (v := 0) hx hb dX1_copyFrom_65 (by decide) ?_
  refine lv_bipush (v := 10) hx hb dX1_copyFrom_66 (by decide) ?_
  refine ar_cp (w2 := (W_G E aG (va_up vG_22 4 (va_cpy (vG1 4) (vG_22 4) 0 0 10)) ++ (W_G E aG1 vG1))) hx hb hml hl.1 hown hg ml_X1_66 hK hP hD hS 13 4 rfl rfl (by decide) (by decide) (by decide) (Nat.le_of_ble_eq_true rfl) (Nat.le_of_ble_eq_true rfl) (Nat.le_of_ble_eq_true rfl) (Nat.le_of_ble_eq_true rfl) rfl dX1_copyFrom_68 (fun H locs hP hD hS => ?_)
  obtain ⟨vG_23, hv, hf⟩ := lt_o hf
  rw [← hv] at hP hD
  clear hv
  refine lv_aload_n hx hb dX1_copyFrom_71 rfl (lv_at hl 1 rfl) ?_
  refine gf_X1_28 hx hb hg hown hK hP 9 rfl rfl dX1_copyFrom_72 ?_
  refine lv_iconst (v := 0) hx hb dX1_copyFrom_75 (by decide) ?_
  refine lv_aload_n hx hb dX1_copyFrom_76 rfl (lv_at hl 0 rfl) ?_
  refine gf_X1_28 hx hb hg hown hK hP 0 rfl rfl dX1_copyFrom_77 ?_
  refine lv_iconst (v := 0) hx hb dX1_copyFrom_80 (by decide) ?_
  refine lv_bipush (v := 10) hx hb dX1_copyFrom_81 (by decide) ?_
  refine ar_cp (w2 := (W_G E aG (va_up vG_23 5 (va_cpy (vG1 5) (vG_23 5) 0 0 10)) ++ (W_G E aG1 vG1))) hx hb hml hl.1 hown hg ml_X1_66 hK hP hD hS 14 5 rfl rfl (by decide) (by decide) (by decide) (Nat.le_of_ble_eq_true rfl) (Nat.le_of_ble_eq_true rfl) (Nat.le_of_ble_eq_true rfl) (Nat.le_of_ble_eq_true rfl) rfl dX1_copyFrom_83 (fun H locs hP hD hS => ?_)
  obtain ⟨vG_24, hv, hf⟩ := lt_o hf
  rw [← hv] at hP hD
  clear hv
  refine lv_aload_n hx hb dX1_copyFrom_86 rfl (lv_at hl 1 rfl) ?_
  refine gf_X1_31 hx hb hg hown hK hP 9 rfl rfl dX1_copyFrom_87 ?_
  refine lv_iconst (v := 0) hx hb dX1_copyFrom_90 (by decide) ?_
  refine lv_aload_n hx hb dX1_copyFrom_91 rfl (lv_at hl 0 rfl) ?_
  refine gf_X1_31 hx hb hg hown hK hP 0 rfl rfl dX1_copyFrom_92 ?_
  refine lv_iconst (v := 0) hx hb dX1_copyFrom_95 (by decide) ?_
  refine lv_bipush (v := 10) hx hb dX1_copyFrom_96 (by decide) ?_
  refine ar_cp (w2 := (W_G E aG (va_up vG_24 6 (va_cpy (vG1 6) (vG_24 6) 0 0 10)) ++ (W_G E aG1 vG1))) hx hb hml hl.1 hown hg ml_X1_66 hK hP hD hS 15 6 rfl rfl (by decide) (by decide) (by decide) (Nat.le_of_ble_eq_true rfl) (Nat.le_of_ble_eq_true rfl) (Nat.le_of_ble_eq_true rfl) (Nat.le_of_ble_eq_true rfl) rfl dX1_copyFrom_98 (fun H locs hP hD hS => ?_)
  obtain ⟨vG_25, hv, hf⟩ := lt_o hf
  rw [← hv] at hP hD
  clear hv
  refine lv_aload_n hx hb dX1_copyFrom_101 rfl (lv_at hl 1 rfl) ?_
  refine gf_X1_34 hx hb hg hown hK hP 9 rfl rfl dX1_copyFrom_102 ?_
  refine lv_iconst (v := 0) hx hb dX1_copyFrom_105 (by decide) ?_
  refine lv_aload_n hx hb dX1_copyFrom_106 rfl (lv_at hl 0 rfl) ?_
  refine gf_X1_34 hx hb hg hown hK hP 0 rfl rfl dX1_copyFrom_107 ?_
  refine lv_iconst (v := 0) hx hb dX1_copyFrom_110 (by decide) ?_
  refine lv_bipush (v := 10) hx hb dX1_copyFrom_111 (by decide) ?_
  refine ar_cp (w2 := (W_G E aG (va_up vG_25 7 (va_cpy (vG1 7) (vG_25 7) 0 0 10)) ++ (W_G E aG1 vG1))) hx hb hml hl.1 hown hg ml_X1_66 hK hP hD hS 16 7 rfl rfl (by decide) (by decide) (by decide) (Nat.le_of_ble_eq_true rfl) (Nat.le_of_ble_eq_true rfl) (Nat.le_of_ble_eq_true rfl) (Nat.le_of_ble_eq_true rfl) rfl dX1_copyFrom_113 (fun H locs hP hD hS => ?_)
  obtain ⟨vG_26, hv, hf⟩ := lt_o hf
  rw [← hv] at hP hD
  clear hv
  refine lv_aload_n hx hb dX1_copyFrom_116 rfl (lv_at hl 1 rfl) ?_
  refine gf_X1_37 hx hb hg hown hK hP 9 rfl rfl dX1_copyFrom_117 ?_
  refine lv_iconst (v := 0) hx hb dX1_copyFrom_120 (by decide) ?_
  refine lv_aload_n hx hb dX1_copyFrom_121 rfl (lv_at hl 0 rfl) ?_
  refine gf_X1_37 hx hb hg hown hK hP 0 rfl rfl dX1_copyFrom_122 ?_
  refine lv_iconst (v := 0) hx hb dX1_copyFrom_125 (by decide) ?_
  refine lv_bipush (v := 10) hx hb dX1_copyFrom_126 (by decide) ?_
  refine ar_cp (w2 := (W_G E aG (va_up vG_26 8 (va_cpy (vG1 8) (vG_26 8) 0 0 10)) ++ (W_G E aG1 vG1))) hx hb hml hl.1 hown hg ml_X1_66 hK hP hD hS 17 8 rfl rfl (by decide) (by decide) (by decide) (Nat.le_of_ble_eq_true rfl) (Nat.le_of_ble_eq_true rfl) (Nat.le_of_ble_eq_true rfl) (Nat.le_of_ble_eq_true rfl) rfl dX1_copyFrom_128 (fun H locs hP hD hS => ?_)
  obtain ⟨vG_27, hv, hf⟩ := lt_o hf
  rw [← hv] at hP hD
  clear hv
  obtain rfl := Option.some.inj hf
  exact cm_vret hx hb hr hlocks hP hS dX1_copyFrom_131
