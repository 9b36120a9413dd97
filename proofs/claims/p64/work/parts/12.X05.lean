def F_X0_add (vB : Nat → Nat → Int32) (x1 : Int32) : Option ((Nat → Nat → Int32)) := (if 600 ≤ (vB 0 0) then (some vB) else ck (vB 0 0) 600 (lt (va_up vB 1 (upd (vB 1) (Int32.toNatClampNeg (vB 0 0)) (x1 &&& 255))) (fun vB_5 => lt (va_up vB_5 0 (fun _ => ((vB_5 0 0) + 1))) (fun vB_6 => (some vB_6)))))
abbrev rm_X0_add : Room := { frames := 0, cells := 0, slots := 0, locals := 0 }
set_option maxHeartbeats 4000000 in
set_option maxRecDepth 100000 in
theorem c_X0_add (E : Ev) (l : Launch) (aB : Nat → Nat) (vB : Nat → Nat → Int32) (x1 : Int32) (r : (Nat → Nat → Int32)) (hf : F_X0_add vB x1 = some r) : CM E l yX0_add (.code yX0_add cX0_add 2 none :: GA) rm_X0_add [.ref (aB 0), .int x1] (W_B E aB vB) none (W_B E aB r) := by
  refine CM.of (own := RX0) rfl (by decide) (Nat.le_of_ble_eq_true rfl) ?_
  intro p e s m below meth c A ls hx hb hr hml hown hg hlocks hK hE hA hP hD hS hl
  have hl : lv_has ls 2 [(0, .ref (aB 0)), (1, .int x1)] := hl
  unfold F_X0_add at hf
  refine lv_aload_n hx hb dX0_add_0 rfl (lv_at hl 0 rfl) ?_
  refine gf_X0_15 hx hb hg hown hK hP 0 rfl rfl dX0_add_1 ?_
  refine lv_sipush (v := 600) hx hb dX0_add_4 (by decide) ?_
  refine lv_icmp_ge (tgt := 34) hx hb dX0_add_7 (by decide) (fun cq => ?_) (fun cq => ?_)
  · have hf := it cq hf
    obtain rfl := Option.some.inj hf
    exact cm_vret hx hb hr hlocks hP hS dX0_add_34
  · have hf := ie cq hf
    refine lv_aload_n hx hb dX0_add_10 rfl (lv_at hl 0 rfl) ?_
    refine gf_X0_9 hx hb hg hown hK hP 0 rfl rfl dX0_add_11 ?_
    refine lv_aload_n hx hb dX0_add_14 rfl (lv_at hl 0 rfl) ?_
    refine gf_X0_15 hx hb hg hown hK hP 0 rfl rfl dX0_add_15 ?_
    refine lv_iload_n hx hb dX0_add_18 rfl (lv_at hl 1 rfl) ?_
    refine lv_sipush (v := 255) hx hb dX0_add_19 (by decide) ?_
    refine lv_iand hx hb dX0_add_22 ?_
    obtain ⟨hi, hf⟩ := ck_o hf
    refine ar_st (w2 := (W_B E aB (va_up vB 1 (upd (vB 1) (Int32.toNatClampNeg (vB 0 0)) (x1 &&& 255))))) hx hb hK hP hD hS 1 rfl hi rfl dX0_add_23 (fun H locs hP hD hS => ?_)
    obtain ⟨vB_5, hv, hf⟩ := lt_o hf
    rw [← hv] at hP hD
    clear hv
    refine lv_aload_n hx hb dX0_add_24 rfl (lv_at hl 0 rfl) ?_
    refine lv_dup hx hb dX0_add_25 rfl ?_
    refine gf_X0_15 hx hb hg hown hK hP 0 rfl rfl dX0_add_26 ?_
    refine lv_iconst (v := 1) hx hb dX0_add_29 (by decide) ?_
    refine lv_iadd hx hb dX0_add_30 ?_
    refine pf_X0_15 (w2 := (W_B E aB (va_up vB_5 0 (fun _ => ((vB_5 0 0) + 1))))) hx hb hg hown hK hP hD hS 0 rfl (Nat.le_of_ble_eq_true rfl) rfl dX0_add_31 (fun H locs hP hD hS => ?_)
    obtain ⟨vB_6, hv, hf⟩ := lt_o hf
    rw [← hv] at hP hD
    clear hv
    obtain rfl := Option.some.inj hf
    exact cm_vret hx hb hr hlocks hP hS dX0_add_34
def F_X0_addFour (vB : Nat → Nat → Int32) (x1 : Int32) : Option ((Nat → Nat → Int32)) := (F_X0_add vB ((Int32.toUInt32 x1 >>> (Int32.toUInt32 24 &&& Int32.toUInt32 31)).toInt32)).bind (fun u1 => (F_X0_add u1 ((Int32.toUInt32 x1 >>> (Int32.toUInt32 16 &&& Int32.toUInt32 31)).toInt32)).bind (fun u2 => (F_X0_add u2 ((Int32.toUInt32 x1 >>> (Int32.toUInt32 8 &&& Int32.toUInt32 31)).toInt32)).bind (fun u3 => (F_X0_add u3 x1).bind (fun u4 => (some u4)))))
abbrev rm_X0_addFour : Room := { frames := 1, cells := 0, slots := 0, locals := 21 }
set_option maxHeartbeats 4000000 in
set_option maxRecDepth 100000 in
theorem c_X0_addFour (E : Ev) (l : Launch) (aB : Nat → Nat) (vB : Nat → Nat → Int32) (x1 : Int32) (r : (Nat → Nat → Int32)) (hf : F_X0_addFour vB x1 = some r) : CM E l yX0_addFour (.code yX0_addFour cX0_addFour 2 none :: GA) rm_X0_addFour [.ref (aB 0), .int x1] (W_B E aB vB) none (W_B E aB r) := by
  refine CM.of (own := RX0) rfl (by decide) (Nat.le_of_ble_eq_true rfl) ?_
  intro p e s m below meth c A ls hx hb hr hml hown hg hlocks hK hE hA hP hD hS hl
  have hl : lv_has ls 2 [(0, .ref (aB 0)), (1, .int x1)] := hl
  unfold F_X0_addFour at hf
  refine lv_aload_n hx hb dX0_addFour_0 rfl (lv_at hl 0 rfl) ?_
  refine lv_iload_n hx hb dX0_addFour_1 rfl (lv_at hl 1 rfl) ?_
  refine lv_bipush (v := 24) hx hb dX0_addFour_2 (by decide) ?_
  refine lv_iushr (v := ((Int32.toUInt32 x1 >>> (Int32.toUInt32 24 &&& Int32.toUInt32 31)).toInt32)) hx hb dX0_addFour_4 rfl ?_
  obtain ⟨u1, hu1, hf⟩ := bn hf
  refine cm_V (As := [.int ((Int32.toUInt32 x1 >>> (Int32.toUInt32 24 &&& Int32.toUInt32 31)).toInt32)]) (rest := []) (w2 := (W_B E aB u1)) hx hb hml hown hg (c_X0_add E l aB vB ((Int32.toUInt32 x1 >>> (Int32.toUInt32 24 &&& Int32.toUInt32 31)).toInt32) u1 hu1) cy_X0_add ml_X0_19 ⟨⟨rfl, rfl⟩, Nat.le_of_ble_eq_true rfl, Nat.le_of_ble_eq_true rfl⟩ hK hE hP hD hS hA [true, true] rfl rfl rfl 0 rfl rfl rfl hl.1 rfl (Nat.le_of_ble_eq_true rfl) dX0_addFour_5 ⟨Nat.le_of_ble_eq_true rfl, Nat.le_of_ble_eq_true rfl⟩ [] rfl (fun H locs hP hD hS => ?_)
  refine lv_aload_n hx hb dX0_addFour_8 rfl (lv_at hl 0 rfl) ?_
  refine lv_iload_n hx hb dX0_addFour_9 rfl (lv_at hl 1 rfl) ?_
  refine lv_bipush (v := 16) hx hb dX0_addFour_10 (by decide) ?_
  refine lv_iushr (v := ((Int32.toUInt32 x1 >>> (Int32.toUInt32 16 &&& Int32.toUInt32 31)).toInt32)) hx hb dX0_addFour_12 rfl ?_
  obtain ⟨u2, hu2, hf⟩ := bn hf
  refine cm_V (As := [.int ((Int32.toUInt32 x1 >>> (Int32.toUInt32 16 &&& Int32.toUInt32 31)).toInt32)]) (rest := []) (w2 := (W_B E aB u2)) hx hb hml hown hg (c_X0_add E l aB u1 ((Int32.toUInt32 x1 >>> (Int32.toUInt32 16 &&& Int32.toUInt32 31)).toInt32) u2 hu2) cy_X0_add ml_X0_19 ⟨⟨rfl, rfl⟩, Nat.le_of_ble_eq_true rfl, Nat.le_of_ble_eq_true rfl⟩ hK hE hP hD hS hA [true, true] rfl rfl rfl 0 rfl rfl rfl hl.1 rfl (Nat.le_of_ble_eq_true rfl) dX0_addFour_13 ⟨Nat.le_of_ble_eq_true rfl, Nat.le_of_ble_eq_true rfl⟩ [] rfl (fun H locs hP hD hS => ?_)
  refine lv_aload_n hx hb dX0_addFour_16 rfl (lv_at hl 0 rfl) ?_
  refine lv_iload_n hx hb dX0_addFour_17 rfl (lv_at hl 1 rfl) ?_
  refine lv_bipush (v := 8) hx hb dX0_addFour_18 (by decide) ?_
  refine lv_iushr (v := ((Int32.toUInt32 x1 >>> (Int32.toUInt32 8 &&& Int32.toUInt32 31)).toInt32)) hx hb dX0_addFour_20 rfl ?_
  obtain ⟨u3, hu3, hf⟩ := bn hf
  refine cm_V (As := [.int ((Int32.toUInt32 x1 >>> (Int32.toUInt32 8 &&& Int32.toUInt32 31)).toInt32)]) (rest := []) (w2 := (W_B E aB u3)) hx hb hml hown hg (c_X0_add E l aB u2 ((Int32.toUInt32 x1 >>> (Int32.toUInt32 8 &&& Int32.toUInt32 31)).toInt32) u3 hu3) cy_X0_add ml_X0_19 ⟨⟨rfl, rfl⟩, Nat.le_of_ble_eq_true rfl, Nat.le_of_ble_eq_true rfl⟩ hK hE hP hD hS hA [true, true] rfl rfl rfl 0 rfl rfl rfl hl.1 rfl (Nat.le_of_ble_eq_true rfl) dX0_addFour_21 ⟨Nat.le_of_ble_eq_true rfl, Nat.le_of_ble_eq_true rfl⟩ [] rfl (fun H locs hP hD hS => ?_)
  refine lv_aload_n hx hb dX0_addFour_24 rfl (lv_at hl 0 rfl) ?_
  refine lv_iload_n hx hb dX0_addFour_25 rfl (lv_at hl 1 rfl) ?_
  obtain ⟨u4, hu4, hf⟩ := bn hf
  refine cm_V (As := [.int x1]) (rest := []) (w2 := (W_B E aB u4)) hx hb hml hown hg (c_X0_add E l aB u3 x1 u4 hu4) cy_X0_add ml_X0_19 ⟨⟨rfl, rfl⟩, Nat.le_of_ble_eq_true rfl, Nat.le_of_ble_eq_true rfl⟩ hK hE hP hD hS hA [true, true] rfl rfl rfl 0 rfl rfl rfl hl.1 rfl (Nat.le_of_ble_eq_true rfl) dX0_addFour_26 ⟨Nat.le_of_ble_eq_true rfl, Nat.le_of_ble_eq_true rfl⟩ [] rfl (fun H locs hP hD hS => ?_)
  obtain rfl := Option.some.inj hf
  exact cm_vret hx hb hr hlocks hP hS dX0_addFour_29
def J_X0_addMinute_17 (x1 : Int32) (vB : Nat → Nat → Int32) : Option ((Nat → Nat → Int32)) := (if x1 < 10 then (F_X0_add vB (48 + (x1 - x1 / 10 * 10))).bind (fun u1 => (some u1)) else (F_X0_add vB (48 + ((x1 / 10) - (x1 / 10) / 10 * 10))).bind (fun u2 => (F_X0_add u2 (48 + (x1 - x1 / 10 * 10))).bind (fun u3 => (some u3))))
def F_X0_addMinute (vB : Nat → Nat → Int32) (x1 : Int32) : Option ((Nat → Nat → Int32)) := (if x1 < 100 then (J_X0_addMinute_17 x1 vB) else (F_X0_add vB (48 + (x1 / 100))).bind (fun u1 => (J_X0_addMinute_17 x1 u1)))
abbrev rm_X0_addMinute : Room := { frames := 1, cells := 0, slots := 0, locals := 21 }
set_option maxHeartbeats 4000000 in
set_option maxRecDepth 100000 in
theorem c_X0_addMinute (E : Ev) (l : Launch) (aB : Nat → Nat) (vB : Nat → Nat → Int32) (x1 : Int32) (r : (Nat → Nat → Int32)) (hf : F_X0_addMinute vB x1 = some r) : CM E l yX0_addMinute (.code yX0_addMinute cX0_addMinute 2 none :: GA) rm_X0_addMinute [.ref (aB 0), .int x1] (W_B E aB vB) none (W_B E aB r) := by
  refine CM.of (own := RX0) rfl (by decide) (Nat.le_of_ble_eq_true rfl) ?_
  intro p e s m below meth c A ls hx hb hr hml hown hg hlocks hK hE hA hP hD hS hl
  have hl : lv_has ls 2 [(0, .ref (aB 0)), (1, .int x1)] := hl
  have jp_17 : ∀ (vB : Nat → Nat → Int32) (H : Heap) (locs : List Loc) (ls : Array Slot), J_X0_addMinute_17 x1 vB = some r → va_P E.1 vwCl (W_B E aB vB) H → va_D A (W_B E aB vB) → va_S A s.heap H locs → lv_has ls 2 [(0, .ref (aB 0)), (1, .int x1)] → W p l e rm_X0_addMinute s m ([.ref (aB 0), .int x1] : List Value).toArray below meth c H locs 0 0 (MQ below (QW E none (W_B E aB r) A) ([.ref (aB 0), .int x1] : List Value).toArray s 0 0 A) (F0 m 17 ls []) := by
    intro vB H locs ls hf hP hD hS hl
    unfold J_X0_addMinute_17 at hf
    refine lv_iload_n hx hb dX0_addMinute_17 rfl (lv_at hl 1 rfl) ?_
    refine lv_bipush (v := 10) hx hb dX0_addMinute_18 (by decide) ?_
    refine lv_icmp_lt (tgt := 37) hx hb dX0_addMinute_20 (by decide) (fun cq => ?_) (fun cq => ?_)
    · have hf := it cq hf
      refine lv_aload_n hx hb dX0_addMinute_37 rfl (lv_at hl 0 rfl) ?_
      refine lv_bipush (v := 48) hx hb dX0_addMinute_38 (by decide) ?_
      refine lv_iload_n hx hb dX0_addMinute_40 rfl (lv_at hl 1 rfl) ?_
      refine lv_bipush (v := 10) hx hb dX0_addMinute_41 (by decide) ?_
      refine lv_irem hx hb dX0_addMinute_43 (by decide) ?_
      refine lv_iadd hx hb dX0_addMinute_44 ?_
      obtain ⟨u1, hu1, hf⟩ := bn hf
      refine cm_V (As := [.int (48 + (x1 - x1 / 10 * 10))]) (rest := []) (w2 := (W_B E aB u1)) hx hb hml hown hg (c_X0_add E l aB vB (48 + (x1 - x1 / 10 * 10)) u1 hu1) cy_X0_add ml_X0_19 ⟨⟨rfl, rfl⟩, Nat.le_of_ble_eq_true rfl, Nat.le_of_ble_eq_true rfl⟩ hK hE hP hD hS hA [true, true] rfl rfl rfl 0 rfl rfl rfl hl.1 rfl (Nat.le_of_ble_eq_true rfl) dX0_addMinute_45 ⟨Nat.le_of_ble_eq_true rfl, Nat.le_of_ble_eq_true rfl⟩ [] rfl (fun H locs hP hD hS => ?_)
      obtain rfl := Option.some.inj hf
      exact cm_vret hx hb hr hlocks hP hS dX0_addMinute_48
    · have hf := ie cq hf
      refine lv_aload_n hx hb dX0_addMinute_23 rfl (lv_at hl 0 rfl) ?_
      refine lv_bipush (v := 48) hx hb dX0_addMinute_24 (by decide) ?_
      refine lv_iload_n hx hb dX0_addMinute_26 rfl (lv_at hl 1 rfl) ?_
      refine lv_bipush (v := 10) hx hb dX0_addMinute_27 (by decide) ?_
      refine lv_idiv hx hb dX0_addMinute_29 (by decide) ?_
      refine lv_bipush (v := 10) hx hb dX0_addMinute_30 (by decide) ?_
      refine lv_irem hx hb dX0_addMinute_32 (by decide) ?_
      refine lv_iadd hx hb dX0_addMinute_33 ?_
      obtain ⟨u2, hu2, hf⟩ := bn hf
      refine cm_V (As := [.int (48 + ((x1 / 10) - (x1 / 10) / 10 * 10))]) (rest := []) (w2 := (W_B E aB u2)) hx hb hml hown hg (c_X0_add E l aB vB (48 + ((x1 / 10) - (x1 / 10) / 10 * 10)) u2 hu2) cy_X0_add ml_X0_19 ⟨⟨rfl, rfl⟩, Nat.le_of_ble_eq_true rfl, Nat.le_of_ble_eq_true rfl⟩ hK hE hP hD hS hA [true, true] rfl rfl rfl 0 rfl rfl rfl hl.1 rfl (Nat.le_of_ble_eq_true rfl) dX0_addMinute_34 ⟨Nat.le_of_ble_eq_true rfl, Nat.le_of_ble_eq_true rfl⟩ [] rfl (fun H locs hP hD hS => ?_)
      refine lv_aload_n hx hb dX0_addMinute_37 rfl (lv_at hl 0 rfl) ?_
      refine lv_bipush (v := 48) hx hb dX0_addMinute_38 (by decide) ?_
      refine lv_iload_n hx hb dX0_addMinute_40 rfl (lv_at hl 1 rfl) ?_
      refine lv_bipush (v := 10) hx hb dX0_addMinute_41 (by decide) ?_
      refine lv_irem hx hb dX0_addMinute_43 (by decide) ?_
      refine lv_iadd hx hb dX0_addMinute_44 ?_
      obtain ⟨u3, hu3, hf⟩ := bn hf
      refine cm_V (As := [.int (48 + (x1 - x1 / 10 * 10))]) (rest := []) (w2 := (W_B E aB u3)) hx hb hml hown hg (c_X0_add E l aB u2 (48 + (x1 - x1 / 10 * 10)) u3 hu3) cy_X0_add ml_X0_19 ⟨⟨rfl, rfl⟩, Nat.le_of_ble_eq_true rfl, Nat.le_of_ble_eq_true rfl⟩ hK hE hP hD hS hA [true, true] rfl rfl rfl 0 rfl rfl rfl hl.1 rfl (Nat.le_of_ble_eq_true rfl) dX0_addMinute_45 ⟨Nat.le_of_ble_eq_true rfl, Nat.le_of_ble_eq_true rfl⟩ [] rfl (fun H locs hP hD hS => ?_)
      obtain rfl := Option.some.inj hf
      exact cm_vret hx hb hr hlocks hP hS dX0_addMinute_48
  unfold F_X0_addMinute at hf
  refine lv_iload_n hx hb dX0_addMinute_0 rfl (lv_at hl 1 rfl) ?_
  refine lv_bipush (v := 100) hx hb dX0_addMinute_1 (by decide) ?_
  refine lv_icmp_lt (tgt := 17) hx hb dX0_addMinute_3 (by decide) (fun cq => ?_) (fun cq => ?_)
  · have hf := it cq hf
    exact jp_17 _ _ _ _ hf hP hD hS (lv_sub hl [0, 1] rfl)
  · have hf := ie cq hf
    refine lv_aload_n hx hb dX0_addMinute_6 rfl (lv_at hl 0 rfl) ?_
    refine lv_bipush (v := 48) hx hb dX0_addMinute_7 (by decide) ?_
    refine lv_iload_n hx hb dX0_addMinute_9 rfl (lv_at hl 1 rfl) ?_
    refine lv_bipush (v := 100) hx hb dX0_addMinute_10 (by decide) ?_
    refine lv_idiv hx hb dX0_addMinute_12 (by decide) ?_
    refine lv_iadd hx hb dX0_addMinute_13 ?_
    obtain ⟨u1, hu1, hf⟩ := bn hf
    refine cm_V (As := [.int (48 + (x1 / 100))]) (rest := []) (w2 := (W_B E aB u1)) hx hb hml hown hg (c_X0_add E l aB vB (48 + (x1 / 100)) u1 hu1) cy_X0_add ml_X0_19 ⟨⟨rfl, rfl⟩, Nat.le_of_ble_eq_true rfl, Nat.le_of_ble_eq_true rfl⟩ hK hE hP hD hS hA [true, true] rfl rfl rfl 0 rfl rfl rfl hl.1 rfl (Nat.le_of_ble_eq_true rfl) dX0_addMinute_14 ⟨Nat.le_of_ble_eq_true rfl, Nat.le_of_ble_eq_true rfl⟩ [] rfl (fun H locs hP hD hS => ?_)
    exact jp_17 _ _ _ _ hf hP hD hS (lv_sub hl [0, 1] rfl)
def F_X8_isLetter (x0 : Int32) : Option (Int32) := (if x0 < 97 then (some 0) else (if 122 < x0 then (some 0) else (some 1)))
abbrev rm_X8_isLetter : Room := { frames := 0, cells := 0, slots := 0, locals := 0 }
set_option maxHeartbeats 4000000 in
set_option maxRecDepth 100000 in
theorem c_X8_isLetter (E : Ev) (l : Launch) (x0 : Int32) (r : Int32) (hf : F_X8_isLetter x0 = some r) : CM E l yX8_isLetter (.code yX8_isLetter cX8_isLetter 1 (some .boolean) :: GA) rm_X8_isLetter [.int x0] [] (some (.int r)) [] := by
  refine CM.of (own := RX8) rfl (by decide) (Nat.le_of_ble_eq_true rfl) ?_
  intro p e s m below meth c A ls hx hb hr hml hown hg hlocks hK hE hA hP hD hS hl
  have hl : lv_has ls 1 [(0, .int x0)] := hl
  unfold F_X8_isLetter at hf
  refine lv_iload_n hx hb dX8_isLetter_0 rfl (lv_at hl 0 rfl) ?_
  refine lv_bipush (v := 97) hx hb dX8_isLetter_1 (by decide) ?_
  refine lv_icmp_lt (tgt := 16) hx hb dX8_isLetter_3 (by decide) (fun cq => ?_) (fun cq => ?_)
  · have hf := it cq hf
    refine lv_iconst (v := 0) hx hb dX8_isLetter_16 (by decide) ?_
    obtain rfl := Option.some.inj hf
    exact cm_zret (v := 0) hx hb hr hlocks hP hS rfl dX8_isLetter_17
  · have hf := ie cq hf
    refine lv_iload_n hx hb dX8_isLetter_6 rfl (lv_at hl 0 rfl) ?_
    refine lv_bipush (v := 122) hx hb dX8_isLetter_7 (by decide) ?_
    refine lv_icmp_gt (tgt := 16) hx hb dX8_isLetter_9 (by decide) (fun cq => ?_) (fun cq => ?_)
    · have hf := it cq hf
      refine lv_iconst (v := 0) hx hb dX8_isLetter_16 (by decide) ?_
      obtain rfl := Option.some.inj hf
      exact cm_zret (v := 0) hx hb hr hlocks hP hS rfl dX8_isLetter_17
    · have hf := ie cq hf
      refine lv_iconst (v := 1) hx hb dX8_isLetter_12 (by decide) ?_
      refine lv_goto (tgt := 17) hx hb dX8_isLetter_13 (by decide) ?_
      obtain rfl := Option.some.inj hf
      exact cm_zret (v := 1) hx hb hr hlocks hP hS rfl dX8_isLetter_17
def F_X8_isDigit (x0 : Int32) : Option (Int32) := (if x0 < 48 then (some 0) else (if 57 < x0 then (some 0) else (some 1)))
abbrev rm_X8_isDigit : Room := { frames := 0, cells := 0, slots := 0, locals := 0 }
set_option maxHeartbeats 4000000 in
set_option maxRecDepth 100000 in
theorem c_X8_isDigit (E : Ev) (l : Launch) (x0 : Int32) (r : Int32) (hf : F_X8_isDigit x0 = some r) : CM E l yX8_isDigit (.code yX8_isDigit cX8_isDigit 1 (some .boolean) :: GA) rm_X8_isDigit [.int x0] [] (some (.int r)) [] := by
  refine CM.of (own := RX8) rfl (by decide) (Nat.le_of_ble_eq_true rfl) ?_
  intro p e s m below meth c A ls hx hb hr hml hown hg hlocks hK hE hA hP hD hS hl
  have hl : lv_has ls 1 [(0, .int x0)] := hl
  unfold F_X8_isDigit at hf
  refine lv_iload_n hx hb dX8_isDigit_0 rfl (lv_at hl 0 rfl) ?_
  refine lv_bipush (v := 48) hx hb dX8_isDigit_1 (by decide) ?_
  refine lv_icmp_lt (tgt := 16) hx hb dX8_isDigit_3 (by decide) (fun cq => ?_) (fun cq => ?_)
  · have hf := it cq hf
    refine lv_iconst (v := 0) hx hb dX8_isDigit_16 (by decide) ?_
    obtain rfl := Option.some.inj hf
    exact cm_zret (v := 0) hx hb hr hlocks hP hS rfl dX8_isDigit_17
  · have hf := ie cq hf
    refine lv_iload_n hx hb dX8_isDigit_6 rfl (lv_at hl 0 rfl) ?_
    refine lv_bipush (v := 57) hx hb dX8_isDigit_7 (by decide) ?_
    refine lv_icmp_gt (tgt := 16) hx hb dX8_isDigit_9 (by decide) (fun cq => ?_) (fun cq => ?_)
    · have hf := it cq hf
      refine lv_iconst (v := 0) hx hb dX8_isDigit_16 (by decide) ?_
      obtain rfl := Option.some.inj hf
      exact cm_zret (v := 0) hx hb hr hlocks hP hS rfl dX8_isDigit_17
    · have hf := ie cq hf
      refine lv_iconst (v := 1) hx hb dX8_isDigit_12 (by decide) ?_
      refine lv_goto (tgt := 17) hx hb dX8_isDigit_13 (by decide) ?_
      obtain rfl := Option.some.inj hf
      exact cm_zret (v := 1) hx hb hr hlocks hP hS rfl dX8_isDigit_17
def F_X8_isBlank (x0 : Int32) : Option (Int32) := (if x0 = 32 then (some 1) else (if x0 = 10 then (some 1) else (some 0)))
abbrev rm_X8_isBlank : Room := { frames := 0, cells := 0, slots := 0, locals := 0 }
set_option maxHeartbeats 4000000 in
set_option maxRecDepth 100000 in
theorem c_X8_isBlank (E : Ev) (l : Launch) (x0 : Int32) (r : Int32) (hf : F_X8_isBlank x0 = some r) : CM E l yX8_isBlank (.code yX8_isBlank cX8_isBlank 1 (some .boolean) :: GA) rm_X8_isBlank [.int x0] [] (some (.int r)) [] := by
  refine CM.of (own := RX8) rfl (by decide) (Nat.le_of_ble_eq_true rfl) ?_
  intro p e s m below meth c A ls hx hb hr hml hown hg hlocks hK hE hA hP hD hS hl
  have hl : lv_has ls 1 [(0, .int x0)] := hl
  unfold F_X8_isBlank at hf
  refine lv_iload_n hx hb dX8_isBlank_0 rfl (lv_at hl 0 rfl) ?_
  refine lv_bipush (v := 32) hx hb dX8_isBlank_1 (by decide) ?_
  refine lv_icmp_eq (tgt := 12) hx hb dX8_isBlank_3 (by decide) (fun cq => ?_) (fun cq => ?_)
  · have hf := it cq hf
    refine lv_iconst (v := 1) hx hb dX8_isBlank_12 (by decide) ?_
    refine lv_goto (tgt := 17) hx hb dX8_isBlank_13 (by decide) ?_
    obtain rfl := Option.some.inj hf
    exact cm_zret (v := 1) hx hb hr hlocks hP hS rfl dX8_isBlank_17
  · have hf := ie cq hf
    refine lv_iload_n hx hb dX8_isBlank_6 rfl (lv_at hl 0 rfl) ?_
    refine lv_bipush (v := 10) hx hb dX8_isBlank_7 (by decide) ?_
    refine lv_icmp_ne (tgt := 16) hx hb dX8_isBlank_9 (by decide) (fun cq => ?_) (fun cq => ?_)
    · have hf := ie cq hf
      refine lv_iconst (v := 0) hx hb dX8_isBlank_16 (by decide) ?_
      obtain rfl := Option.some.inj hf
      exact cm_zret (v := 0) hx hb hr hlocks hP hS rfl dX8_isBlank_17
    · have hf := it cq hf
      refine lv_iconst (v := 1) hx hb dX8_isBlank_12 (by decide) ?_
      refine lv_goto (tgt := 17) hx hb dX8_isBlank_13 (by decide) ?_
      obtain rfl := Option.some.inj hf
      exact cm_zret (v := 1) hx hb hr hlocks hP hS rfl dX8_isBlank_17
def B_X0_isName_20 (rec : Int32 → Option (Int32)) (vB : Nat → Nat → Int32) (x1 : Int32) : Option (Int32) := (if (vB 0 0) ≤ x1 then (some 1) else ck x1 600 ((F_X8_isLetter (vB 1 (Int32.toNatClampNeg x1))).bind (fun u1 => (if u1 = 0 then (some 0) else (rec (x1 + 1))))))
def L_X0_isName_20 (vB : Nat → Nat → Int32) : Nat → Int32 → Option (Int32)
  | 0 => fun _ => none
  | n + 1 => fun x1 => B_X0_isName_20 (L_X0_isName_20 vB n) vB x1
def F_X0_isName (vB : Nat → Nat → Int32) : Option (Int32) := (if (vB 0 0) < 1 then (some 0) else (if (vB 0 0) ≤ 5 then (L_X0_isName_20 vB FU 0) else (some 0)))
abbrev rm_X0_isName : Room := { frames := 1, cells := 0, slots := 0, locals := 20 }
set_option maxHeartbeats 4000000 in
set_option maxRecDepth 100000 in
theorem c_X0_isName (E : Ev) (l : Launch) (aB : Nat → Nat) (vB : Nat → Nat → Int32) (r : Int32) (hf : F_X0_isName vB = some r) : CM E l yX0_isName (.code yX0_isName cX0_isName 2 (some .boolean) :: GA) rm_X0_isName [.ref (aB 0)] (W_B E aB vB) (some (.int r)) (W_B E aB vB) := by
  refine CM.of (own := RX0) rfl (by decide) (Nat.le_of_ble_eq_true rfl) ?_
  intro p e s m below meth c A ls hx hb hr hml hown hg hlocks hK hE hA hP hD hS hl
  have hl : lv_has ls 2 [(0, .ref (aB 0))] := hl
  have lp_20 : ∀ (n : Nat) (x1 : Int32) (H : Heap) (locs : List Loc) (ls : Array Slot), L_X0_isName_20 vB n x1 = some r → va_P E.1 vwCl (W_B E aB vB) H → va_D A (W_B E aB vB) → va_S A s.heap H locs → lv_has ls 2 [(0, .ref (aB 0)), (1, .int x1)] → W p l e rm_X0_isName s m ([.ref (aB 0)] : List Value).toArray below meth c H locs 0 0 (MQ below (QW E (some (.int r)) (W_B E aB vB) A) ([.ref (aB 0)] : List Value).toArray s 0 0 A) (F0 m 20 ls []) := by
    intro n
    induction n with
    | zero => intro x1 H locs ls hf; cases hf
    | succ n ih =>
      intro x1 H locs ls hf hP hD hS hl
      replace hf : B_X0_isName_20 (L_X0_isName_20 vB n) vB x1 = some r := hf
      unfold B_X0_isName_20 at hf
      refine lv_iload_n hx hb dX0_isName_20 rfl (lv_at hl 1 rfl) ?_
      refine lv_aload_n hx hb dX0_isName_21 rfl (lv_at hl 0 rfl) ?_
      refine gf_X0_15 hx hb hg hown hK hP 0 rfl rfl dX0_isName_22 ?_
      refine lv_icmp_ge (tgt := 48) hx hb dX0_isName_25 (by decide) (fun cq => ?_) (fun cq => ?_)
      · have hf := it cq hf
        refine lv_iconst (v := 1) hx hb dX0_isName_48 (by decide) ?_
        obtain rfl := Option.some.inj hf
        exact cm_zret (v := 1) hx hb hr hlocks hP hS rfl dX0_isName_49
      · have hf := ie cq hf
        refine lv_aload_n hx hb dX0_isName_28 rfl (lv_at hl 0 rfl) ?_
        refine gf_X0_9 hx hb hg hown hK hP 0 rfl rfl dX0_isName_29 ?_
        refine lv_iload_n hx hb dX0_isName_32 rfl (lv_at hl 1 rfl) ?_
        obtain ⟨hi, hf⟩ := ck_o hf
        refine ar_ld hx hb hK hP 1 rfl hi dX0_isName_33 ?_
        obtain ⟨u1, hu1, hf⟩ := bn hf
        refine cm_SN (host := "NightPorter") (As := [.int (vB 1 (Int32.toNatClampNeg x1))]) (rest := []) (w2 := (W_B E aB vB)) hx hb hml hown hg (c_X8_isLetter E l (vB 1 (Int32.toNatClampNeg x1)) u1 hu1) cs_X8_isLetter (by decide) ⟨⟨rfl, rfl⟩, Nat.le_of_ble_eq_true rfl, Nat.le_of_ble_eq_true rfl⟩ hK hE hP hD hS hA [] rfl rfl rfl rfl hl.1 rfl (Nat.le_of_ble_eq_true rfl) dX0_isName_34 ⟨Nat.le_of_ble_eq_true rfl, Nat.le_of_ble_eq_true rfl⟩ [.int u1] rfl (fun H locs hP hD hS => ?_)
        refine lv_if_ne (tgt := 42) hx hb dX0_isName_37 (by decide) (fun cq => ?_) (fun cq => ?_)
        · have hf := ie cq hf
          refine lv_iinc (v := (x1 + 1)) (lv' := [(1, .int (x1 + 1)), (0, .ref (aB 0))]) hx hb dX0_isName_42 hl (k := 1) rfl rfl (by decide) rfl (fun ls hl => ?_)
          refine lv_goto (tgt := 20) hx hb dX0_isName_45 (by decide) ?_
          exact ih _ _ _ _ hf hP hD hS (lv_sub hl [1, 0] rfl)
        · have hf := it cq hf
          refine lv_iconst (v := 0) hx hb dX0_isName_40 (by decide) ?_
          obtain rfl := Option.some.inj hf
          exact cm_zret (v := 0) hx hb hr hlocks hP hS rfl dX0_isName_41
  unfold F_X0_isName at hf
  refine lv_aload_n hx hb dX0_isName_0 rfl (lv_at hl 0 rfl) ?_
  refine gf_X0_15 hx hb hg hown hK hP 0 rfl rfl dX0_isName_1 ?_
  refine lv_iconst (v := 1) hx hb dX0_isName_4 (by decide) ?_
  refine lv_icmp_lt (tgt := 16) hx hb dX0_isName_5 (by decide) (fun cq => ?_) (fun cq => ?_)
  · have hf := it cq hf
    refine lv_iconst (v := 0) hx hb dX0_isName_16 (by decide) ?_
    obtain rfl := Option.some.inj hf
    exact cm_zret (v := 0) hx hb hr hlocks hP hS rfl dX0_isName_17
  · have hf := ie cq hf
    refine lv_aload_n hx hb dX0_isName_8 rfl (lv_at hl 0 rfl) ?_
    refine gf_X0_15 hx hb hg hown hK hP 0 rfl rfl dX0_isName_9 ?_
    refine lv_iconst (v := 5) hx hb dX0_isName_12 (by decide) ?_
    refine lv_icmp_le (tgt := 18) hx hb dX0_isName_13 (by decide) (fun cq => ?_) (fun cq => ?_)
    · have hf := it cq hf
      refine lv_iconst (v := 0) hx hb dX0_isName_18 (by decide) ?_
      refine lv_istore_n (lv' := [(1, .int 0), (0, .ref (aB 0))]) hx hb dX0_isName_19 rfl hl (by decide) rfl (fun ls hl => ?_)
      exact lp_20 FU _ _ _ _ hf hP hD hS (lv_sub hl [1, 0] rfl)
    · have hf := ie cq hf
      refine lv_iconst (v := 0) hx hb dX0_isName_16 (by decide) ?_
      obtain rfl := Option.some.inj hf
      exact cm_zret (v := 0) hx hb hr hlocks hP hS rfl dX0_isName_17
def F_X5_enter (vR : Nat → Nat → Int32) (x1 : Int32) (x2 : Int32) (x3 : Int32) : Option ((Nat → Nat → Int32)) := ck (vR 0 0) 60 (lt (va_up vR 1 (upd (vR 1) (Int32.toNatClampNeg (vR 0 0)) x1)) (fun vR_9 => ck (vR_9 0 0) 60 (lt (va_up vR_9 2 (upd (vR_9 2) (Int32.toNatClampNeg (vR_9 0 0)) x2)) (fun vR_10 => ck (vR_10 0 0) 60 (lt (va_up vR_10 3 (upd (vR_10 3) (Int32.toNatClampNeg (vR_10 0 0)) x3)) (fun vR_11 => lt (va_up vR_11 0 (fun _ => ((vR_11 0 0) + 1))) (fun vR_12 => (some vR_12))))))))
abbrev rm_X5_enter : Room := { frames := 0, cells := 0, slots := 0, locals := 0 }
set_option maxHeartbeats 4000000 in
set_option maxRecDepth 100000 in
theorem c_X5_enter (E : Ev) (l : Launch) (aR : Nat → Nat) (vR : Nat → Nat → Int32) (x1 : Int32) (x2 : Int32) (x3 : Int32) (r : (Nat → Nat → Int32)) (hf : F_X5_enter vR x1 x2 x3 = some r) : CM E l yX5_enter (.code yX5_enter cX5_enter 4 none :: GA) rm_X5_enter [.ref (aR 0), .int x1, .int x2, .int x3] (W_R E aR vR) none (W_R E aR r) := by
  refine CM.of (own := RX5) rfl (by decide) (Nat.le_of_ble_eq_true rfl) ?_
  intro p e s m below meth c A ls hx hb hr hml hown hg hlocks hK hE hA hP hD hS hl
  have hl : lv_has ls 4 [(0, .ref (aR 0)), (1, .int x1), (2, .int x2), (3, .int x3)] := hl
  unfold F_X5_enter at hf
  refine lv_aload_n hx hb dX5_enter_0 rfl (lv_at hl 0 rfl) ?_
  refine gf_X5_15 hx hb hg hown hK hP 0 rfl rfl dX5_enter_1 ?_
  refine lv_aload_n hx hb dX5_enter_4 rfl (lv_at hl 0 rfl) ?_
  refine gf_X5_9 hx hb hg hown hK hP 0 rfl rfl dX5_enter_5 ?_
  refine lv_iload_n hx hb dX5_enter_8 rfl (lv_at hl 1 rfl) ?_
  obtain ⟨hi, hf⟩ := ck_o hf
  refine ar_st (w2 := (W_R E aR (va_up vR 1 (upd (vR 1) (Int32.toNatClampNeg (vR 0 0)) x1)))) hx hb hK hP hD hS 1 rfl hi rfl dX5_enter_9 (fun H locs hP hD hS => ?_)
  obtain ⟨vR_9, hv, hf⟩ := lt_o hf
  rw [← hv] at hP hD
  clear hv
  refine lv_aload_n hx hb dX5_enter_10 rfl (lv_at hl 0 rfl) ?_
  refine gf_X5_19 hx hb hg hown hK hP 0 rfl rfl dX5_enter_11 ?_
  refine lv_aload_n hx hb dX5_enter_14 rfl (lv_at hl 0 rfl) ?_
  refine gf_X5_9 hx hb hg hown hK hP 0 rfl rfl dX5_enter_15 ?_
  refine lv_iload_n hx hb dX5_enter_18 rfl (lv_at hl 2 rfl) ?_
  obtain ⟨hi, hf⟩ := ck_o hf
  refine ar_st (w2 := (W_R E aR (va_up vR_9 2 (upd (vR_9 2) (Int32.toNatClampNeg (vR_9 0 0)) x2)))) hx hb hK hP hD hS 2 rfl hi rfl dX5_enter_19 (fun H locs hP hD hS => ?_)
  obtain ⟨vR_10, hv, hf⟩ := lt_o hf
  rw [← hv] at hP hD
  clear hv
  refine lv_aload_n hx hb dX5_enter_20 rfl (lv_at hl 0 rfl) ?_
  refine gf_X5_22 hx hb hg hown hK hP 0 rfl rfl dX5_enter_21 ?_
  refine lv_aload_n hx hb dX5_enter_24 rfl (lv_at hl 0 rfl) ?_
  refine gf_X5_9 hx hb hg hown hK hP 0 rfl rfl dX5_enter_25 ?_
  refine lv_iload_n hx hb dX5_enter_28 rfl (lv_at hl 3 rfl) ?_
  obtain ⟨hi, hf⟩ := ck_o hf
  refine ar_st (w2 := (W_R E aR (va_up vR_10 3 (upd (vR_10 3) (Int32.toNatClampNeg (vR_10 0 0)) x3)))) hx hb hK hP hD hS 3 rfl hi rfl dX5_enter_29 (fun H locs hP hD hS => ?_)
  obtain ⟨vR_11, hv, hf⟩ := lt_o hf
  rw [← hv] at hP hD
  clear hv
  refine lv_aload_n hx hb dX5_enter_30 rfl (lv_at hl 0 rfl) ?_
  refine lv_dup hx hb dX5_enter_31 rfl ?_
  refine gf_X5_9 hx hb hg hown hK hP 0 rfl rfl dX5_enter_32 ?_
  refine lv_iconst (v := 1) hx hb dX5_enter_35 (by decide) ?_
  refine lv_iadd hx hb dX5_enter_36 ?_
  refine pf_X5_9 (w2 := (W_R E aR (va_up vR_11 0 (fun _ => ((vR_11 0 0) + 1))))) hx hb hg hown hK hP hD hS 0 rfl (Nat.le_of_ble_eq_true rfl) rfl dX5_enter_37 (fun H locs hP hD hS => ?_)
  obtain ⟨vR_12, hv, hf⟩ := lt_o hf
  rw [← hv] at hP hD
  clear hv
  obtain rfl := Option.some.inj hf
  exact cm_vret hx hb hr hlocks hP hS dX5_enter_40
def F_X5_latestMinute (vR : Nat → Nat → Int32) : Option (Int32) := (if (vR 0 0) = 0 then (some 0) else ck ((vR 0 0) - 1) 60 ((some (vR 1 (Int32.toNatClampNeg ((vR 0 0) - 1))))))
abbrev rm_X5_latestMinute : Room := { frames := 0, cells := 0, slots := 0, locals := 0 }
set_option maxHeartbeats 4000000 in
set_option maxRecDepth 100000 in
theorem c_X5_latestMinute (E : Ev) (l : Launch) (aR : Nat → Nat) (vR : Nat → Nat → Int32) (r : Int32) (hf : F_X5_latestMinute vR = some r) : CM E l yX5_latestMinute (.code yX5_latestMinute cX5_latestMinute 1 (some .int) :: GA) rm_X5_latestMinute [.ref (aR 0)] (W_R E aR vR) (some (.int r)) (W_R E aR vR) := by
  refine CM.of (own := RX5) rfl (by decide) (Nat.le_of_ble_eq_true rfl) ?_
  intro p e s m below meth c A ls hx hb hr hml hown hg hlocks hK hE hA hP hD hS hl
  have hl : lv_has ls 1 [(0, .ref (aR 0))] := hl
  unfold F_X5_latestMinute at hf
  refine lv_aload_n hx hb dX5_latestMinute_0 rfl (lv_at hl 0 rfl) ?_
  refine gf_X5_9 hx hb hg hown hK hP 0 rfl rfl dX5_latestMinute_1 ?_
  refine lv_if_ne (tgt := 11) hx hb dX5_latestMinute_4 (by decide) (fun cq => ?_) (fun cq => ?_)
  · have hf := ie cq hf
    refine lv_aload_n hx hb dX5_latestMinute_11 rfl (lv_at hl 0 rfl) ?_
    refine gf_X5_15 hx hb hg hown hK hP 0 rfl rfl dX5_latestMinute_12 ?_
    refine lv_aload_n hx hb dX5_latestMinute_15 rfl (lv_at hl 0 rfl) ?_
    refine gf_X5_9 hx hb hg hown hK hP 0 rfl rfl dX5_latestMinute_16 ?_
    refine lv_iconst (v := 1) hx hb dX5_latestMinute_19 (by decide) ?_
    refine lv_isub hx hb dX5_latestMinute_20 ?_
    obtain ⟨hi, hf⟩ := ck_o hf
    refine ar_ld hx hb hK hP 1 rfl hi dX5_latestMinute_21 ?_
    obtain rfl := Option.some.inj hf
    exact cm_iret hx hb hr hlocks hP hS dX5_latestMinute_22
  · have hf := it cq hf
    refine lv_iconst (v := 0) hx hb dX5_latestMinute_7 (by decide) ?_
    refine lv_goto (tgt := 22) hx hb dX5_latestMinute_8 (by decide) ?_
    obtain rfl := Option.some.inj hf
    exact cm_iret hx hb hr hlocks hP hS dX5_latestMinute_22
def J_X5_minutesAway_62 (rec : Int32 → Int32 → Int32 → Int32 → Int32 → Option (Int32)) (vR : Nat → Nat → Int32) (x1 : Int32) (x2 : Int32) (x3 : Int32) (x4 : Int32) (x5 : Int32) (x7 : Int32) (x8 : Int32) (x9 : Int32) (x10 : Int32) : Option (Int32) := ck x9 60 (ck x9 60 (ck x9 60 ((rec x5 x10 (if (vR 2 (Int32.toNatClampNeg x9)) = x1 then (if (vR 3 (Int32.toNatClampNeg x9)) = 45 then 1 else 0) else x7) (if (vR 2 (Int32.toNatClampNeg x9)) = x2 then (if (vR 3 (Int32.toNatClampNeg x9)) = 45 then 1 else 0) else x8) (x9 + 1)))))
def B_X5_minutesAway_15 (rec : Int32 → Int32 → Int32 → Int32 → Int32 → Option (Int32)) (vR : Nat → Nat → Int32) (x1 : Int32) (x2 : Int32) (x3 : Int32) (x4 : Int32) (x5 : Int32) (x6 : Int32) (x7 : Int32) (x8 : Int32) (x9 : Int32) : Option (Int32) := (if (vR 0 0) ≤ x9 then (if x7 = 0 then (some x5) else (if x8 = 0 then (some x5) else (some ((x5 + x4) - x6)))) else ck x9 60 ((if x7 = 0 then (J_X5_minutesAway_62 rec vR x1 x2 x3 x4 x5 x7 x8 x9 (if x3 < (if (vR 1 (Int32.toNatClampNeg x9)) < x4 then (vR 1 (Int32.toNatClampNeg x9)) else x4) then (if (vR 1 (Int32.toNatClampNeg x9)) < x4 then (vR 1 (Int32.toNatClampNeg x9)) else x4) else x3)) else (if x8 = 0 then (J_X5_minutesAway_62 rec vR x1 x2 x3 x4 x5 x7 x8 x9 (if x3 < (if (vR 1 (Int32.toNatClampNeg x9)) < x4 then (vR 1 (Int32.toNatClampNeg x9)) else x4) then (if (vR 1 (Int32.toNatClampNeg x9)) < x4 then (vR 1 (Int32.toNatClampNeg x9)) else x4) else x3)) else (J_X5_minutesAway_62 rec vR x1 x2 x3 x4 (x5 + ((if x3 < (if (vR 1 (Int32.toNatClampNeg x9)) < x4 then (vR 1 (Int32.toNatClampNeg x9)) else x4) then (if (vR 1 (Int32.toNatClampNeg x9)) < x4 then (vR 1 (Int32.toNatClampNeg x9)) else x4) else x3) - x6)) x7 x8 x9 (if x3 < (if (vR 1 (Int32.toNatClampNeg x9)) < x4 then (vR 1 (Int32.toNatClampNeg x9)) else x4) then (if (vR 1 (Int32.toNatClampNeg x9)) < x4 then (vR 1 (Int32.toNatClampNeg x9)) else x4) else x3))))))
def L_X5_minutesAway_15 (vR : Nat → Nat → Int32) (x1 : Int32) (x2 : Int32) (x3 : Int32) (x4 : Int32) : Nat → Int32 → Int32 → Int32 → Int32 → Int32 → Option (Int32)
  | 0 => fun _ _ _ _ _ => none
  | n + 1 => fun x5 x6 x7 x8 x9 => B_X5_minutesAway_15 (L_X5_minutesAway_15 vR x1 x2 x3 x4 n) vR x1 x2 x3 x4 x5 x6 x7 x8 x9
def F_X5_minutesAway (vR : Nat → Nat → Int32) (x1 : Int32) (x2 : Int32) (x3 : Int32) (x4 : Int32) : Option (Int32) := (L_X5_minutesAway_15 vR x1 x2 x3 x4 FU 0 x3 0 0 0)
abbrev rm_X5_minutesAway : Room := { frames := 1, cells := 0, slots := 0, locals := 21 }
set_option maxHeartbeats 4000000 in
set_option maxRecDepth 100000 in
theorem c_X5_minutesAway (E : Ev) (l : Launch) (aR : Nat → Nat) (vR : Nat → Nat → Int32) (x1 : Int32) (x2 : Int32) (x3 : Int32) (x4 : Int32) (r : Int32) (hf : F_X5_minutesAway vR x1 x2 x3 x4 = some r) : CM E l yX5_minutesAway (.code yX5_minutesAway cX5_minutesAway 12 (some .int) :: GA) rm_X5_minutesAway [.ref (aR 0), .int x1, .int x2, .int x3, .int x4] (W_R E aR vR) (some (.int r)) (W_R E aR vR) := by
  refine CM.of (own := RX5) rfl (by decide) (Nat.le_of_ble_eq_true rfl) ?_
  intro p e s m below meth c A ls hx hb hr hml hown hg hlocks hK hE hA hP hD hS hl
  have hl : lv_has ls 12 [(0, .ref (aR 0)), (1, .int x1), (2, .int x2), (3, .int x3), (4, .int x4)] := hl
  have lp_15 : ∀ (n : Nat) (x5 : Int32) (x6 : Int32) (x7 : Int32) (x8 : Int32) (x9 : Int32) (H : Heap) (locs : List Loc) (ls : Array Slot), L_X5_minutesAway_15 vR x1 x2 x3 x4 n x5 x6 x7 x8 x9 = some r → va_P E.1 vwCl (W_R E aR vR) H → va_D A (W_R E aR vR) → va_S A s.heap H locs → lv_has ls 12 [(0, .ref (aR 0)), (1, .int x1), (2, .int x2), (3, .int x3), (4, .int x4), (5, .int x5), (6, .int x6), (7, .int x7), (8, .int x8), (9, .int x9)] → W p l e rm_X5_minutesAway s m ([.ref (aR 0), .int x1, .int x2, .int x3, .int x4] : List Value).toArray below meth c H locs 0 0 (MQ below (QW E (some (.int r)) (W_R E aR vR) A) ([.ref (aR 0), .int x1, .int x2, .int x3, .int x4] : List Value).toArray s 0 0 A) (F0 m 15 ls []) := by
    intro n
    induction n with
    | zero => intro x5 x6 x7 x8 x9 H locs ls hf; cases hf
    | succ n ih =>
      have jp_62 : ∀ (x5 : Int32) (x7 : Int32) (x8 : Int32) (x9 : Int32) (x10 : Int32) (H : Heap) (locs : List Loc) (ls : Array Slot), J_X5_minutesAway_62 (L_X5_minutesAway_15 vR x1 x2 x3 x4 n) vR x1 x2 x3 x4 x5 x7 x8 x9 x10 = some r → va_P E.1 vwCl (W_R E aR vR) H → va_D A (W_R E aR vR) → va_S A s.heap H locs → lv_has ls 12 [(0, .ref (aR 0)), (1, .int x1), (2, .int x2), (3, .int x3), (4, .int x4), (5, .int x5), (7, .int x7), (8, .int x8), (9, .int x9), (10, .int x10)] → W p l e rm_X5_minutesAway s m ([.ref (aR 0), .int x1, .int x2, .int x3, .int x4] : List Value).toArray below meth c H locs 0 0 (MQ below (QW E (some (.int r)) (W_R E aR vR) A) ([.ref (aR 0), .int x1, .int x2, .int x3, .int x4] : List Value).toArray s 0 0 A) (F0 m 62 ls []) := by
        intro x5 x7 x8 x9 x10 H locs ls hf hP hD hS hl
        unfold J_X5_minutesAway_62 at hf
        refine lv_iload hx hb dX5_minutesAway_62 (lv_at hl 9 rfl) ?_
        refine lv_istore (lv' := [(6, .int x10), (0, .ref (aR 0)), (1, .int x1), (2, .int x2), (3, .int x3), (4, .int x4), (5, .int x5), (7, .int x7), (8, .int x8), (9, .int x9), (10, .int x10)]) hx hb dX5_minutesAway_64 hl (by decide) rfl (fun ls hl => ?_)
        refine lv_aload_n hx hb dX5_minutesAway_66 rfl (lv_at hl 1 rfl) ?_
        refine gf_X5_22 hx hb hg hown hK hP 0 rfl rfl dX5_minutesAway_67 ?_
        refine lv_iload hx hb dX5_minutesAway_70 (lv_at hl 9 rfl) ?_
        obtain ⟨hi, hf⟩ := ck_o hf
        refine ar_ld hx hb hK hP 3 rfl hi dX5_minutesAway_72 ?_
        refine lv_bipush (v := 45) hx hb dX5_minutesAway_73 (by decide) ?_
        refine wj (F0 m 83 ls [.int (if (vR 3 (Int32.toNatClampNeg x9)) = 45 then 1 else 0)]) ?_ (fun jk => ?_)
        rotate_left
        · refine lv_icmp_ne (tgt := 82) hx hb dX5_minutesAway_75 (by decide) (fun cq => ?_) (fun cq => ?_)
          · rw [if_neg cq] at jk
            refine lv_iconst (v := 0) hx hb dX5_minutesAway_82 (by decide) ?_
            exact jk
          · rw [if_pos cq] at jk
            refine lv_iconst (v := 1) hx hb dX5_minutesAway_78 (by decide) ?_
            refine lv_goto (tgt := 83) hx hb dX5_minutesAway_79 (by decide) ?_
            exact jk
        refine lv_istore (lv' := [(11, .int (if (vR 3 (Int32.toNatClampNeg x9)) = 45 then 1 else 0)), (6, .int x10), (0, .ref (aR 0)), (1, .int x1), (2, .int x2), (3, .int x3), (4, .int x4), (5, .int x5), (7, .int x7), (8, .int x8), (9, .int x9), (10, .int x10)]) hx hb dX5_minutesAway_83 hl (by decide) rfl (fun ls hl => ?_)
        refine lv_aload_n hx hb dX5_minutesAway_85 rfl (lv_at hl 2 rfl) ?_
        refine gf_X5_19 hx hb hg hown hK hP 0 rfl rfl dX5_minutesAway_86 ?_
        refine lv_iload hx hb dX5_minutesAway_89 (lv_at hl 10 rfl) ?_
        obtain ⟨hi, hf⟩ := ck_o hf
        refine ar_ld hx hb hK hP 2 rfl hi dX5_minutesAway_91 ?_
        refine lv_iload_n hx hb dX5_minutesAway_92 rfl (lv_at hl 3 rfl) ?_
        refine wj (F0 m 103 ls [.int (if (vR 2 (Int32.toNatClampNeg x9)) = x1 then (if (vR 3 (Int32.toNatClampNeg x9)) = 45 then 1 else 0) else x7)]) ?_ (fun jk => ?_)
        rotate_left
        · refine lv_icmp_ne (tgt := 101) hx hb dX5_minutesAway_93 (by decide) (fun cq => ?_) (fun cq => ?_)
          · rw [if_neg cq] at jk
            refine lv_iload hx hb dX5_minutesAway_101 (lv_at hl 8 rfl) ?_
            exact jk
          · rw [if_pos cq] at jk
            refine lv_iload hx hb dX5_minutesAway_96 (lv_at hl 0 rfl) ?_
            refine lv_goto (tgt := 103) hx hb dX5_minutesAway_98 (by decide) ?_
            exact jk
        refine lv_istore (lv' := [(7, .int (if (vR 2 (Int32.toNatClampNeg x9)) = x1 then (if (vR 3 (Int32.toNatClampNeg x9)) = 45 then 1 else 0) else x7)), (11, .int (if (vR 3 (Int32.toNatClampNeg x9)) = 45 then 1 else 0)), (6, .int x10), (0, .ref (aR 0)), (1, .int x1), (2, .int x2), (3, .int x3), (4, .int x4), (5, .int x5), (8, .int x8), (9, .int x9), (10, .int x10)]) hx hb dX5_minutesAway_103 hl (by decide) rfl (fun ls hl => ?_)
        refine lv_aload_n hx hb dX5_minutesAway_105 rfl (lv_at hl 3 rfl) ?_
        refine gf_X5_19 hx hb hg hown hK hP 0 rfl rfl dX5_minutesAway_106 ?_
        refine lv_iload hx hb dX5_minutesAway_109 (lv_at hl 10 rfl) ?_
        obtain ⟨hi, hf⟩ := ck_o hf
        refine ar_ld hx hb hK hP 2 rfl hi dX5_minutesAway_111 ?_
        refine lv_iload_n hx hb dX5_minutesAway_112 rfl (lv_at hl 5 rfl) ?_
        refine wj (F0 m 123 ls [.int (if (vR 2 (Int32.toNatClampNeg x9)) = x2 then (if (vR 3 (Int32.toNatClampNeg x9)) = 45 then 1 else 0) else x8)]) ?_ (fun jk => ?_)
        rotate_left
        · refine lv_icmp_ne (tgt := 121) hx hb dX5_minutesAway_113 (by decide) (fun cq => ?_) (fun cq => ?_)
          · rw [if_neg cq] at jk
            refine lv_iload hx hb dX5_minutesAway_121 (lv_at hl 9 rfl) ?_
            exact jk
          · rw [if_pos cq] at jk
            refine lv_iload hx hb dX5_minutesAway_116 (lv_at hl 1 rfl) ?_
            refine lv_goto (tgt := 123) hx hb dX5_minutesAway_118 (by decide) ?_
            exact jk
        refine lv_istore (lv' := [(8, .int (if (vR 2 (Int32.toNatClampNeg x9)) = x2 then (if (vR 3 (Int32.toNatClampNeg x9)) = 45 then 1 else 0) else x8)), (7, .int (if (vR 2 (Int32.toNatClampNeg x9)) = x1 then (if (vR 3 (Int32.toNatClampNeg x9)) = 45 then 1 else 0) else x7)), (11, .int (if (vR 3 (Int32.toNatClampNeg x9)) = 45 then 1 else 0)), (6, .int x10), (0, .ref (aR 0)), (1, .int x1), (2, .int x2), (3, .int x3), (4, .int x4), (5, .int x5), (9, .int x9), (10, .int x10)]) hx hb dX5_minutesAway_123 hl (by decide) rfl (fun ls hl => ?_)
        refine lv_iinc (v := (x9 + 1)) (lv' := [(9, .int (x9 + 1)), (8, .int (if (vR 2 (Int32.toNatClampNeg x9)) = x2 then (if (vR 3 (Int32.toNatClampNeg x9)) = 45 then 1 else 0) else x8)), (7, .int (if (vR 2 (Int32.toNatClampNeg x9)) = x1 then (if (vR 3 (Int32.toNatClampNeg x9)) = 45 then 1 else 0) else x7)), (11, .int (if (vR 3 (Int32.toNatClampNeg x9)) = 45 then 1 else 0)), (6, .int x10), (0, .ref (aR 0)), (1, .int x1), (2, .int x2), (3, .int x3), (4, .int x4), (5, .int x5), (10, .int x10)]) hx hb dX5_minutesAway_125 hl (k := 10) rfl rfl (by decide) rfl (fun ls hl => ?_)
        refine lv_goto (tgt := 15) hx hb dX5_minutesAway_128 (by decide) ?_
        exact ih _ _ _ _ _ _ _ _ hf hP hD hS (lv_sub hl [5, 6, 7, 8, 9, 10, 4, 2, 1, 0] rfl)
      intro x5 x6 x7 x8 x9 H locs ls hf hP hD hS hl
      replace hf : B_X5_minutesAway_15 (L_X5_minutesAway_15 vR x1 x2 x3 x4 n) vR x1 x2 x3 x4 x5 x6 x7 x8 x9 = some r := hf
      unfold B_X5_minutesAway_15 at hf
      refine lv_iload hx hb dX5_minutesAway_15 (lv_at hl 9 rfl) ?_
      refine lv_aload_n hx hb dX5_minutesAway_17 rfl (lv_at hl 0 rfl) ?_
      refine gf_X5_9 hx hb hg hown hK hP 0 rfl rfl dX5_minutesAway_18 ?_
      refine lv_icmp_ge (tgt := 131) hx hb dX5_minutesAway_21 (by decide) (fun cq => ?_) (fun cq => ?_)
      · have hf := it cq hf
        refine lv_iload hx hb dX5_minutesAway_131 (lv_at hl 7 rfl) ?_
        refine lv_if_eq (tgt := 152) hx hb dX5_minutesAway_133 (by decide) (fun cq => ?_) (fun cq => ?_)
        · have hf := it cq hf
          refine lv_iload hx hb dX5_minutesAway_152 (lv_at hl 5 rfl) ?_
          obtain rfl := Option.some.inj hf
          exact cm_iret hx hb hr hlocks hP hS dX5_minutesAway_154
        · have hf := ie cq hf
          refine lv_iload hx hb dX5_minutesAway_136 (lv_at hl 8 rfl) ?_
          refine lv_if_eq (tgt := 152) hx hb dX5_minutesAway_138 (by decide) (fun cq => ?_) (fun cq => ?_)
          · have hf := it cq hf
            refine lv_iload hx hb dX5_minutesAway_152 (lv_at hl 5 rfl) ?_
            obtain rfl := Option.some.inj hf
            exact cm_iret hx hb hr hlocks hP hS dX5_minutesAway_154
          · have hf := ie cq hf
            refine lv_iload hx hb dX5_minutesAway_141 (lv_at hl 5 rfl) ?_
            refine lv_iload hx hb dX5_minutesAway_143 (lv_at hl 4 rfl) ?_
            refine lv_iadd hx hb dX5_minutesAway_145 ?_
            refine lv_iload hx hb dX5_minutesAway_146 (lv_at hl 6 rfl) ?_
            refine lv_isub hx hb dX5_minutesAway_148 ?_
            refine lv_goto (tgt := 154) hx hb dX5_minutesAway_149 (by decide) ?_
            obtain rfl := Option.some.inj hf
            exact cm_iret hx hb hr hlocks hP hS dX5_minutesAway_154
      · have hf := ie cq hf
        refine lv_iload_n hx hb dX5_minutesAway_24 rfl (lv_at hl 3 rfl) ?_
        refine lv_iload hx hb dX5_minutesAway_25 (lv_at hl 4 rfl) ?_
        refine lv_aload_n hx hb dX5_minutesAway_27 rfl (lv_at hl 0 rfl) ?_
        refine gf_X5_15 hx hb hg hown hK hP 0 rfl rfl dX5_minutesAway_28 ?_
        refine lv_iload hx hb dX5_minutesAway_31 (lv_at hl 9 rfl) ?_
        obtain ⟨hi, hf⟩ := ck_o hf
        refine ar_ld hx hb hK hP 1 rfl hi dX5_minutesAway_33 ?_
        refine cm_min hx hb hml hl.1 hown hg ml_X5_29 (Nat.le_of_ble_eq_true rfl) (Nat.le_of_ble_eq_true rfl) ⟨Nat.le_of_ble_eq_true rfl, Nat.le_of_ble_eq_true rfl⟩ dX5_minutesAway_34 ?_
        refine cm_max hx hb hml hl.1 hown hg ml_X5_35 (Nat.le_of_ble_eq_true rfl) (Nat.le_of_ble_eq_true rfl) ⟨Nat.le_of_ble_eq_true rfl, Nat.le_of_ble_eq_true rfl⟩ dX5_minutesAway_37 ?_
        refine lv_istore (lv' := [(10, .int (if x3 < (if (vR 1 (Int32.toNatClampNeg x9)) < x4 then (vR 1 (Int32.toNatClampNeg x9)) else x4) then (if (vR 1 (Int32.toNatClampNeg x9)) < x4 then (vR 1 (Int32.toNatClampNeg x9)) else x4) else x3)), (0, .ref (aR 0)), (1, .int x1), (2, .int x2), (3, .int x3), (4, .int x4), (5, .int x5), (6, .int x6), (7, .int x7), (8, .int x8), (9, .int x9)]) hx hb dX5_minutesAway_40 hl (by decide) rfl (fun ls hl => ?_)
        refine lv_iload hx hb dX5_minutesAway_42 (lv_at hl 8 rfl) ?_
        refine lv_if_eq (tgt := 62) hx hb dX5_minutesAway_44 (by decide) (fun cq => ?_) (fun cq => ?_)
        · have hf := it cq hf
          exact jp_62 _ _ _ _ _ _ _ _ hf hP hD hS (lv_sub hl [1, 2, 3, 4, 5, 6, 8, 9, 10, 0] rfl)
        · have hf := ie cq hf
          refine lv_iload hx hb dX5_minutesAway_47 (lv_at hl 9 rfl) ?_
          refine lv_if_eq (tgt := 62) hx hb dX5_minutesAway_49 (by decide) (fun cq => ?_) (fun cq => ?_)
          · have hf := it cq hf
            exact jp_62 _ _ _ _ _ _ _ _ hf hP hD hS (lv_sub hl [1, 2, 3, 4, 5, 6, 8, 9, 10, 0] rfl)
          · have hf := ie cq hf
            refine lv_iload hx hb dX5_minutesAway_52 (lv_at hl 6 rfl) ?_
            refine lv_iload hx hb dX5_minutesAway_54 (lv_at hl 0 rfl) ?_
            refine lv_iload hx hb dX5_minutesAway_56 (lv_at hl 7 rfl) ?_
            refine lv_isub hx hb dX5_minutesAway_58 ?_
            refine lv_iadd hx hb dX5_minutesAway_59 ?_
            refine lv_istore (lv' := [(5, .int (x5 + ((if x3 < (if (vR 1 (Int32.toNatClampNeg x9)) < x4 then (vR 1 (Int32.toNatClampNeg x9)) else x4) then (if (vR 1 (Int32.toNatClampNeg x9)) < x4 then (vR 1 (Int32.toNatClampNeg x9)) else x4) else x3) - x6))), (10, .int (if x3 < (if (vR 1 (Int32.toNatClampNeg x9)) < x4 then (vR 1 (Int32.toNatClampNeg x9)) else x4) then (if (vR 1 (Int32.toNatClampNeg x9)) < x4 then (vR 1 (Int32.toNatClampNeg x9)) else x4) else x3)), (0, .ref (aR 0)), (1, .int x1), (2, .int x2), (3, .int x3), (4, .int x4), (6, .int x6), (7, .int x7), (8, .int x8), (9, .int x9)]) hx hb dX5_minutesAway_60 hl (by decide) rfl (fun ls hl => ?_)
            exact jp_62 _ _ _ _ _ _ _ _ hf hP hD hS (lv_sub hl [2, 3, 4, 5, 6, 0, 8, 9, 10, 1] rfl)
  unfold F_X5_minutesAway at hf
  refine lv_iconst (v := 0) hx hb dX5_minutesAway_0 (by decide) ?_
  refine lv_istore (lv' := [(5, .int 0), (0, .ref (aR 0)), (1, .int x1), (2, .int x2), (3, .int x3), (4, .int x4)]) hx hb dX5_minutesAway_1 hl (by decide) rfl (fun ls hl => ?_)
  refine lv_iload_n hx hb dX5_minutesAway_3 rfl (lv_at hl 4 rfl) ?_
  refine lv_istore (lv' := [(6, .int x3), (5, .int 0), (0, .ref (aR 0)), (1, .int x1), (2, .int x2), (3, .int x3), (4, .int x4)]) hx hb dX5_minutesAway_4 hl (by decide) rfl (fun ls hl => ?_)
  refine lv_iconst (v := 0) hx hb dX5_minutesAway_6 (by decide) ?_
  refine lv_istore (lv' := [(7, .int 0), (6, .int x3), (5, .int 0), (0, .ref (aR 0)), (1, .int x1), (2, .int x2), (3, .int x3), (4, .int x4)]) hx hb dX5_minutesAway_7 hl (by decide) rfl (fun ls hl => ?_)
  refine lv_iconst (v := 0) hx hb dX5_minutesAway_9 (by decide) ?_
  refine lv_istore (lv' := [(8, .int 0), (7, .int 0), (6, .int x3), (5, .int 0), (0, .ref (aR 0)), (1, .int x1), (2, .int x2), (3, .int x3), (4, .int x4)]) hx hb dX5_minutesAway_10 hl (by decide) rfl (fun ls hl => ?_)
  refine lv_iconst (v := 0) hx hb dX5_minutesAway_12 (by decide) ?_
  refine lv_istore (lv' := [(9, .int 0), (8, .int 0), (7, .int 0), (6, .int x3), (5, .int 0), (0, .ref (aR 0)), (1, .int x1), (2, .int x2), (3, .int x3), (4, .int x4)]) hx hb dX5_minutesAway_13 hl (by decide) rfl (fun ls hl => ?_)
  exact lp_15 FU _ _ _ _ _ _ _ _ hf hP hD hS (lv_sub hl [5, 6, 7, 8, 9, 4, 3, 2, 1, 0] rfl)
def F_X5_wasInAllThrough (vR : Nat → Nat → Int32) (x1 : Int32) (x2 : Int32) (x3 : Int32) : Option (Int32) := (F_X5_minutesAway vR x1 x1 x2 (x3 + 1)).bind (fun u1 => (some (if u1 = 0 then 1 else 0)))
abbrev rm_X5_wasInAllThrough : Room := { frames := 2, cells := 0, slots := 0, locals := 52 }
set_option maxHeartbeats 4000000 in
set_option maxRecDepth 100000 in
theorem c_X5_wasInAllThrough (E : Ev) (l : Launch) (aR : Nat → Nat) (vR : Nat → Nat → Int32) (x1 : Int32) (x2 : Int32) (x3 : Int32) (r : Int32) (hf : F_X5_wasInAllThrough vR x1 x2 x3 = some r) : CM E l yX5_wasInAllThrough (.code yX5_wasInAllThrough cX5_wasInAllThrough 4 (some .boolean) :: GA) rm_X5_wasInAllThrough [.ref (aR 0), .int x1, .int x2, .int x3] (W_R E aR vR) (some (.int r)) (W_R E aR vR) := by
  refine CM.of (own := RX5) rfl (by decide) (Nat.le_of_ble_eq_true rfl) ?_
  intro p e s m below meth c A ls hx hb hr hml hown hg hlocks hK hE hA hP hD hS hl
  have hl : lv_has ls 4 [(0, .ref (aR 0)), (1, .int x1), (2, .int x2), (3, .int x3)] := hl
  unfold F_X5_wasInAllThrough at hf
  refine lv_aload_n hx hb dX5_wasInAllThrough_0 rfl (lv_at hl 0 rfl) ?_
  refine lv_iload_n hx hb dX5_wasInAllThrough_1 rfl (lv_at hl 1 rfl) ?_
  refine lv_iload_n hx hb dX5_wasInAllThrough_2 rfl (lv_at hl 1 rfl) ?_
  refine lv_iload_n hx hb dX5_wasInAllThrough_3 rfl (lv_at hl 2 rfl) ?_
  refine lv_iload_n hx hb dX5_wasInAllThrough_4 rfl (lv_at hl 3 rfl) ?_
  refine lv_iconst (v := 1) hx hb dX5_wasInAllThrough_5 (by decide) ?_
  refine lv_iadd hx hb dX5_wasInAllThrough_6 ?_
  obtain ⟨u1, hu1, hf⟩ := bn hf
  refine cm_V (As := [.int x1, .int x1, .int x2, .int (x3 + 1)]) (rest := []) (w2 := (W_R E aR vR)) hx hb hml hown hg (c_X5_minutesAway E l aR vR x1 x1 x2 (x3 + 1) u1 hu1) cy_X5_minutesAway ml_X5_25 ⟨⟨rfl, rfl⟩, Nat.le_of_ble_eq_true rfl, Nat.le_of_ble_eq_true rfl⟩ hK hE hP hD hS hA [true, true, true, true] rfl rfl rfl 0 rfl rfl rfl hl.1 rfl (Nat.le_of_ble_eq_true rfl) dX5_wasInAllThrough_7 ⟨Nat.le_of_ble_eq_true rfl, Nat.le_of_ble_eq_true rfl⟩ [.int u1] rfl (fun H locs hP hD hS => ?_)
  refine wj (F0 m 18 ls [.int (if u1 = 0 then 1 else 0)]) ?_ (fun jk => ?_)
  rotate_left
  · refine lv_if_ne (tgt := 17) hx hb dX5_wasInAllThrough_10 (by decide) (fun cq => ?_) (fun cq => ?_)
    · rw [if_neg cq] at jk
      refine lv_iconst (v := 0) hx hb dX5_wasInAllThrough_17 (by decide) ?_
      exact jk
    · rw [if_pos cq] at jk
      refine lv_iconst (v := 1) hx hb dX5_wasInAllThrough_13 (by decide) ?_
      refine lv_goto (tgt := 18) hx hb dX5_wasInAllThrough_14 (by decide) ?_
      exact jk
  obtain rfl := Option.some.inj hf
  exact cm_zret (v := (if u1 = 0 then 1 else 0)) hx hb hr hlocks hP hS (by split <;> rfl) dX5_wasInAllThrough_18
def B_X5_writeTo_2 (rec : Int32 → (Nat → Nat → Int32) → Option ((Nat → Nat → Int32))) (vR : Nat → Nat → Int32) (x2 : Int32) (x3 : Int32) (vB : Nat → Nat → Int32) : Option ((Nat → Nat → Int32)) := (if (vR 0 0) ≤ x3 then (some vB) else ck x3 60 ((if (vR 2 (Int32.toNatClampNeg x3)) = x2 then ck x3 60 ((F_X0_add vB (vR 3 (Int32.toNatClampNeg x3))).bind (fun u1 => ck x3 60 ((F_X0_addMinute u1 (vR 1 (Int32.toNatClampNeg x3))).bind (fun u2 => (F_X0_add u2 10).bind (fun u3 => (rec (x3 + 1) u3)))))) else (rec (x3 + 1) vB))))
def L_X5_writeTo_2 (vR : Nat → Nat → Int32) (x2 : Int32) : Nat → Int32 → (Nat → Nat → Int32) → Option ((Nat → Nat → Int32))
  | 0 => fun _ _ => none
  | n + 1 => fun x3 vB => B_X5_writeTo_2 (L_X5_writeTo_2 vR x2 n) vR x2 x3 vB
def F_X5_writeTo (vR : Nat → Nat → Int32) (vB : Nat → Nat → Int32) (x2 : Int32) : Option ((Nat → Nat → Int32)) := (L_X5_writeTo_2 vR x2 FU 0 vB)
abbrev rm_X5_writeTo : Room := { frames := 2, cells := 0, slots := 0, locals := 42 }
set_option maxHeartbeats 4000000 in
set_option maxRecDepth 100000 in
theorem c_X5_writeTo (E : Ev) (l : Launch) (aR : Nat → Nat) (aB : Nat → Nat) (vR : Nat → Nat → Int32) (vB : Nat → Nat → Int32) (x2 : Int32) (r : (Nat → Nat → Int32)) (hf : F_X5_writeTo vR vB x2 = some r) : CM E l yX5_writeTo (.code yX5_writeTo cX5_writeTo 4 none :: GA) rm_X5_writeTo [.ref (aR 0), .ref (aB 0), .int x2] (W_R E aR vR ++ (W_B E aB vB)) none (W_R E aR vR ++ (W_B E aB r)) := by
  refine CM.of (own := RX5) rfl (by decide) (Nat.le_of_ble_eq_true rfl) ?_
  intro p e s m below meth c A ls hx hb hr hml hown hg hlocks hK hE hA hP hD hS hl
  have hl : lv_has ls 4 [(0, .ref (aR 0)), (1, .ref (aB 0)), (2, .int x2)] := hl
  have lp_2 : ∀ (n : Nat) (x3 : Int32) (vB : Nat → Nat → Int32) (H : Heap) (locs : List Loc) (ls : Array Slot), L_X5_writeTo_2 vR x2 n x3 vB = some r → va_P E.1 vwCl (W_R E aR vR ++ (W_B E aB vB)) H → va_D A (W_R E aR vR ++ (W_B E aB vB)) → va_S A s.heap H locs → lv_has ls 4 [(0, .ref (aR 0)), (1, .ref (aB 0)), (2, .int x2), (3, .int x3)] → W p l e rm_X5_writeTo s m ([.ref (aR 0), .ref (aB 0), .int x2] : List Value).toArray below meth c H locs 0 0 (MQ below (QW E none (W_R E aR vR ++ (W_B E aB r)) A) ([.ref (aR 0), .ref (aB 0), .int x2] : List Value).toArray s 0 0 A) (F0 m 2 ls []) := by
    intro n
    induction n with
    | zero => intro x3 vB H locs ls hf; cases hf
    | succ n ih =>
      intro x3 vB H locs ls hf hP hD hS hl
      replace hf : B_X5_writeTo_2 (L_X5_writeTo_2 vR x2 n) vR x2 x3 vB = some r := hf
      unfold B_X5_writeTo_2 at hf
      refine lv_iload_n hx hb dX5_writeTo_2 rfl (lv_at hl 3 rfl) ?_
      refine lv_aload_n hx hb dX5_writeTo_3 rfl (lv_at hl 0 rfl) ?_
      refine gf_X5_9 hx hb hg hown hK hP 0 rfl rfl dX5_writeTo_4 ?_
      refine lv_icmp_ge (tgt := 52) hx hb dX5_writeTo_7 (by decide) (fun cq => ?_) (fun cq => ?_)
      · have hf := it cq hf
        obtain rfl := Option.some.inj hf
        exact cm_vret hx hb hr hlocks hP hS dX5_writeTo_52
      · have hf := ie cq hf
        refine lv_aload_n hx hb dX5_writeTo_10 rfl (lv_at hl 0 rfl) ?_
        refine gf_X5_19 hx hb hg hown hK hP 0 rfl rfl dX5_writeTo_11 ?_
        refine lv_iload_n hx hb dX5_writeTo_14 rfl (lv_at hl 3 rfl) ?_
        obtain ⟨hi, hf⟩ := ck_o hf
        refine ar_ld hx hb hK hP 2 rfl hi dX5_writeTo_15 ?_
        refine lv_iload_n hx hb dX5_writeTo_16 rfl (lv_at hl 2 rfl) ?_
        refine lv_icmp_ne (tgt := 46) hx hb dX5_writeTo_17 (by decide) (fun cq => ?_) (fun cq => ?_)
        · have hf := ie cq hf
          refine lv_iinc (v := (x3 + 1)) (lv' := [(3, .int (x3 + 1)), (0, .ref (aR 0)), (1, .ref (aB 0)), (2, .int x2)]) hx hb dX5_writeTo_46 hl (k := 3) rfl rfl (by decide) rfl (fun ls hl => ?_)
          refine lv_goto (tgt := 2) hx hb dX5_writeTo_49 (by decide) ?_
          exact ih _ _ _ _ _ hf hP hD hS (lv_sub hl [1, 2, 3, 0] rfl)
        · have hf := it cq hf
          refine lv_aload_n hx hb dX5_writeTo_20 rfl (lv_at hl 1 rfl) ?_
          refine lv_aload_n hx hb dX5_writeTo_21 rfl (lv_at hl 0 rfl) ?_
          refine gf_X5_22 hx hb hg hown hK hP 0 rfl rfl dX5_writeTo_22 ?_
          refine lv_iload_n hx hb dX5_writeTo_25 rfl (lv_at hl 3 rfl) ?_
          obtain ⟨hi, hf⟩ := ck_o hf
          refine ar_ld hx hb hK hP 3 rfl hi dX5_writeTo_26 ?_
          obtain ⟨u1, hu1, hf⟩ := bn hf
          refine cm_V (As := [.int (vR 3 (Int32.toNatClampNeg x3))]) (rest := []) (w2 := (W_R E aR vR ++ (W_B E aB u1))) hx hb hml hown hg (c_X0_add E l aB vB (vR 3 (Int32.toNatClampNeg x3)) u1 hu1) cy_X0_add ml_X5_38 ⟨⟨rfl, rfl⟩, Nat.le_of_ble_eq_true rfl, Nat.le_of_ble_eq_true rfl⟩ hK hE hP hD hS hA [false, false, false, false, true, true] rfl rfl rfl 4 rfl rfl rfl hl.1 rfl (Nat.le_of_ble_eq_true rfl) dX5_writeTo_27 ⟨Nat.le_of_ble_eq_true rfl, Nat.le_of_ble_eq_true rfl⟩ [] rfl (fun H locs hP hD hS => ?_)
          refine lv_aload_n hx hb dX5_writeTo_30 rfl (lv_at hl 1 rfl) ?_
          refine lv_aload_n hx hb dX5_writeTo_31 rfl (lv_at hl 0 rfl) ?_
          refine gf_X5_15 hx hb hg hown hK hP 0 rfl rfl dX5_writeTo_32 ?_
          refine lv_iload_n hx hb dX5_writeTo_35 rfl (lv_at hl 3 rfl) ?_
          obtain ⟨hi, hf⟩ := ck_o hf
          refine ar_ld hx hb hK hP 1 rfl hi dX5_writeTo_36 ?_
          obtain ⟨u2, hu2, hf⟩ := bn hf
          refine cm_V (As := [.int (vR 1 (Int32.toNatClampNeg x3))]) (rest := []) (w2 := (W_R E aR vR ++ (W_B E aB u2))) hx hb hml hown hg (c_X0_addMinute E l aB u1 (vR 1 (Int32.toNatClampNeg x3)) u2 hu2) cy_X0_addMinute ml_X5_44 ⟨⟨rfl, rfl⟩, Nat.le_of_ble_eq_true rfl, Nat.le_of_ble_eq_true rfl⟩ hK hE hP hD hS hA [false, false, false, false, true, true] rfl rfl rfl 4 rfl rfl rfl hl.1 rfl (Nat.le_of_ble_eq_true rfl) dX5_writeTo_37 ⟨Nat.le_of_ble_eq_true rfl, Nat.le_of_ble_eq_true rfl⟩ [] rfl (fun H locs hP hD hS => ?_)
          refine lv_aload_n hx hb dX5_writeTo_40 rfl (lv_at hl 1 rfl) ?_
          refine lv_bipush (v := 10) hx hb dX5_writeTo_41 (by decide) ?_
          obtain ⟨u3, hu3, hf⟩ := bn hf
          refine cm_V (As := [.int 10]) (rest := []) (w2 := (W_R E aR vR ++ (W_B E aB u3))) hx hb hml hown hg (c_X0_add E l aB u2 10 u3 hu3) cy_X0_add ml_X5_38 ⟨⟨rfl, rfl⟩, Nat.le_of_ble_eq_true rfl, Nat.le_of_ble_eq_true rfl⟩ hK hE hP hD hS hA [false, false, false, false, true, true] rfl rfl rfl 4 rfl rfl rfl hl.1 rfl (Nat.le_of_ble_eq_true rfl) dX5_writeTo_43 ⟨Nat.le_of_ble_eq_true rfl, Nat.le_of_ble_eq_true rfl⟩ [] rfl (fun H locs hP hD hS => ?_)
          refine lv_iinc (v := (x3 + 1)) (lv' := [(3, .int (x3 + 1)), (0, .ref (aR 0)), (1, .ref (aB 0)), (2, .int x2)]) hx hb dX5_writeTo_46 hl (k := 3) rfl rfl (by decide) rfl (fun ls hl => ?_)
          refine lv_goto (tgt := 2) hx hb dX5_writeTo_49 (by decide) ?_
          exact ih _ _ _ _ _ hf hP hD hS (lv_sub hl [1, 2, 3, 0] rfl)
  unfold F_X5_writeTo at hf
  refine lv_iconst (v := 0) hx hb dX5_writeTo_0 (by decide) ?_
  refine lv_istore_n (lv' := [(3, .int 0), (0, .ref (aR 0)), (1, .ref (aB 0)), (2, .int x2)]) hx hb dX5_writeTo_1 rfl hl (by decide) rfl (fun ls hl => ?_)
  exact lp_2 FU _ _ _ _ _ hf hP hD hS (lv_sub hl [1, 2, 3, 0] rfl)
def F_X5_copyFrom (vR : Nat → Nat → Int32) (vR1 : Nat → Nat → Int32) : Option ((Nat → Nat → Int32)) := lt (va_up vR 0 (fun _ => (vR1 0 0))) (fun vR_9 => lt (va_up vR_9 1 (va_cpy (vR1 1) (vR_9 1) 0 0 60)) (fun vR_10 => lt (va_up vR_10 2 (va_cpy (vR1 2) (vR_10 2) 0 0 60)) (fun vR_11 => lt (va_up vR_11 3 (va_cpy (vR1 3) (vR_11 3) 0 0 60)) (fun vR_12 => (some vR_12)))))
abbrev rm_X5_copyFrom : Room := { frames := 1, cells := 0, slots := 0, locals := 60 }
set_option maxHeartbeats 4000000 in
set_option maxRecDepth 100000 in
theorem c_X5_copyFrom (E : Ev) (l : Launch) (aR : Nat → Nat) (aR1 : Nat → Nat) (vR : Nat → Nat → Int32) (vR1 : Nat → Nat → Int32) (r : (Nat → Nat → Int32)) (hf : F_X5_copyFrom vR vR1 = some r) : CM E l yX5_copyFrom (.code yX5_copyFrom cX5_copyFrom 2 none :: GA) rm_X5_copyFrom [.ref (aR 0), .ref (aR1 0)] (W_R E aR vR ++ (W_R E aR1 vR1)) none (W_R E aR r ++ (W_R E aR1 vR1)) := by
  refine CM.of (own := RX5) rfl (by decide) (Nat.le_of_ble_eq_true rfl) ?_
  intro p e s m below meth c A ls hx hb hr hml hown hg hlocks hK hE hA hP hD hS hl
  have hl : lv_has ls 2 [(0, .ref (aR 0)), (1, .ref (aR1 0))] := hl
  unfold F_X5_copyFrom at hf
  refine lv_aload_n hx hb dX5_copyFrom_0 rfl (lv_at hl 0 rfl) ?_
  refine lv_aload_n hx hb dX5_copyFrom_1 rfl (lv_at hl 1 rfl) ?_
  refine gf_X5_9 hx hb hg hown hK hP 4 rfl rfl dX5_copyFrom_2 ?_
  refine pf_X5_9 (w2 := (W_R E aR (va_up vR 0 (fun _ => (vR1 0 0))) ++ (W_R E aR1 vR1))) hx hb hg hown hK hP hD hS 0 rfl (Nat.le_of_ble_eq_true rfl) rfl dX5_copyFrom_5 (fun H locs hP hD hS => ?_)
  obtain ⟨vR_9, hv, hf⟩ := lt_o hf
  rw [← hv] at hP hD
  clear hv
  refine lv_aload_n hx hb dX5_copyFrom_8 rfl (lv_at hl 1 rfl) ?_
  refine gf_X5_15 hx hb hg hown hK hP 4 rfl rfl dX5_copyFrom_9 ?_
  refine lv_iconst (v := 0) hx hb dX5_copyFrom_12 (by decide) ?_
  refine lv_aload_n hx hb dX5_copyFrom_13 rfl (lv_at hl 0 rfl) ?_
  refine gf_X5_15 hx hb hg hown hK hP 0 rfl rfl dX5_copyFrom_14 ?_
  refine lv_iconst (v := 0) hx hb dX5_copyFrom_17 (by decide) ?_
  refine lv_bipush (v := 60) hx hb dX5_copyFrom_18 (by decide) ?_
  refine ar_cp (w2 := (W_R E aR (va_up vR_9 1 (va_cpy (vR1 1) (vR_9 1) 0 0 60)) ++ (W_R E aR1 vR1))) hx hb hml hl.1 hown hg ml_X5_47 hK hP hD hS 5 1 rfl rfl (by decide) (by decide) (by decide) (Nat.le_of_ble_eq_true rfl) (Nat.le_of_ble_eq_true rfl) (Nat.le_of_ble_eq_true rfl) (Nat.le_of_ble_eq_true rfl) rfl dX5_copyFrom_20 (fun H locs hP hD hS => ?_)
  obtain ⟨vR_10, hv, hf⟩ := lt_o hf
  rw [← hv] at hP hD
  clear hv
  refine lv_aload_n hx hb dX5_copyFrom_23 rfl (lv_at hl 1 rfl) ?_
  refine gf_X5_19 hx hb hg hown hK hP 4 rfl rfl dX5_copyFrom_24 ?_
  refine lv_iconst (v := 0) hx hb dX5_copyFrom_27 (by decide) ?_
  refine lv_aload_n hx hb dX5_copyFrom_28 rfl (lv_at hl 0 rfl) ?_
  refine gf_X5_19 hx hb hg hown hK hP 0 rfl rfl dX5_copyFrom_29 ?_
  refine lv_iconst (v := 0) hx hb dX5_copyFrom_32 (by decide) ?_
  refine lv_bipush (v := 60) hx hb dX5_copyFrom_33 (by decide) ?_
  refine ar_cp (w2 := (W_R E aR (va_up vR_10 2 (va_cpy (vR1 2) (vR_10 2) 0 0 60)) ++ (W_R E aR1 vR1))) hx hb hml hl.1 hown hg ml_X5_47 hK hP hD hS 6 2 rfl rfl (by decide) (by decide) (by decide) (Nat.le_of_ble_eq_true rfl) (Nat.le_of_ble_eq_true rfl) (Nat.le_of_ble_eq_true rfl) (Nat.le_of_ble_eq_true rfl) rfl dX5_copyFrom_35 (fun H locs hP hD hS => ?_)
  obtain ⟨vR_11, hv, hf⟩ := lt_o hf
  rw [← hv] at hP hD
  clear hv
  refine lv_aload_n hx hb dX5_copyFrom_38 rfl (lv_at hl 1 rfl) ?_
  refine gf_X5_22 hx hb hg hown hK hP 4 rfl rfl dX5_copyFrom_39 ?_
  refine lv_iconst (v := 0) hx hb dX5_copyFrom_42 (by decide) ?_
  refine lv_aload_n hx hb dX5_copyFrom_43 rfl (lv_at hl 0 rfl) ?_
  refine gf_X5_22 hx hb hg hown hK hP 0 rfl rfl dX5_copyFrom_44 ?_
  refine lv_iconst (v := 0) hx hb dX5_copyFrom_47 (by decide) ?_
  refine lv_bipush (v := 60) hx hb dX5_copyFrom_48 (by decide) ?_
  refine ar_cp (w2 := (W_R E aR (va_up vR_11 3 (va_cpy (vR1 3) (vR_11 3) 0 0 60)) ++ (W_R E aR1 vR1))) hx hb hml hl.1 hown hg ml_X5_47 hK hP hD hS 7 3 rfl rfl (by decide) (by decide) (by decide) (Nat.le_of_ble_eq_true rfl) (Nat.le_of_ble_eq_true rfl) (Nat.le_of_ble_eq_true rfl) (Nat.le_of_ble_eq_true rfl) rfl dX5_copyFrom_50 (fun H locs hP hD hS => ?_)
  obtain ⟨vR_12, hv, hf⟩ := lt_o hf
  rw [← hv] at hP hD
  clear hv
  obtain rfl := Option.some.inj hf
  exact cm_vret hx hb hr hlocks hP hS dX5_copyFrom_53
