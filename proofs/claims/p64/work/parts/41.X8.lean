def F_X8_umbrellaOf (vX : Nat → Int32) (vN : Nat → Int32) (vG : Nat → Nat → Int32) (vU : Nat → Nat → Int32) (x1 : Int32) : Option (Nat × Int32) := (F_X8_requireGuest vX vN vG x1).bind (fun u1 => if u1 = 0 then ((F_X7_carriedBy vU x1).bind (fun u2 => (if u2 = (-1) then (some (3, 0)) else (some (0, u2))))) else some (u1, 0))
abbrev rm_X8_umbrellaOf : Room := { frames := 7, cells := 2, slots := 12, locals := 111 }
set_option maxHeartbeats 4000000 in
set_option maxRecDepth 100000 in
theorem c_X8_umbrellaOf (E : Ev) (l : Launch) (hst : l.stackTraces = false) (aX : Nat) (aB : Nat → Nat) (aBw : Nat → Nat) (aP : Nat) (aN : Nat) (aNd : Nat) (aH : Nat) (aQ : Nat) (aG : Nat → Nat) (aU : Nat → Nat) (aR : Nat → Nat) (vX : Nat → Int32) (vN : Nat → Int32) (vG : Nat → Nat → Int32) (vU : Nat → Nat → Int32) (x1 : Int32) (r : Nat × Int32) (hf : F_X8_umbrellaOf vX vN vG vU x1 = some r) : XM E l yX8_umbrellaOf (.code yX8_umbrellaOf cX8_umbrellaOf 3 (some .int) :: GA) rm_X8_umbrellaOf [.ref aX, .int x1] (W_X aX aB aBw aP aN aNd aH aQ vX ++ (W_N aN aG aU aR vN ++ (W_G E aG vG ++ (W_U E aU vU)))) r.1 (some (.int r.2)) (W_X aX aB aBw aP aN aNd aH aQ vX ++ (W_N aN aG aU aR vN ++ (W_G E aG vG ++ (W_U E aU vU)))) 2 := by
  refine XM.of (own := RX8) rfl (by decide) (Nat.le_of_ble_eq_true rfl) ?_
  intro p e s m below meth c A ls hx hb hr hml hown hg hlocks hK hE hA hout hP hD hS hl
  have hl : lv_has ls 3 [(0, .ref aX), (1, .int x1)] := hl
  unfold F_X8_umbrellaOf at hf
  refine lv_aload_n hx hb dX8_umbrellaOf_0 rfl (lv_at hl 0 rfl) ?_
  refine lv_iload_n hx hb dX8_umbrellaOf_1 rfl (lv_at hl 1 rfl) ?_
  obtain ⟨u1, hu1, hf⟩ := bn hf
  refine xm_V (As := [.int x1]) (rest := []) (w2 := (W_X aX aB aBw aP aN aNd aH aQ vX ++ (W_N aN aG aU aR vN ++ (W_G E aG vG ++ (W_U E aU vU))))) hx hb hml hown hg (c_X8_requireGuest E l hst aX aB aBw aP aN aNd aH aQ aG aU aR vX vN vG x1 u1 hu1) cy_X8_requireGuest ml_X8_124 ⟨⟨rfl, rfl⟩, Nat.le_of_ble_eq_true rfl, Nat.le_of_ble_eq_true rfl⟩ hK hE hP hD hS hA [true, true, true, true, true, true, true, true, true, true, true] rfl rfl rfl 0 rfl rfl rfl hl.1 rfl (Nat.le_of_ble_eq_true rfl) dX8_umbrellaOf_2 ⟨Nat.le_of_ble_eq_true rfl, Nat.le_of_ble_eq_true rfl⟩ [] rfl (fun h0 H locs hP hD hS => ?_) (fun h0 H locs ce q9 hP hD hS hce hcv hcl => ?_)
  rotate_left
  · have hf := ie (Nat.pos_iff_ne_zero.mp h0) hf
    obtain rfl := Option.some.inj hf
    exact xm_out hout hlocks h0 hce hcv hcl hP hS (Nat.le_of_ble_eq_true rfl) (Nat.le_of_ble_eq_true rfl)
  have hf := it h0 hf
  refine lv_aload_n hx hb dX8_umbrellaOf_5 rfl (lv_at hl 0 rfl) ?_
  refine gf_X8_31 hx hb hg hown hK hP 0 rfl rfl dX8_umbrellaOf_6 ?_
  refine gf_X8_171 hx hb hg hown hK hP 1 rfl rfl dX8_umbrellaOf_9 ?_
  refine lv_iload_n hx hb dX8_umbrellaOf_12 rfl (lv_at hl 1 rfl) ?_
  obtain ⟨u2, hu2, hf⟩ := bn hf
  refine cm_V (As := [.int x1]) (rest := []) (w2 := (W_X aX aB aBw aP aN aNd aH aQ vX ++ (W_N aN aG aU aR vN ++ (W_G E aG vG ++ (W_U E aU vU))))) hx hb hml hown hg (c_X7_carriedBy E l aU vU x1 u2 hu2) cy_X7_carriedBy ml_X8_198 ⟨⟨rfl, rfl⟩, Nat.le_of_ble_eq_true rfl, Nat.le_of_ble_eq_true rfl⟩ hK hE hP hD hS hA [false, false, false, false, false, false, false, false, false, false, false, true, true, true, true] rfl rfl rfl 11 rfl rfl rfl hl.1 rfl (Nat.le_of_ble_eq_true rfl) dX8_umbrellaOf_13 ⟨Nat.le_of_ble_eq_true rfl, Nat.le_of_ble_eq_true rfl⟩ [.int u2] rfl (fun H locs hP hD hS => ?_)
  refine lv_istore_n (lv' := [(2, .int u2), (0, .ref aX), (1, .int x1)]) hx hb dX8_umbrellaOf_16 rfl hl (by decide) rfl (fun ls hl => ?_)
  refine lv_iload_n hx hb dX8_umbrellaOf_17 rfl (lv_at hl 0 rfl) ?_
  refine lv_iconst (v := (-1)) hx hb dX8_umbrellaOf_18 (by decide) ?_
  refine lv_icmp_ne (tgt := 32) hx hb dX8_umbrellaOf_19 (by decide) (fun cq => ?_) (fun cq => ?_)
  · have hf := ie cq hf
    refine lv_iload_n hx hb dX8_umbrellaOf_32 rfl (lv_at hl 0 rfl) ?_
    obtain rfl := Option.some.inj hf
    exact xm_yret (v := u2) rfl hx hb hr hlocks hP hS rfl dX8_umbrellaOf_33 (Nat.le_of_ble_eq_true rfl) (Nat.le_of_ble_eq_true rfl)
  · have hf := it cq hf
    obtain rfl := Option.some.inj hf
    exact xm_throw3 (is := 202) (i := 38) (text := "the guest carries no umbrella") rfl hx hb hml hl.1 hst hown hg hE (List.mem_of_getElem? (i := 38) rfl) hout hlocks hP hS dX8_umbrellaOf_22 dX8_umbrellaOf_25 dX8_umbrellaOf_26 dX8_umbrellaOf_28 dX8_umbrellaOf_31 (Nat.le_of_ble_eq_true rfl) (Nat.le_of_ble_eq_true rfl) (Nat.le_of_ble_eq_true rfl) (Nat.le_of_ble_eq_true rfl) (Nat.le_of_ble_eq_true rfl) (Nat.le_of_ble_eq_true rfl)
def F_X8_entryMinute (vX : Nat → Int32) (vN : Nat → Int32) (vR : Nat → Nat → Int32) (x1 : Int32) : Option (Nat × Int32) := (F_X8_requireEntry vX vN vR x1).bind (fun u1 => if u1 = 0 then (ck x1 60 ((some (0, (vR 1 (Int32.toNatClampNeg x1)))))) else some (u1, 0))
abbrev rm_X8_entryMinute : Room := { frames := 7, cells := 1, slots := 6, locals := 111 }
set_option maxHeartbeats 4000000 in
set_option maxRecDepth 100000 in
theorem c_X8_entryMinute (E : Ev) (l : Launch) (hst : l.stackTraces = false) (aX : Nat) (aB : Nat → Nat) (aBw : Nat → Nat) (aP : Nat) (aN : Nat) (aNd : Nat) (aH : Nat) (aQ : Nat) (aG : Nat → Nat) (aU : Nat → Nat) (aR : Nat → Nat) (vX : Nat → Int32) (vN : Nat → Int32) (vR : Nat → Nat → Int32) (x1 : Int32) (r : Nat × Int32) (hf : F_X8_entryMinute vX vN vR x1 = some r) : XM E l yX8_entryMinute (.code yX8_entryMinute cX8_entryMinute 2 (some .int) :: GA) rm_X8_entryMinute [.ref aX, .int x1] (W_X aX aB aBw aP aN aNd aH aQ vX ++ (W_N aN aG aU aR vN ++ (W_R E aR vR))) r.1 (some (.int r.2)) (W_X aX aB aBw aP aN aNd aH aQ vX ++ (W_N aN aG aU aR vN ++ (W_R E aR vR))) 1 := by
  refine XM.of (own := RX8) rfl (by decide) (Nat.le_of_ble_eq_true rfl) ?_
  intro p e s m below meth c A ls hx hb hr hml hown hg hlocks hK hE hA hout hP hD hS hl
  have hl : lv_has ls 2 [(0, .ref aX), (1, .int x1)] := hl
  unfold F_X8_entryMinute at hf
  refine lv_aload_n hx hb dX8_entryMinute_0 rfl (lv_at hl 0 rfl) ?_
  refine lv_iload_n hx hb dX8_entryMinute_1 rfl (lv_at hl 1 rfl) ?_
  obtain ⟨u1, hu1, hf⟩ := bn hf
  refine xm_V (As := [.int x1]) (rest := []) (w2 := (W_X aX aB aBw aP aN aNd aH aQ vX ++ (W_N aN aG aU aR vN ++ (W_R E aR vR)))) hx hb hml hown hg (c_X8_requireEntry E l hst aX aB aBw aP aN aNd aH aQ aG aU aR vX vN vR x1 u1 hu1) cy_X8_requireEntry ml_X8_217 ⟨⟨rfl, rfl⟩, Nat.le_of_ble_eq_true rfl, Nat.le_of_ble_eq_true rfl⟩ hK hE hP hD hS hA [true, true, true, true, true, true] rfl rfl rfl 0 rfl rfl rfl hl.1 rfl (Nat.le_of_ble_eq_true rfl) dX8_entryMinute_2 ⟨Nat.le_of_ble_eq_true rfl, Nat.le_of_ble_eq_true rfl⟩ [] rfl (fun h0 H locs hP hD hS => ?_) (fun h0 H locs ce q9 hP hD hS hce hcv hcl => ?_)
  rotate_left
  · have hf := ie (Nat.pos_iff_ne_zero.mp h0) hf
    obtain rfl := Option.some.inj hf
    exact xm_out hout hlocks h0 hce hcv hcl hP hS (Nat.le_of_ble_eq_true rfl) (Nat.le_of_ble_eq_true rfl)
  have hf := it h0 hf
  refine lv_aload_n hx hb dX8_entryMinute_5 rfl (lv_at hl 0 rfl) ?_
  refine gf_X8_31 hx hb hg hown hK hP 0 rfl rfl dX8_entryMinute_6 ?_
  refine gf_X8_210 hx hb hg hown hK hP 1 rfl rfl dX8_entryMinute_9 ?_
  refine gf_X8_220 hx hb hg hown hK hP 2 rfl rfl dX8_entryMinute_12 ?_
  refine lv_iload_n hx hb dX8_entryMinute_15 rfl (lv_at hl 1 rfl) ?_
  obtain ⟨hi, hf⟩ := ck_o hf
  refine ar_ld hx hb hK hP 3 rfl hi dX8_entryMinute_16 ?_
  obtain rfl := Option.some.inj hf
  exact xm_yret (v := (vR 1 (Int32.toNatClampNeg x1))) rfl hx hb hr hlocks hP hS rfl dX8_entryMinute_17 (Nat.le_of_ble_eq_true rfl) (Nat.le_of_ble_eq_true rfl)
def F_X8_entryGuest (vX : Nat → Int32) (vN : Nat → Int32) (vR : Nat → Nat → Int32) (x1 : Int32) : Option (Nat × Int32) := (F_X8_requireEntry vX vN vR x1).bind (fun u1 => if u1 = 0 then (ck x1 60 ((some (0, (vR 2 (Int32.toNatClampNeg x1)))))) else some (u1, 0))
abbrev rm_X8_entryGuest : Room := { frames := 7, cells := 1, slots := 6, locals := 111 }
set_option maxHeartbeats 4000000 in
set_option maxRecDepth 100000 in
theorem c_X8_entryGuest (E : Ev) (l : Launch) (hst : l.stackTraces = false) (aX : Nat) (aB : Nat → Nat) (aBw : Nat → Nat) (aP : Nat) (aN : Nat) (aNd : Nat) (aH : Nat) (aQ : Nat) (aG : Nat → Nat) (aU : Nat → Nat) (aR : Nat → Nat) (vX : Nat → Int32) (vN : Nat → Int32) (vR : Nat → Nat → Int32) (x1 : Int32) (r : Nat × Int32) (hf : F_X8_entryGuest vX vN vR x1 = some r) : XM E l yX8_entryGuest (.code yX8_entryGuest cX8_entryGuest 2 (some .int) :: GA) rm_X8_entryGuest [.ref aX, .int x1] (W_X aX aB aBw aP aN aNd aH aQ vX ++ (W_N aN aG aU aR vN ++ (W_R E aR vR))) r.1 (some (.int r.2)) (W_X aX aB aBw aP aN aNd aH aQ vX ++ (W_N aN aG aU aR vN ++ (W_R E aR vR))) 1 := by
  refine XM.of (own := RX8) rfl (by decide) (Nat.le_of_ble_eq_true rfl) ?_
  intro p e s m below meth c A ls hx hb hr hml hown hg hlocks hK hE hA hout hP hD hS hl
  have hl : lv_has ls 2 [(0, .ref aX), (1, .int x1)] := hl
  unfold F_X8_entryGuest at hf
  refine lv_aload_n hx hb dX8_entryGuest_0 rfl (lv_at hl 0 rfl) ?_
  refine lv_iload_n hx hb dX8_entryGuest_1 rfl (lv_at hl 1 rfl) ?_
  obtain ⟨u1, hu1, hf⟩ := bn hf
  refine xm_V (As := [.int x1]) (rest := []) (w2 := (W_X aX aB aBw aP aN aNd aH aQ vX ++ (W_N aN aG aU aR vN ++ (W_R E aR vR)))) hx hb hml hown hg (c_X8_requireEntry E l hst aX aB aBw aP aN aNd aH aQ aG aU aR vX vN vR x1 u1 hu1) cy_X8_requireEntry ml_X8_217 ⟨⟨rfl, rfl⟩, Nat.le_of_ble_eq_true rfl, Nat.le_of_ble_eq_true rfl⟩ hK hE hP hD hS hA [true, true, true, true, true, true] rfl rfl rfl 0 rfl rfl rfl hl.1 rfl (Nat.le_of_ble_eq_true rfl) dX8_entryGuest_2 ⟨Nat.le_of_ble_eq_true rfl, Nat.le_of_ble_eq_true rfl⟩ [] rfl (fun h0 H locs hP hD hS => ?_) (fun h0 H locs ce q9 hP hD hS hce hcv hcl => ?_)
  rotate_left
  · have hf := ie (Nat.pos_iff_ne_zero.mp h0) hf
    obtain rfl := Option.some.inj hf
    exact xm_out hout hlocks h0 hce hcv hcl hP hS (Nat.le_of_ble_eq_true rfl) (Nat.le_of_ble_eq_true rfl)
  have hf := it h0 hf
  refine lv_aload_n hx hb dX8_entryGuest_5 rfl (lv_at hl 0 rfl) ?_
  refine gf_X8_31 hx hb hg hown hK hP 0 rfl rfl dX8_entryGuest_6 ?_
  refine gf_X8_210 hx hb hg hown hK hP 1 rfl rfl dX8_entryGuest_9 ?_
  refine gf_X8_223 hx hb hg hown hK hP 2 rfl rfl dX8_entryGuest_12 ?_
  refine lv_iload_n hx hb dX8_entryGuest_15 rfl (lv_at hl 1 rfl) ?_
  obtain ⟨hi, hf⟩ := ck_o hf
  refine ar_ld hx hb hK hP 4 rfl hi dX8_entryGuest_16 ?_
  obtain rfl := Option.some.inj hf
  exact xm_yret (v := (vR 2 (Int32.toNatClampNeg x1))) rfl hx hb hr hlocks hP hS rfl dX8_entryGuest_17 (Nat.le_of_ble_eq_true rfl) (Nat.le_of_ble_eq_true rfl)
def F_X8_isLeaving (vX : Nat → Int32) (vN : Nat → Int32) (vR : Nat → Nat → Int32) (x1 : Int32) : Option (Nat × Int32) := (F_X8_requireEntry vX vN vR x1).bind (fun u1 => if u1 = 0 then (ck x1 60 ((some (0, (if (vR 3 (Int32.toNatClampNeg x1)) = 45 then 1 else 0))))) else some (u1, 0))
abbrev rm_X8_isLeaving : Room := { frames := 7, cells := 1, slots := 6, locals := 111 }
set_option maxHeartbeats 4000000 in
set_option maxRecDepth 100000 in
theorem c_X8_isLeaving (E : Ev) (l : Launch) (hst : l.stackTraces = false) (aX : Nat) (aB : Nat → Nat) (aBw : Nat → Nat) (aP : Nat) (aN : Nat) (aNd : Nat) (aH : Nat) (aQ : Nat) (aG : Nat → Nat) (aU : Nat → Nat) (aR : Nat → Nat) (vX : Nat → Int32) (vN : Nat → Int32) (vR : Nat → Nat → Int32) (x1 : Int32) (r : Nat × Int32) (hf : F_X8_isLeaving vX vN vR x1 = some r) : XM E l yX8_isLeaving (.code yX8_isLeaving cX8_isLeaving 2 (some .boolean) :: GA) rm_X8_isLeaving [.ref aX, .int x1] (W_X aX aB aBw aP aN aNd aH aQ vX ++ (W_N aN aG aU aR vN ++ (W_R E aR vR))) r.1 (some (.int r.2)) (W_X aX aB aBw aP aN aNd aH aQ vX ++ (W_N aN aG aU aR vN ++ (W_R E aR vR))) 1 := by
  refine XM.of (own := RX8) rfl (by decide) (Nat.le_of_ble_eq_true rfl) ?_
  intro p e s m below meth c A ls hx hb hr hml hown hg hlocks hK hE hA hout hP hD hS hl
  have hl : lv_has ls 2 [(0, .ref aX), (1, .int x1)] := hl
  unfold F_X8_isLeaving at hf
  refine lv_aload_n hx hb dX8_isLeaving_0 rfl (lv_at hl 0 rfl) ?_
  refine lv_iload_n hx hb dX8_isLeaving_1 rfl (lv_at hl 1 rfl) ?_
  obtain ⟨u1, hu1, hf⟩ := bn hf
  refine xm_V (As := [.int x1]) (rest := []) (w2 := (W_X aX aB aBw aP aN aNd aH aQ vX ++ (W_N aN aG aU aR vN ++ (W_R E aR vR)))) hx hb hml hown hg (c_X8_requireEntry E l hst aX aB aBw aP aN aNd aH aQ aG aU aR vX vN vR x1 u1 hu1) cy_X8_requireEntry ml_X8_217 ⟨⟨rfl, rfl⟩, Nat.le_of_ble_eq_true rfl, Nat.le_of_ble_eq_true rfl⟩ hK hE hP hD hS hA [true, true, true, true, true, true] rfl rfl rfl 0 rfl rfl rfl hl.1 rfl (Nat.le_of_ble_eq_true rfl) dX8_isLeaving_2 ⟨Nat.le_of_ble_eq_true rfl, Nat.le_of_ble_eq_true rfl⟩ [] rfl (fun h0 H locs hP hD hS => ?_) (fun h0 H locs ce q9 hP hD hS hce hcv hcl => ?_)
  rotate_left
  · have hf := ie (Nat.pos_iff_ne_zero.mp h0) hf
    obtain rfl := Option.some.inj hf
    exact xm_out hout hlocks h0 hce hcv hcl hP hS (Nat.le_of_ble_eq_true rfl) (Nat.le_of_ble_eq_true rfl)
  have hf := it h0 hf
  refine lv_aload_n hx hb dX8_isLeaving_5 rfl (lv_at hl 0 rfl) ?_
  refine gf_X8_31 hx hb hg hown hK hP 0 rfl rfl dX8_isLeaving_6 ?_
  refine gf_X8_210 hx hb hg hown hK hP 1 rfl rfl dX8_isLeaving_9 ?_
  refine gf_X8_225 hx hb hg hown hK hP 2 rfl rfl dX8_isLeaving_12 ?_
  refine lv_iload_n hx hb dX8_isLeaving_15 rfl (lv_at hl 1 rfl) ?_
  obtain ⟨hi, hf⟩ := ck_o hf
  refine ar_ld hx hb hK hP 5 rfl hi dX8_isLeaving_16 ?_
  refine lv_bipush (v := 45) hx hb dX8_isLeaving_17 (by decide) ?_
  refine wj (F0 m 27 ls [.int (if (vR 3 (Int32.toNatClampNeg x1)) = 45 then 1 else 0)]) ?_ (fun jk => ?_)
  rotate_left
  · refine lv_icmp_ne (tgt := 26) hx hb dX8_isLeaving_19 (by decide) (fun cq => ?_) (fun cq => ?_)
    · rw [if_neg cq] at jk
      refine lv_iconst (v := 0) hx hb dX8_isLeaving_26 (by decide) ?_
      exact jk
    · rw [if_pos cq] at jk
      refine lv_iconst (v := 1) hx hb dX8_isLeaving_22 (by decide) ?_
      refine lv_goto (tgt := 27) hx hb dX8_isLeaving_23 (by decide) ?_
      exact jk
  obtain rfl := Option.some.inj hf
  exact xm_yret (v := (if (vR 3 (Int32.toNatClampNeg x1)) = 45 then 1 else 0)) rfl hx hb hr hlocks hP hS (by split <;> rfl) dX8_isLeaving_27 (Nat.le_of_ble_eq_true rfl) (Nat.le_of_ble_eq_true rfl)
def F_X8_wasOut (vX : Nat → Int32) (vN : Nat → Int32) (vG : Nat → Nat → Int32) (vR : Nat → Nat → Int32) (x1 : Int32) (x2 : Int32) : Option (Nat × Int32) := (F_X8_requireGuest vX vN vG x1).bind (fun u1 => if u1 = 0 then ((F_X8_requirePassed vX vN x2 x2).bind (fun u2 => if u2 = 0 then ((F_X5_wasInAllThrough vR x1 x2 x2).bind (fun u3 => (some (0, (if u3 = 0 then 1 else 0))))) else some (u2, 0))) else some (u1, 0))
abbrev rm_X8_wasOut : Room := { frames := 7, cells := 2, slots := 12, locals := 112 }
set_option maxHeartbeats 4000000 in
set_option maxRecDepth 100000 in
theorem c_X8_wasOut (E : Ev) (l : Launch) (hst : l.stackTraces = false) (aX : Nat) (aB : Nat → Nat) (aBw : Nat → Nat) (aP : Nat) (aN : Nat) (aNd : Nat) (aH : Nat) (aQ : Nat) (aG : Nat → Nat) (aU : Nat → Nat) (aR : Nat → Nat) (vX : Nat → Int32) (vN : Nat → Int32) (vG : Nat → Nat → Int32) (vR : Nat → Nat → Int32) (x1 : Int32) (x2 : Int32) (r : Nat × Int32) (hf : F_X8_wasOut vX vN vG vR x1 x2 = some r) : XM E l yX8_wasOut (.code yX8_wasOut cX8_wasOut 3 (some .boolean) :: GA) rm_X8_wasOut [.ref aX, .int x1, .int x2] (W_X aX aB aBw aP aN aNd aH aQ vX ++ (W_N aN aG aU aR vN ++ (W_G E aG vG ++ (W_R E aR vR)))) r.1 (some (.int r.2)) (W_X aX aB aBw aP aN aNd aH aQ vX ++ (W_N aN aG aU aR vN ++ (W_G E aG vG ++ (W_R E aR vR)))) 2 := by
  refine XM.of (own := RX8) rfl (by decide) (Nat.le_of_ble_eq_true rfl) ?_
  intro p e s m below meth c A ls hx hb hr hml hown hg hlocks hK hE hA hout hP hD hS hl
  have hl : lv_has ls 3 [(0, .ref aX), (1, .int x1), (2, .int x2)] := hl
  unfold F_X8_wasOut at hf
  refine lv_aload_n hx hb dX8_wasOut_0 rfl (lv_at hl 0 rfl) ?_
  refine lv_iload_n hx hb dX8_wasOut_1 rfl (lv_at hl 1 rfl) ?_
  obtain ⟨u1, hu1, hf⟩ := bn hf
  refine xm_V (As := [.int x1]) (rest := []) (w2 := (W_X aX aB aBw aP aN aNd aH aQ vX ++ (W_N aN aG aU aR vN ++ (W_G E aG vG ++ (W_R E aR vR))))) hx hb hml hown hg (c_X8_requireGuest E l hst aX aB aBw aP aN aNd aH aQ aG aU aR vX vN vG x1 u1 hu1) cy_X8_requireGuest ml_X8_124 ⟨⟨rfl, rfl⟩, Nat.le_of_ble_eq_true rfl, Nat.le_of_ble_eq_true rfl⟩ hK hE hP hD hS hA [true, true, true, true, true, true, true, true, true, true, true] rfl rfl rfl 0 rfl rfl rfl hl.1 rfl (Nat.le_of_ble_eq_true rfl) dX8_wasOut_2 ⟨Nat.le_of_ble_eq_true rfl, Nat.le_of_ble_eq_true rfl⟩ [] rfl (fun h0 H locs hP hD hS => ?_) (fun h0 H locs ce q9 hP hD hS hce hcv hcl => ?_)
  rotate_left
  · have hf := ie (Nat.pos_iff_ne_zero.mp h0) hf
    obtain rfl := Option.some.inj hf
    exact xm_out hout hlocks h0 hce hcv hcl hP hS (Nat.le_of_ble_eq_true rfl) (Nat.le_of_ble_eq_true rfl)
  have hf := it h0 hf
  refine lv_aload_n hx hb dX8_wasOut_5 rfl (lv_at hl 0 rfl) ?_
  refine lv_iload_n hx hb dX8_wasOut_6 rfl (lv_at hl 2 rfl) ?_
  refine lv_iload_n hx hb dX8_wasOut_7 rfl (lv_at hl 2 rfl) ?_
  obtain ⟨u2, hu2, hf⟩ := bn hf
  refine xm_V (As := [.int x2, .int x2]) (rest := []) (w2 := (W_X aX aB aBw aP aN aNd aH aQ vX ++ (W_N aN aG aU aR vN ++ (W_G E aG vG ++ (W_R E aR vR))))) hx hb hml hown hg (c_X8_requirePassed E l hst aX aB aBw aP aN aNd aH aQ aG aU aR vX vN x2 x2 u2 hu2) cy_X8_requirePassed ml_X8_228 ⟨⟨rfl, rfl⟩, Nat.le_of_ble_eq_true rfl, Nat.le_of_ble_eq_true rfl⟩ hK hE hP hD hS hA [true, true] rfl rfl rfl 0 rfl rfl rfl hl.1 rfl (Nat.le_of_ble_eq_true rfl) dX8_wasOut_8 ⟨Nat.le_of_ble_eq_true rfl, Nat.le_of_ble_eq_true rfl⟩ [] rfl (fun h0 H locs hP hD hS => ?_) (fun h0 H locs ce q9 hP hD hS hce hcv hcl => ?_)
  rotate_left
  · have hf := ie (Nat.pos_iff_ne_zero.mp h0) hf
    obtain rfl := Option.some.inj hf
    exact xm_out hout hlocks h0 hce hcv hcl hP hS (Nat.le_of_ble_eq_true rfl) (Nat.le_of_ble_eq_true rfl)
  have hf := it h0 hf
  refine lv_aload_n hx hb dX8_wasOut_11 rfl (lv_at hl 0 rfl) ?_
  refine gf_X8_31 hx hb hg hown hK hP 0 rfl rfl dX8_wasOut_12 ?_
  refine gf_X8_210 hx hb hg hown hK hP 1 rfl rfl dX8_wasOut_15 ?_
  refine lv_iload_n hx hb dX8_wasOut_18 rfl (lv_at hl 1 rfl) ?_
  refine lv_iload_n hx hb dX8_wasOut_19 rfl (lv_at hl 2 rfl) ?_
  refine lv_iload_n hx hb dX8_wasOut_20 rfl (lv_at hl 2 rfl) ?_
  obtain ⟨u3, hu3, hf⟩ := bn hf
  refine cm_V (As := [.int x1, .int x2, .int x2]) (rest := []) (w2 := (W_X aX aB aBw aP aN aNd aH aQ vX ++ (W_N aN aG aU aR vN ++ (W_G E aG vG ++ (W_R E aR vR))))) hx hb hml hown hg (c_X5_wasInAllThrough E l aR vR x1 x2 x2 u3 hu3) cy_X5_wasInAllThrough ml_X8_232 ⟨⟨rfl, rfl⟩, Nat.le_of_ble_eq_true rfl, Nat.le_of_ble_eq_true rfl⟩ hK hE hP hD hS hA [false, false, false, false, false, false, false, false, false, false, false, true, true, true, true] rfl rfl rfl 11 rfl rfl rfl hl.1 rfl (Nat.le_of_ble_eq_true rfl) dX8_wasOut_21 ⟨Nat.le_of_ble_eq_true rfl, Nat.le_of_ble_eq_true rfl⟩ [.int u3] rfl (fun H locs hP hD hS => ?_)
  refine wj (F0 m 32 ls [.int (if u3 = 0 then 1 else 0)]) ?_ (fun jk => ?_)
  rotate_left
  · refine lv_if_ne (tgt := 31) hx hb dX8_wasOut_24 (by decide) (fun cq => ?_) (fun cq => ?_)
    · rw [if_neg cq] at jk
      refine lv_iconst (v := 0) hx hb dX8_wasOut_31 (by decide) ?_
      exact jk
    · rw [if_pos cq] at jk
      refine lv_iconst (v := 1) hx hb dX8_wasOut_27 (by decide) ?_
      refine lv_goto (tgt := 32) hx hb dX8_wasOut_28 (by decide) ?_
      exact jk
  obtain rfl := Option.some.inj hf
  exact xm_yret (v := (if u3 = 0 then 1 else 0)) rfl hx hb hr hlocks hP hS (by split <;> rfl) dX8_wasOut_32 (Nat.le_of_ble_eq_true rfl) (Nat.le_of_ble_eq_true rfl)
def F_X8_hasAlibi (vX : Nat → Int32) (vN : Nat → Int32) (vG : Nat → Nat → Int32) (vR : Nat → Nat → Int32) (x1 : Int32) (x2 : Int32) (x3 : Int32) : Option (Nat × Int32) := (F_X8_requireGuest vX vN vG x1).bind (fun u1 => if u1 = 0 then ((F_X8_requirePassed vX vN x2 x3).bind (fun u2 => if u2 = 0 then ((F_X5_wasInAllThrough vR x1 x2 x3).bind (fun u3 => (cn (u3 = 0 ∨ u3 = 1) (some (0, u3))))) else some (u2, 0))) else some (u1, 0))
abbrev rm_X8_hasAlibi : Room := { frames := 7, cells := 2, slots := 12, locals := 112 }
set_option maxHeartbeats 4000000 in
set_option maxRecDepth 100000 in
theorem c_X8_hasAlibi (E : Ev) (l : Launch) (hst : l.stackTraces = false) (aX : Nat) (aB : Nat → Nat) (aBw : Nat → Nat) (aP : Nat) (aN : Nat) (aNd : Nat) (aH : Nat) (aQ : Nat) (aG : Nat → Nat) (aU : Nat → Nat) (aR : Nat → Nat) (vX : Nat → Int32) (vN : Nat → Int32) (vG : Nat → Nat → Int32) (vR : Nat → Nat → Int32) (x1 : Int32) (x2 : Int32) (x3 : Int32) (r : Nat × Int32) (hf : F_X8_hasAlibi vX vN vG vR x1 x2 x3 = some r) : XM E l yX8_hasAlibi (.code yX8_hasAlibi cX8_hasAlibi 4 (some .boolean) :: GA) rm_X8_hasAlibi [.ref aX, .int x1, .int x2, .int x3] (W_X aX aB aBw aP aN aNd aH aQ vX ++ (W_N aN aG aU aR vN ++ (W_G E aG vG ++ (W_R E aR vR)))) r.1 (some (.int r.2)) (W_X aX aB aBw aP aN aNd aH aQ vX ++ (W_N aN aG aU aR vN ++ (W_G E aG vG ++ (W_R E aR vR)))) 2 := by
  refine XM.of (own := RX8) rfl (by decide) (Nat.le_of_ble_eq_true rfl) ?_
  intro p e s m below meth c A ls hx hb hr hml hown hg hlocks hK hE hA hout hP hD hS hl
  have hl : lv_has ls 4 [(0, .ref aX), (1, .int x1), (2, .int x2), (3, .int x3)] := hl
  unfold F_X8_hasAlibi at hf
  refine lv_aload_n hx hb dX8_hasAlibi_0 rfl (lv_at hl 0 rfl) ?_
  refine lv_iload_n hx hb dX8_hasAlibi_1 rfl (lv_at hl 1 rfl) ?_
  obtain ⟨u1, hu1, hf⟩ := bn hf
  refine xm_V (As := [.int x1]) (rest := []) (w2 := (W_X aX aB aBw aP aN aNd aH aQ vX ++ (W_N aN aG aU aR vN ++ (W_G E aG vG ++ (W_R E aR vR))))) hx hb hml hown hg (c_X8_requireGuest E l hst aX aB aBw aP aN aNd aH aQ aG aU aR vX vN vG x1 u1 hu1) cy_X8_requireGuest ml_X8_124 ⟨⟨rfl, rfl⟩, Nat.le_of_ble_eq_true rfl, Nat.le_of_ble_eq_true rfl⟩ hK hE hP hD hS hA [true, true, true, true, true, true, true, true, true, true, true] rfl rfl rfl 0 rfl rfl rfl hl.1 rfl (Nat.le_of_ble_eq_true rfl) dX8_hasAlibi_2 ⟨Nat.le_of_ble_eq_true rfl, Nat.le_of_ble_eq_true rfl⟩ [] rfl (fun h0 H locs hP hD hS => ?_) (fun h0 H locs ce q9 hP hD hS hce hcv hcl => ?_)
  rotate_left
  · have hf := ie (Nat.pos_iff_ne_zero.mp h0) hf
    obtain rfl := Option.some.inj hf
    exact xm_out hout hlocks h0 hce hcv hcl hP hS (Nat.le_of_ble_eq_true rfl) (Nat.le_of_ble_eq_true rfl)
  have hf := it h0 hf
  refine lv_aload_n hx hb dX8_hasAlibi_5 rfl (lv_at hl 0 rfl) ?_
  refine lv_iload_n hx hb dX8_hasAlibi_6 rfl (lv_at hl 2 rfl) ?_
  refine lv_iload_n hx hb dX8_hasAlibi_7 rfl (lv_at hl 3 rfl) ?_
  obtain ⟨u2, hu2, hf⟩ := bn hf
  refine xm_V (As := [.int x2, .int x3]) (rest := []) (w2 := (W_X aX aB aBw aP aN aNd aH aQ vX ++ (W_N aN aG aU aR vN ++ (W_G E aG vG ++ (W_R E aR vR))))) hx hb hml hown hg (c_X8_requirePassed E l hst aX aB aBw aP aN aNd aH aQ aG aU aR vX vN x2 x3 u2 hu2) cy_X8_requirePassed ml_X8_228 ⟨⟨rfl, rfl⟩, Nat.le_of_ble_eq_true rfl, Nat.le_of_ble_eq_true rfl⟩ hK hE hP hD hS hA [true, true] rfl rfl rfl 0 rfl rfl rfl hl.1 rfl (Nat.le_of_ble_eq_true rfl) dX8_hasAlibi_8 ⟨Nat.le_of_ble_eq_true rfl, Nat.le_of_ble_eq_true rfl⟩ [] rfl (fun h0 H locs hP hD hS => ?_) (fun h0 H locs ce q9 hP hD hS hce hcv hcl => ?_)
  rotate_left
  · have hf := ie (Nat.pos_iff_ne_zero.mp h0) hf
    obtain rfl := Option.some.inj hf
    exact xm_out hout hlocks h0 hce hcv hcl hP hS (Nat.le_of_ble_eq_true rfl) (Nat.le_of_ble_eq_true rfl)
  have hf := it h0 hf
  refine lv_aload_n hx hb dX8_hasAlibi_11 rfl (lv_at hl 0 rfl) ?_
  refine gf_X8_31 hx hb hg hown hK hP 0 rfl rfl dX8_hasAlibi_12 ?_
  refine gf_X8_210 hx hb hg hown hK hP 1 rfl rfl dX8_hasAlibi_15 ?_
  refine lv_iload_n hx hb dX8_hasAlibi_18 rfl (lv_at hl 1 rfl) ?_
  refine lv_iload_n hx hb dX8_hasAlibi_19 rfl (lv_at hl 2 rfl) ?_
  refine lv_iload_n hx hb dX8_hasAlibi_20 rfl (lv_at hl 3 rfl) ?_
  obtain ⟨u3, hu3, hf⟩ := bn hf
  refine cm_V (As := [.int x1, .int x2, .int x3]) (rest := []) (w2 := (W_X aX aB aBw aP aN aNd aH aQ vX ++ (W_N aN aG aU aR vN ++ (W_G E aG vG ++ (W_R E aR vR))))) hx hb hml hown hg (c_X5_wasInAllThrough E l aR vR x1 x2 x3 u3 hu3) cy_X5_wasInAllThrough ml_X8_232 ⟨⟨rfl, rfl⟩, Nat.le_of_ble_eq_true rfl, Nat.le_of_ble_eq_true rfl⟩ hK hE hP hD hS hA [false, false, false, false, false, false, false, false, false, false, false, true, true, true, true] rfl rfl rfl 11 rfl rfl rfl hl.1 rfl (Nat.le_of_ble_eq_true rfl) dX8_hasAlibi_21 ⟨Nat.le_of_ble_eq_true rfl, Nat.le_of_ble_eq_true rfl⟩ [.int u3] rfl (fun H locs hP hD hS => ?_)
  obtain ⟨hz, hf⟩ := cn_o hf
  obtain rfl := Option.some.inj hf
  exact xm_yret (v := u3) rfl hx hb hr hlocks hP hS (nar01 hz) dX8_hasAlibi_24 (Nat.le_of_ble_eq_true rfl) (Nat.le_of_ble_eq_true rfl)
def F_X8_suspects (vX : Nat → Int32) (vN : Nat → Int32) (vG : Nat → Nat → Int32) (vR : Nat → Nat → Int32) (x1 : Int32) (x2 : Int32) : Option (Nat × Int32) := (F_X8_requirePassed vX vN x1 x2).bind (fun u1 => if u1 = 0 then ((F_X3_countSuspects vN vG vR x1 x2).bind (fun u2 => (some (0, u2)))) else some (u1, 0))
abbrev rm_X8_suspects : Room := { frames := 7, cells := 1, slots := 6, locals := 112 }
set_option maxHeartbeats 4000000 in
set_option maxRecDepth 100000 in
theorem c_X8_suspects (E : Ev) (l : Launch) (hst : l.stackTraces = false) (aX : Nat) (aB : Nat → Nat) (aBw : Nat → Nat) (aP : Nat) (aN : Nat) (aNd : Nat) (aH : Nat) (aQ : Nat) (aG : Nat → Nat) (aU : Nat → Nat) (aR : Nat → Nat) (vX : Nat → Int32) (vN : Nat → Int32) (vG : Nat → Nat → Int32) (vR : Nat → Nat → Int32) (x1 : Int32) (x2 : Int32) (r : Nat × Int32) (hf : F_X8_suspects vX vN vG vR x1 x2 = some r) : XM E l yX8_suspects (.code yX8_suspects cX8_suspects 3 (some .int) :: GA) rm_X8_suspects [.ref aX, .int x1, .int x2] (W_X aX aB aBw aP aN aNd aH aQ vX ++ (W_N aN aG aU aR vN ++ (W_G E aG vG ++ (W_R E aR vR)))) r.1 (some (.int r.2)) (W_X aX aB aBw aP aN aNd aH aQ vX ++ (W_N aN aG aU aR vN ++ (W_G E aG vG ++ (W_R E aR vR)))) 1 := by
  refine XM.of (own := RX8) rfl (by decide) (Nat.le_of_ble_eq_true rfl) ?_
  intro p e s m below meth c A ls hx hb hr hml hown hg hlocks hK hE hA hout hP hD hS hl
  have hl : lv_has ls 3 [(0, .ref aX), (1, .int x1), (2, .int x2)] := hl
  unfold F_X8_suspects at hf
  refine lv_aload_n hx hb dX8_suspects_0 rfl (lv_at hl 0 rfl) ?_
  refine lv_iload_n hx hb dX8_suspects_1 rfl (lv_at hl 1 rfl) ?_
  refine lv_iload_n hx hb dX8_suspects_2 rfl (lv_at hl 2 rfl) ?_
  obtain ⟨u1, hu1, hf⟩ := bn hf
  refine xm_V (As := [.int x1, .int x2]) (rest := []) (w2 := (W_X aX aB aBw aP aN aNd aH aQ vX ++ (W_N aN aG aU aR vN ++ (W_G E aG vG ++ (W_R E aR vR))))) hx hb hml hown hg (c_X8_requirePassed E l hst aX aB aBw aP aN aNd aH aQ aG aU aR vX vN x1 x2 u1 hu1) cy_X8_requirePassed ml_X8_228 ⟨⟨rfl, rfl⟩, Nat.le_of_ble_eq_true rfl, Nat.le_of_ble_eq_true rfl⟩ hK hE hP hD hS hA [true, true] rfl rfl rfl 0 rfl rfl rfl hl.1 rfl (Nat.le_of_ble_eq_true rfl) dX8_suspects_3 ⟨Nat.le_of_ble_eq_true rfl, Nat.le_of_ble_eq_true rfl⟩ [] rfl (fun h0 H locs hP hD hS => ?_) (fun h0 H locs ce q9 hP hD hS hce hcv hcl => ?_)
  rotate_left
  · have hf := ie (Nat.pos_iff_ne_zero.mp h0) hf
    obtain rfl := Option.some.inj hf
    exact xm_out hout hlocks h0 hce hcv hcl hP hS (Nat.le_of_ble_eq_true rfl) (Nat.le_of_ble_eq_true rfl)
  have hf := it h0 hf
  refine lv_aload_n hx hb dX8_suspects_6 rfl (lv_at hl 0 rfl) ?_
  refine gf_X8_31 hx hb hg hown hK hP 0 rfl rfl dX8_suspects_7 ?_
  refine lv_iload_n hx hb dX8_suspects_10 rfl (lv_at hl 1 rfl) ?_
  refine lv_iload_n hx hb dX8_suspects_11 rfl (lv_at hl 2 rfl) ?_
  obtain ⟨u2, hu2, hf⟩ := bn hf
  refine cm_V (As := [.int x1, .int x2]) (rest := []) (w2 := (W_X aX aB aBw aP aN aNd aH aQ vX ++ (W_N aN aG aU aR vN ++ (W_G E aG vG ++ (W_R E aR vR))))) hx hb hml hown hg (c_X3_countSuspects E l aN aG aU aR vN vG vR x1 x2 u2 hu2) cy_X3_countSuspects ml_X8_236 ⟨⟨rfl, rfl⟩, Nat.le_of_ble_eq_true rfl, Nat.le_of_ble_eq_true rfl⟩ hK hE hP hD hS hA [false, true, true, true, true, true, true, true, true, true, true, true, true, true, true] rfl rfl rfl 1 rfl rfl rfl hl.1 rfl (Nat.le_of_ble_eq_true rfl) dX8_suspects_12 ⟨Nat.le_of_ble_eq_true rfl, Nat.le_of_ble_eq_true rfl⟩ [.int u2] rfl (fun H locs hP hD hS => ?_)
  obtain rfl := Option.some.inj hf
  exact xm_yret (v := u2) rfl hx hb hr hlocks hP hS rfl dX8_suspects_15 (Nat.le_of_ble_eq_true rfl) (Nat.le_of_ble_eq_true rfl)
def F_X8_culprit (vX : Nat → Int32) (vN : Nat → Int32) (vG : Nat → Nat → Int32) (vR : Nat → Nat → Int32) (x1 : Int32) (x2 : Int32) : Option (Nat × Int32) := (F_X8_requirePassed vX vN x1 x2).bind (fun u1 => if u1 = 0 then ((F_X3_countSuspects vN vG vR x1 x2).bind (fun u2 => (if u2 = 1 then (F_X3_firstSuspect vN vG vR x1 x2).bind (fun u3 => (some (0, u3))) else (some (3, 0))))) else some (u1, 0))
abbrev rm_X8_culprit : Room := { frames := 7, cells := 2, slots := 12, locals := 112 }
set_option maxHeartbeats 4000000 in
set_option maxRecDepth 100000 in
theorem c_X8_culprit (E : Ev) (l : Launch) (hst : l.stackTraces = false) (aX : Nat) (aB : Nat → Nat) (aBw : Nat → Nat) (aP : Nat) (aN : Nat) (aNd : Nat) (aH : Nat) (aQ : Nat) (aG : Nat → Nat) (aU : Nat → Nat) (aR : Nat → Nat) (vX : Nat → Int32) (vN : Nat → Int32) (vG : Nat → Nat → Int32) (vR : Nat → Nat → Int32) (x1 : Int32) (x2 : Int32) (r : Nat × Int32) (hf : F_X8_culprit vX vN vG vR x1 x2 = some r) : XM E l yX8_culprit (.code yX8_culprit cX8_culprit 3 (some .int) :: GA) rm_X8_culprit [.ref aX, .int x1, .int x2] (W_X aX aB aBw aP aN aNd aH aQ vX ++ (W_N aN aG aU aR vN ++ (W_G E aG vG ++ (W_R E aR vR)))) r.1 (some (.int r.2)) (W_X aX aB aBw aP aN aNd aH aQ vX ++ (W_N aN aG aU aR vN ++ (W_G E aG vG ++ (W_R E aR vR)))) 2 := by
  refine XM.of (own := RX8) rfl (by decide) (Nat.le_of_ble_eq_true rfl) ?_
  intro p e s m below meth c A ls hx hb hr hml hown hg hlocks hK hE hA hout hP hD hS hl
  have hl : lv_has ls 3 [(0, .ref aX), (1, .int x1), (2, .int x2)] := hl
  unfold F_X8_culprit at hf
  refine lv_aload_n hx hb dX8_culprit_0 rfl (lv_at hl 0 rfl) ?_
  refine lv_iload_n hx hb dX8_culprit_1 rfl (lv_at hl 1 rfl) ?_
  refine lv_iload_n hx hb dX8_culprit_2 rfl (lv_at hl 2 rfl) ?_
  obtain ⟨u1, hu1, hf⟩ := bn hf
  refine xm_V (As := [.int x1, .int x2]) (rest := []) (w2 := (W_X aX aB aBw aP aN aNd aH aQ vX ++ (W_N aN aG aU aR vN ++ (W_G E aG vG ++ (W_R E aR vR))))) hx hb hml hown hg (c_X8_requirePassed E l hst aX aB aBw aP aN aNd aH aQ aG aU aR vX vN x1 x2 u1 hu1) cy_X8_requirePassed ml_X8_228 ⟨⟨rfl, rfl⟩, Nat.le_of_ble_eq_true rfl, Nat.le_of_ble_eq_true rfl⟩ hK hE hP hD hS hA [true, true] rfl rfl rfl 0 rfl rfl rfl hl.1 rfl (Nat.le_of_ble_eq_true rfl) dX8_culprit_3 ⟨Nat.le_of_ble_eq_true rfl, Nat.le_of_ble_eq_true rfl⟩ [] rfl (fun h0 H locs hP hD hS => ?_) (fun h0 H locs ce q9 hP hD hS hce hcv hcl => ?_)
  rotate_left
  · have hf := ie (Nat.pos_iff_ne_zero.mp h0) hf
    obtain rfl := Option.some.inj hf
    exact xm_out hout hlocks h0 hce hcv hcl hP hS (Nat.le_of_ble_eq_true rfl) (Nat.le_of_ble_eq_true rfl)
  have hf := it h0 hf
  refine lv_aload_n hx hb dX8_culprit_6 rfl (lv_at hl 0 rfl) ?_
  refine gf_X8_31 hx hb hg hown hK hP 0 rfl rfl dX8_culprit_7 ?_
  refine lv_iload_n hx hb dX8_culprit_10 rfl (lv_at hl 1 rfl) ?_
  refine lv_iload_n hx hb dX8_culprit_11 rfl (lv_at hl 2 rfl) ?_
  obtain ⟨u2, hu2, hf⟩ := bn hf
  refine cm_V (As := [.int x1, .int x2]) (rest := []) (w2 := (W_X aX aB aBw aP aN aNd aH aQ vX ++ (W_N aN aG aU aR vN ++ (W_G E aG vG ++ (W_R E aR vR))))) hx hb hml hown hg (c_X3_countSuspects E l aN aG aU aR vN vG vR x1 x2 u2 hu2) cy_X3_countSuspects ml_X8_236 ⟨⟨rfl, rfl⟩, Nat.le_of_ble_eq_true rfl, Nat.le_of_ble_eq_true rfl⟩ hK hE hP hD hS hA [false, true, true, true, true, true, true, true, true, true, true, true, true, true, true] rfl rfl rfl 1 rfl rfl rfl hl.1 rfl (Nat.le_of_ble_eq_true rfl) dX8_culprit_12 ⟨Nat.le_of_ble_eq_true rfl, Nat.le_of_ble_eq_true rfl⟩ [.int u2] rfl (fun H locs hP hD hS => ?_)
  refine lv_iconst (v := 1) hx hb dX8_culprit_15 (by decide) ?_
  refine lv_icmp_eq (tgt := 29) hx hb dX8_culprit_16 (by decide) (fun cq => ?_) (fun cq => ?_)
  · have hf := it cq hf
    refine lv_aload_n hx hb dX8_culprit_29 rfl (lv_at hl 0 rfl) ?_
    refine gf_X8_31 hx hb hg hown hK hP 0 rfl rfl dX8_culprit_30 ?_
    refine lv_iload_n hx hb dX8_culprit_33 rfl (lv_at hl 1 rfl) ?_
    refine lv_iload_n hx hb dX8_culprit_34 rfl (lv_at hl 2 rfl) ?_
    obtain ⟨u3, hu3, hf⟩ := bn hf
    refine cm_V (As := [.int x1, .int x2]) (rest := []) (w2 := (W_X aX aB aBw aP aN aNd aH aQ vX ++ (W_N aN aG aU aR vN ++ (W_G E aG vG ++ (W_R E aR vR))))) hx hb hml hown hg (c_X3_firstSuspect E l aN aG aU aR vN vG vR x1 x2 u3 hu3) cy_X3_firstSuspect ml_X8_241 ⟨⟨rfl, rfl⟩, Nat.le_of_ble_eq_true rfl, Nat.le_of_ble_eq_true rfl⟩ hK hE hP hD hS hA [false, true, true, true, true, true, true, true, true, true, true, true, true, true, true] rfl rfl rfl 1 rfl rfl rfl hl.1 rfl (Nat.le_of_ble_eq_true rfl) dX8_culprit_35 ⟨Nat.le_of_ble_eq_true rfl, Nat.le_of_ble_eq_true rfl⟩ [.int u3] rfl (fun H locs hP hD hS => ?_)
    obtain rfl := Option.some.inj hf
    exact xm_yret (v := u3) rfl hx hb hr hlocks hP hS rfl dX8_culprit_38 (Nat.le_of_ble_eq_true rfl) (Nat.le_of_ble_eq_true rfl)
  · have hf := ie cq hf
    obtain rfl := Option.some.inj hf
    exact xm_throw3 (is := 239) (i := 41) (text := "not just one guest has no alibi") rfl hx hb hml hl.1 hst hown hg hE (List.mem_of_getElem? (i := 41) rfl) hout hlocks hP hS dX8_culprit_19 dX8_culprit_22 dX8_culprit_23 dX8_culprit_25 dX8_culprit_28 (Nat.le_of_ble_eq_true rfl) (Nat.le_of_ble_eq_true rfl) (Nat.le_of_ble_eq_true rfl) (Nat.le_of_ble_eq_true rfl) (Nat.le_of_ble_eq_true rfl) (Nat.le_of_ble_eq_true rfl)
def F_X8_minutesOut (vX : Nat → Int32) (vN : Nat → Int32) (vG : Nat → Nat → Int32) (vR : Nat → Nat → Int32) (x1 : Int32) : Option (Nat × Int32) := (F_X8_requireGuest vX vN vG x1).bind (fun u1 => if u1 = 0 then ((F_X3_sumOfMinutesAway vN vR x1 x1).bind (fun u2 => (some (0, u2)))) else some (u1, 0))
abbrev rm_X8_minutesOut : Room := { frames := 7, cells := 1, slots := 6, locals := 111 }
set_option maxHeartbeats 4000000 in
set_option maxRecDepth 100000 in
theorem c_X8_minutesOut (E : Ev) (l : Launch) (hst : l.stackTraces = false) (aX : Nat) (aB : Nat → Nat) (aBw : Nat → Nat) (aP : Nat) (aN : Nat) (aNd : Nat) (aH : Nat) (aQ : Nat) (aG : Nat → Nat) (aU : Nat → Nat) (aR : Nat → Nat) (vX : Nat → Int32) (vN : Nat → Int32) (vG : Nat → Nat → Int32) (vR : Nat → Nat → Int32) (x1 : Int32) (r : Nat × Int32) (hf : F_X8_minutesOut vX vN vG vR x1 = some r) : XM E l yX8_minutesOut (.code yX8_minutesOut cX8_minutesOut 2 (some .int) :: GA) rm_X8_minutesOut [.ref aX, .int x1] (W_X aX aB aBw aP aN aNd aH aQ vX ++ (W_N aN aG aU aR vN ++ (W_G E aG vG ++ (W_R E aR vR)))) r.1 (some (.int r.2)) (W_X aX aB aBw aP aN aNd aH aQ vX ++ (W_N aN aG aU aR vN ++ (W_G E aG vG ++ (W_R E aR vR)))) 1 := by
  refine XM.of (own := RX8) rfl (by decide) (Nat.le_of_ble_eq_true rfl) ?_
  intro p e s m below meth c A ls hx hb hr hml hown hg hlocks hK hE hA hout hP hD hS hl
  have hl : lv_has ls 2 [(0, .ref aX), (1, .int x1)] := hl
  unfold F_X8_minutesOut at hf
  refine lv_aload_n hx hb dX8_minutesOut_0 rfl (lv_at hl 0 rfl) ?_
  refine lv_iload_n hx hb dX8_minutesOut_1 rfl (lv_at hl 1 rfl) ?_
  obtain ⟨u1, hu1, hf⟩ := bn hf
  refine xm_V (As := [.int x1]) (rest := []) (w2 := (W_X aX aB aBw aP aN aNd aH aQ vX ++ (W_N aN aG aU aR vN ++ (W_G E aG vG ++ (W_R E aR vR))))) hx hb hml hown hg (c_X8_requireGuest E l hst aX aB aBw aP aN aNd aH aQ aG aU aR vX vN vG x1 u1 hu1) cy_X8_requireGuest ml_X8_124 ⟨⟨rfl, rfl⟩, Nat.le_of_ble_eq_true rfl, Nat.le_of_ble_eq_true rfl⟩ hK hE hP hD hS hA [true, true, true, true, true, true, true, true, true, true, true] rfl rfl rfl 0 rfl rfl rfl hl.1 rfl (Nat.le_of_ble_eq_true rfl) dX8_minutesOut_2 ⟨Nat.le_of_ble_eq_true rfl, Nat.le_of_ble_eq_true rfl⟩ [] rfl (fun h0 H locs hP hD hS => ?_) (fun h0 H locs ce q9 hP hD hS hce hcv hcl => ?_)
  rotate_left
  · have hf := ie (Nat.pos_iff_ne_zero.mp h0) hf
    obtain rfl := Option.some.inj hf
    exact xm_out hout hlocks h0 hce hcv hcl hP hS (Nat.le_of_ble_eq_true rfl) (Nat.le_of_ble_eq_true rfl)
  have hf := it h0 hf
  refine lv_aload_n hx hb dX8_minutesOut_5 rfl (lv_at hl 0 rfl) ?_
  refine gf_X8_31 hx hb hg hown hK hP 0 rfl rfl dX8_minutesOut_6 ?_
  refine lv_iload_n hx hb dX8_minutesOut_9 rfl (lv_at hl 1 rfl) ?_
  refine lv_iload_n hx hb dX8_minutesOut_10 rfl (lv_at hl 1 rfl) ?_
  obtain ⟨u2, hu2, hf⟩ := bn hf
  refine cm_V (As := [.int x1, .int x1]) (rest := []) (w2 := (W_X aX aB aBw aP aN aNd aH aQ vX ++ (W_N aN aG aU aR vN ++ (W_G E aG vG ++ (W_R E aR vR))))) hx hb hml hown hg (c_X3_sumOfMinutesAway E l aN aG aU aR vN vR x1 x1 u2 hu2) cy_X3_sumOfMinutesAway ml_X8_244 ⟨⟨rfl, rfl⟩, Nat.le_of_ble_eq_true rfl, Nat.le_of_ble_eq_true rfl⟩ hK hE hP hD hS hA [false, true, false, false, false, false, false, false, false, false, false, true, true, true, true] rfl rfl rfl 1 rfl rfl rfl hl.1 rfl (Nat.le_of_ble_eq_true rfl) dX8_minutesOut_11 ⟨Nat.le_of_ble_eq_true rfl, Nat.le_of_ble_eq_true rfl⟩ [.int u2] rfl (fun H locs hP hD hS => ?_)
  obtain rfl := Option.some.inj hf
  exact xm_yret (v := u2) rfl hx hb hr hlocks hP hS rfl dX8_minutesOut_14 (Nat.le_of_ble_eq_true rfl) (Nat.le_of_ble_eq_true rfl)
def F_X8_minutesTogether (vX : Nat → Int32) (vN : Nat → Int32) (vG : Nat → Nat → Int32) (vR : Nat → Nat → Int32) (x1 : Int32) (x2 : Int32) : Option (Nat × Int32) := (F_X8_requireGuest vX vN vG x1).bind (fun u1 => if u1 = 0 then ((F_X8_requireGuest vX vN vG x2).bind (fun u2 => if u2 = 0 then ((F_X3_sumOfMinutesAway vN vR x1 x2).bind (fun u3 => (some (0, u3)))) else some (u2, 0))) else some (u1, 0))
abbrev rm_X8_minutesTogether : Room := { frames := 7, cells := 2, slots := 12, locals := 111 }
set_option maxHeartbeats 4000000 in
set_option maxRecDepth 100000 in
theorem c_X8_minutesTogether (E : Ev) (l : Launch) (hst : l.stackTraces = false) (aX : Nat) (aB : Nat → Nat) (aBw : Nat → Nat) (aP : Nat) (aN : Nat) (aNd : Nat) (aH : Nat) (aQ : Nat) (aG : Nat → Nat) (aU : Nat → Nat) (aR : Nat → Nat) (vX : Nat → Int32) (vN : Nat → Int32) (vG : Nat → Nat → Int32) (vR : Nat → Nat → Int32) (x1 : Int32) (x2 : Int32) (r : Nat × Int32) (hf : F_X8_minutesTogether vX vN vG vR x1 x2 = some r) : XM E l yX8_minutesTogether (.code yX8_minutesTogether cX8_minutesTogether 3 (some .int) :: GA) rm_X8_minutesTogether [.ref aX, .int x1, .int x2] (W_X aX aB aBw aP aN aNd aH aQ vX ++ (W_N aN aG aU aR vN ++ (W_G E aG vG ++ (W_R E aR vR)))) r.1 (some (.int r.2)) (W_X aX aB aBw aP aN aNd aH aQ vX ++ (W_N aN aG aU aR vN ++ (W_G E aG vG ++ (W_R E aR vR)))) 2 := by
  refine XM.of (own := RX8) rfl (by decide) (Nat.le_of_ble_eq_true rfl) ?_
  intro p e s m below meth c A ls hx hb hr hml hown hg hlocks hK hE hA hout hP hD hS hl
  have hl : lv_has ls 3 [(0, .ref aX), (1, .int x1), (2, .int x2)] := hl
  unfold F_X8_minutesTogether at hf
  refine lv_aload_n hx hb dX8_minutesTogether_0 rfl (lv_at hl 0 rfl) ?_
  refine lv_iload_n hx hb dX8_minutesTogether_1 rfl (lv_at hl 1 rfl) ?_
  obtain ⟨u1, hu1, hf⟩ := bn hf
  refine xm_V (As := [.int x1]) (rest := []) (w2 := (W_X aX aB aBw aP aN aNd aH aQ vX ++ (W_N aN aG aU aR vN ++ (W_G E aG vG ++ (W_R E aR vR))))) hx hb hml hown hg (c_X8_requireGuest E l hst aX aB aBw aP aN aNd aH aQ aG aU aR vX vN vG x1 u1 hu1) cy_X8_requireGuest ml_X8_124 ⟨⟨rfl, rfl⟩, Nat.le_of_ble_eq_true rfl, Nat.le_of_ble_eq_true rfl⟩ hK hE hP hD hS hA [true, true, true, true, true, true, true, true, true, true, true] rfl rfl rfl 0 rfl rfl rfl hl.1 rfl (Nat.le_of_ble_eq_true rfl) dX8_minutesTogether_2 ⟨Nat.le_of_ble_eq_true rfl, Nat.le_of_ble_eq_true rfl⟩ [] rfl (fun h0 H locs hP hD hS => ?_) (fun h0 H locs ce q9 hP hD hS hce hcv hcl => ?_)
  rotate_left
  · have hf := ie (Nat.pos_iff_ne_zero.mp h0) hf
    obtain rfl := Option.some.inj hf
    exact xm_out hout hlocks h0 hce hcv hcl hP hS (Nat.le_of_ble_eq_true rfl) (Nat.le_of_ble_eq_true rfl)
  have hf := it h0 hf
  refine lv_aload_n hx hb dX8_minutesTogether_5 rfl (lv_at hl 0 rfl) ?_
  refine lv_iload_n hx hb dX8_minutesTogether_6 rfl (lv_at hl 2 rfl) ?_
  obtain ⟨u2, hu2, hf⟩ := bn hf
  refine xm_V (As := [.int x2]) (rest := []) (w2 := (W_X aX aB aBw aP aN aNd aH aQ vX ++ (W_N aN aG aU aR vN ++ (W_G E aG vG ++ (W_R E aR vR))))) hx hb hml hown hg (c_X8_requireGuest E l hst aX aB aBw aP aN aNd aH aQ aG aU aR vX vN vG x2 u2 hu2) cy_X8_requireGuest ml_X8_124 ⟨⟨rfl, rfl⟩, Nat.le_of_ble_eq_true rfl, Nat.le_of_ble_eq_true rfl⟩ hK hE hP hD hS hA [true, true, true, true, true, true, true, true, true, true, true] rfl rfl rfl 0 rfl rfl rfl hl.1 rfl (Nat.le_of_ble_eq_true rfl) dX8_minutesTogether_7 ⟨Nat.le_of_ble_eq_true rfl, Nat.le_of_ble_eq_true rfl⟩ [] rfl (fun h0 H locs hP hD hS => ?_) (fun h0 H locs ce q9 hP hD hS hce hcv hcl => ?_)
  rotate_left
  · have hf := ie (Nat.pos_iff_ne_zero.mp h0) hf
    obtain rfl := Option.some.inj hf
    exact xm_out hout hlocks h0 hce hcv hcl hP hS (Nat.le_of_ble_eq_true rfl) (Nat.le_of_ble_eq_true rfl)
  have hf := it h0 hf
  refine lv_aload_n hx hb dX8_minutesTogether_10 rfl (lv_at hl 0 rfl) ?_
  refine gf_X8_31 hx hb hg hown hK hP 0 rfl rfl dX8_minutesTogether_11 ?_
  refine lv_iload_n hx hb dX8_minutesTogether_14 rfl (lv_at hl 1 rfl) ?_
  refine lv_iload_n hx hb dX8_minutesTogether_15 rfl (lv_at hl 2 rfl) ?_
  obtain ⟨u3, hu3, hf⟩ := bn hf
  refine cm_V (As := [.int x1, .int x2]) (rest := []) (w2 := (W_X aX aB aBw aP aN aNd aH aQ vX ++ (W_N aN aG aU aR vN ++ (W_G E aG vG ++ (W_R E aR vR))))) hx hb hml hown hg (c_X3_sumOfMinutesAway E l aN aG aU aR vN vR x1 x2 u3 hu3) cy_X3_sumOfMinutesAway ml_X8_244 ⟨⟨rfl, rfl⟩, Nat.le_of_ble_eq_true rfl, Nat.le_of_ble_eq_true rfl⟩ hK hE hP hD hS hA [false, true, false, false, false, false, false, false, false, false, false, true, true, true, true] rfl rfl rfl 1 rfl rfl rfl hl.1 rfl (Nat.le_of_ble_eq_true rfl) dX8_minutesTogether_16 ⟨Nat.le_of_ble_eq_true rfl, Nat.le_of_ble_eq_true rfl⟩ [.int u3] rfl (fun H locs hP hD hS => ?_)
  obtain rfl := Option.some.inj hf
  exact xm_yret (v := u3) rfl hx hb hr hlocks hP hS rfl dX8_minutesTogether_19 (Nat.le_of_ble_eq_true rfl) (Nat.le_of_ble_eq_true rfl)
def F_X8_umbrellaFor (vX : Nat → Int32) (vN : Nat → Int32) (vG : Nat → Nat → Int32) (vU : Nat → Nat → Int32) (x1 : Int32) : Option (Nat × Int32) := (F_X8_requireGuest vX vN vG x1).bind (fun u1 => if u1 = 0 then ((F_X1_isAway vG x1).bind (fun u2 => (if u2 = 0 then (F_X3_umbrellaToTake vN vU x1).bind (fun u3 => (if u3 = (-1) then (some (3, 0)) else (some (0, u3)))) else (some (1, 0))))) else some (u1, 0))
abbrev rm_X8_umbrellaFor : Room := { frames := 7, cells := 2, slots := 12, locals := 111 }
set_option maxHeartbeats 4000000 in
set_option maxRecDepth 100000 in
theorem c_X8_umbrellaFor (E : Ev) (l : Launch) (hst : l.stackTraces = false) (aX : Nat) (aB : Nat → Nat) (aBw : Nat → Nat) (aP : Nat) (aN : Nat) (aNd : Nat) (aH : Nat) (aQ : Nat) (aG : Nat → Nat) (aU : Nat → Nat) (aR : Nat → Nat) (vX : Nat → Int32) (vN : Nat → Int32) (vG : Nat → Nat → Int32) (vU : Nat → Nat → Int32) (x1 : Int32) (r : Nat × Int32) (hf : F_X8_umbrellaFor vX vN vG vU x1 = some r) : XM E l yX8_umbrellaFor (.code yX8_umbrellaFor cX8_umbrellaFor 3 (some .int) :: GA) rm_X8_umbrellaFor [.ref aX, .int x1] (W_X aX aB aBw aP aN aNd aH aQ vX ++ (W_N aN aG aU aR vN ++ (W_G E aG vG ++ (W_U E aU vU)))) r.1 (some (.int r.2)) (W_X aX aB aBw aP aN aNd aH aQ vX ++ (W_N aN aG aU aR vN ++ (W_G E aG vG ++ (W_U E aU vU)))) 2 := by
  refine XM.of (own := RX8) rfl (by decide) (Nat.le_of_ble_eq_true rfl) ?_
  intro p e s m below meth c A ls hx hb hr hml hown hg hlocks hK hE hA hout hP hD hS hl
  have hl : lv_has ls 3 [(0, .ref aX), (1, .int x1)] := hl
  unfold F_X8_umbrellaFor at hf
  refine lv_aload_n hx hb dX8_umbrellaFor_0 rfl (lv_at hl 0 rfl) ?_
  refine lv_iload_n hx hb dX8_umbrellaFor_1 rfl (lv_at hl 1 rfl) ?_
  obtain ⟨u1, hu1, hf⟩ := bn hf
  refine xm_V (As := [.int x1]) (rest := []) (w2 := (W_X aX aB aBw aP aN aNd aH aQ vX ++ (W_N aN aG aU aR vN ++ (W_G E aG vG ++ (W_U E aU vU))))) hx hb hml hown hg (c_X8_requireGuest E l hst aX aB aBw aP aN aNd aH aQ aG aU aR vX vN vG x1 u1 hu1) cy_X8_requireGuest ml_X8_124 ⟨⟨rfl, rfl⟩, Nat.le_of_ble_eq_true rfl, Nat.le_of_ble_eq_true rfl⟩ hK hE hP hD hS hA [true, true, true, true, true, true, true, true, true, true, true] rfl rfl rfl 0 rfl rfl rfl hl.1 rfl (Nat.le_of_ble_eq_true rfl) dX8_umbrellaFor_2 ⟨Nat.le_of_ble_eq_true rfl, Nat.le_of_ble_eq_true rfl⟩ [] rfl (fun h0 H locs hP hD hS => ?_) (fun h0 H locs ce q9 hP hD hS hce hcv hcl => ?_)
  rotate_left
  · have hf := ie (Nat.pos_iff_ne_zero.mp h0) hf
    obtain rfl := Option.some.inj hf
    exact xm_out hout hlocks h0 hce hcv hcl hP hS (Nat.le_of_ble_eq_true rfl) (Nat.le_of_ble_eq_true rfl)
  have hf := it h0 hf
  refine lv_aload_n hx hb dX8_umbrellaFor_5 rfl (lv_at hl 0 rfl) ?_
  refine gf_X8_31 hx hb hg hown hK hP 0 rfl rfl dX8_umbrellaFor_6 ?_
  refine gf_X8_85 hx hb hg hown hK hP 1 rfl rfl dX8_umbrellaFor_9 ?_
  refine lv_iload_n hx hb dX8_umbrellaFor_12 rfl (lv_at hl 1 rfl) ?_
  obtain ⟨u2, hu2, hf⟩ := bn hf
  refine cm_V (As := [.int x1]) (rest := []) (w2 := (W_X aX aB aBw aP aN aNd aH aQ vX ++ (W_N aN aG aU aR vN ++ (W_G E aG vG ++ (W_U E aU vU))))) hx hb hml hown hg (c_X1_isAway E l aG vG x1 u2 hu2) cy_X1_isAway ml_X8_152 ⟨⟨rfl, rfl⟩, Nat.le_of_ble_eq_true rfl, Nat.le_of_ble_eq_true rfl⟩ hK hE hP hD hS hA [false, false, true, true, true, true, true, true, true, true, true] rfl rfl rfl 2 rfl rfl rfl hl.1 rfl (Nat.le_of_ble_eq_true rfl) dX8_umbrellaFor_13 ⟨Nat.le_of_ble_eq_true rfl, Nat.le_of_ble_eq_true rfl⟩ [.int u2] rfl (fun H locs hP hD hS => ?_)
  refine lv_if_eq (tgt := 29) hx hb dX8_umbrellaFor_16 (by decide) (fun cq => ?_) (fun cq => ?_)
  · have hf := it cq hf
    refine lv_aload_n hx hb dX8_umbrellaFor_29 rfl (lv_at hl 0 rfl) ?_
    refine gf_X8_31 hx hb hg hown hK hP 0 rfl rfl dX8_umbrellaFor_30 ?_
    refine lv_iload_n hx hb dX8_umbrellaFor_33 rfl (lv_at hl 1 rfl) ?_
    obtain ⟨u3, hu3, hf⟩ := bn hf
    refine cm_V (As := [.int x1]) (rest := []) (w2 := (W_X aX aB aBw aP aN aNd aH aQ vX ++ (W_N aN aG aU aR vN ++ (W_G E aG vG ++ (W_U E aU vU))))) hx hb hml hown hg (c_X3_umbrellaToTake E l aN aG aU aR vN vU x1 u3 hu3) cy_X3_umbrellaToTake ml_X8_249 ⟨⟨rfl, rfl⟩, Nat.le_of_ble_eq_true rfl, Nat.le_of_ble_eq_true rfl⟩ hK hE hP hD hS hA [false, true, false, false, false, false, false, false, false, false, false, true, true, true, true] rfl rfl rfl 1 rfl rfl rfl hl.1 rfl (Nat.le_of_ble_eq_true rfl) dX8_umbrellaFor_34 ⟨Nat.le_of_ble_eq_true rfl, Nat.le_of_ble_eq_true rfl⟩ [.int u3] rfl (fun H locs hP hD hS => ?_)
    refine lv_istore_n (lv' := [(2, .int u3), (0, .ref aX), (1, .int x1)]) hx hb dX8_umbrellaFor_37 rfl hl (by decide) rfl (fun ls hl => ?_)
    refine lv_iload_n hx hb dX8_umbrellaFor_38 rfl (lv_at hl 0 rfl) ?_
    refine lv_iconst (v := (-1)) hx hb dX8_umbrellaFor_39 (by decide) ?_
    refine lv_icmp_ne (tgt := 53) hx hb dX8_umbrellaFor_40 (by decide) (fun cq => ?_) (fun cq => ?_)
    · have hf := ie cq hf
      refine lv_iload_n hx hb dX8_umbrellaFor_53 rfl (lv_at hl 0 rfl) ?_
      obtain rfl := Option.some.inj hf
      exact xm_yret (v := u3) rfl hx hb hr hlocks hP hS rfl dX8_umbrellaFor_54 (Nat.le_of_ble_eq_true rfl) (Nat.le_of_ble_eq_true rfl)
    · have hf := it cq hf
      obtain rfl := Option.some.inj hf
      exact xm_throw3 (is := 252) (i := 42) (text := "the guest would take no umbrella") rfl hx hb hml hl.1 hst hown hg hE (List.mem_of_getElem? (i := 42) rfl) hout hlocks hP hS dX8_umbrellaFor_43 dX8_umbrellaFor_46 dX8_umbrellaFor_47 dX8_umbrellaFor_49 dX8_umbrellaFor_52 (Nat.le_of_ble_eq_true rfl) (Nat.le_of_ble_eq_true rfl) (Nat.le_of_ble_eq_true rfl) (Nat.le_of_ble_eq_true rfl) (Nat.le_of_ble_eq_true rfl) (Nat.le_of_ble_eq_true rfl)
  · have hf := ie cq hf
    obtain rfl := Option.some.inj hf
    exact xm_throw1 (is := 247) (i := 22) (text := "the guest is out") rfl hx hb hml hl.1 hst hown hg hE (List.mem_of_getElem? (i := 22) rfl) hout hlocks hP hS dX8_umbrellaFor_19 dX8_umbrellaFor_22 dX8_umbrellaFor_23 dX8_umbrellaFor_25 dX8_umbrellaFor_28 (Nat.le_of_ble_eq_true rfl) (Nat.le_of_ble_eq_true rfl) (Nat.le_of_ble_eq_true rfl) (Nat.le_of_ble_eq_true rfl) (Nat.le_of_ble_eq_true rfl) (Nat.le_of_ble_eq_true rfl)
def F_X8_tipOf (vX : Nat → Int32) (vN : Nat → Int32) (vG : Nat → Nat → Int32) (vR : Nat → Nat → Int32) (x1 : Int32) : Option (Nat × Int32) := (F_X8_requireGuest vX vN vG x1).bind (fun u1 => if u1 = 0 then ((F_X1_isAway vG x1).bind (fun u2 => (if u2 = 0 then (some (1, 0)) else (F_X3_tipToGive vN vG vR x1).bind (fun u3 => (some (0, u3)))))) else some (u1, 0))
abbrev rm_X8_tipOf : Room := { frames := 7, cells := 2, slots := 12, locals := 111 }
set_option maxHeartbeats 4000000 in
set_option maxRecDepth 100000 in
theorem c_X8_tipOf (E : Ev) (l : Launch) (hst : l.stackTraces = false) (aX : Nat) (aB : Nat → Nat) (aBw : Nat → Nat) (aP : Nat) (aN : Nat) (aNd : Nat) (aH : Nat) (aQ : Nat) (aG : Nat → Nat) (aU : Nat → Nat) (aR : Nat → Nat) (vX : Nat → Int32) (vN : Nat → Int32) (vG : Nat → Nat → Int32) (vR : Nat → Nat → Int32) (x1 : Int32) (r : Nat × Int32) (hf : F_X8_tipOf vX vN vG vR x1 = some r) : XM E l yX8_tipOf (.code yX8_tipOf cX8_tipOf 2 (some .int) :: GA) rm_X8_tipOf [.ref aX, .int x1] (W_X aX aB aBw aP aN aNd aH aQ vX ++ (W_N aN aG aU aR vN ++ (W_G E aG vG ++ (W_R E aR vR)))) r.1 (some (.int r.2)) (W_X aX aB aBw aP aN aNd aH aQ vX ++ (W_N aN aG aU aR vN ++ (W_G E aG vG ++ (W_R E aR vR)))) 2 := by
  refine XM.of (own := RX8) rfl (by decide) (Nat.le_of_ble_eq_true rfl) ?_
  intro p e s m below meth c A ls hx hb hr hml hown hg hlocks hK hE hA hout hP hD hS hl
  have hl : lv_has ls 2 [(0, .ref aX), (1, .int x1)] := hl
  unfold F_X8_tipOf at hf
  refine lv_aload_n hx hb dX8_tipOf_0 rfl (lv_at hl 0 rfl) ?_
  refine lv_iload_n hx hb dX8_tipOf_1 rfl (lv_at hl 1 rfl) ?_
  obtain ⟨u1, hu1, hf⟩ := bn hf
  refine xm_V (As := [.int x1]) (rest := []) (w2 := (W_X aX aB aBw aP aN aNd aH aQ vX ++ (W_N aN aG aU aR vN ++ (W_G E aG vG ++ (W_R E aR vR))))) hx hb hml hown hg (c_X8_requireGuest E l hst aX aB aBw aP aN aNd aH aQ aG aU aR vX vN vG x1 u1 hu1) cy_X8_requireGuest ml_X8_124 ⟨⟨rfl, rfl⟩, Nat.le_of_ble_eq_true rfl, Nat.le_of_ble_eq_true rfl⟩ hK hE hP hD hS hA [true, true, true, true, true, true, true, true, true, true, true] rfl rfl rfl 0 rfl rfl rfl hl.1 rfl (Nat.le_of_ble_eq_true rfl) dX8_tipOf_2 ⟨Nat.le_of_ble_eq_true rfl, Nat.le_of_ble_eq_true rfl⟩ [] rfl (fun h0 H locs hP hD hS => ?_) (fun h0 H locs ce q9 hP hD hS hce hcv hcl => ?_)
  rotate_left
  · have hf := ie (Nat.pos_iff_ne_zero.mp h0) hf
    obtain rfl := Option.some.inj hf
    exact xm_out hout hlocks h0 hce hcv hcl hP hS (Nat.le_of_ble_eq_true rfl) (Nat.le_of_ble_eq_true rfl)
  have hf := it h0 hf
  refine lv_aload_n hx hb dX8_tipOf_5 rfl (lv_at hl 0 rfl) ?_
  refine gf_X8_31 hx hb hg hown hK hP 0 rfl rfl dX8_tipOf_6 ?_
  refine gf_X8_85 hx hb hg hown hK hP 1 rfl rfl dX8_tipOf_9 ?_
  refine lv_iload_n hx hb dX8_tipOf_12 rfl (lv_at hl 1 rfl) ?_
  obtain ⟨u2, hu2, hf⟩ := bn hf
  refine cm_V (As := [.int x1]) (rest := []) (w2 := (W_X aX aB aBw aP aN aNd aH aQ vX ++ (W_N aN aG aU aR vN ++ (W_G E aG vG ++ (W_R E aR vR))))) hx hb hml hown hg (c_X1_isAway E l aG vG x1 u2 hu2) cy_X1_isAway ml_X8_152 ⟨⟨rfl, rfl⟩, Nat.le_of_ble_eq_true rfl, Nat.le_of_ble_eq_true rfl⟩ hK hE hP hD hS hA [false, false, true, true, true, true, true, true, true, true, true] rfl rfl rfl 2 rfl rfl rfl hl.1 rfl (Nat.le_of_ble_eq_true rfl) dX8_tipOf_13 ⟨Nat.le_of_ble_eq_true rfl, Nat.le_of_ble_eq_true rfl⟩ [.int u2] rfl (fun H locs hP hD hS => ?_)
  refine lv_if_ne (tgt := 29) hx hb dX8_tipOf_16 (by decide) (fun cq => ?_) (fun cq => ?_)
  · have hf := ie cq hf
    refine lv_aload_n hx hb dX8_tipOf_29 rfl (lv_at hl 0 rfl) ?_
    refine gf_X8_31 hx hb hg hown hK hP 0 rfl rfl dX8_tipOf_30 ?_
    refine lv_iload_n hx hb dX8_tipOf_33 rfl (lv_at hl 1 rfl) ?_
    obtain ⟨u3, hu3, hf⟩ := bn hf
    refine cm_V (As := [.int x1]) (rest := []) (w2 := (W_X aX aB aBw aP aN aNd aH aQ vX ++ (W_N aN aG aU aR vN ++ (W_G E aG vG ++ (W_R E aR vR))))) hx hb hml hown hg (c_X3_tipToGive E l aN aG aU aR vN vG vR x1 u3 hu3) cy_X3_tipToGive ml_X8_254 ⟨⟨rfl, rfl⟩, Nat.le_of_ble_eq_true rfl, Nat.le_of_ble_eq_true rfl⟩ hK hE hP hD hS hA [false, true, true, true, true, true, true, true, true, true, true, true, true, true, true] rfl rfl rfl 1 rfl rfl rfl hl.1 rfl (Nat.le_of_ble_eq_true rfl) dX8_tipOf_34 ⟨Nat.le_of_ble_eq_true rfl, Nat.le_of_ble_eq_true rfl⟩ [.int u3] rfl (fun H locs hP hD hS => ?_)
    obtain rfl := Option.some.inj hf
    exact xm_yret (v := u3) rfl hx hb hr hlocks hP hS rfl dX8_tipOf_37 (Nat.le_of_ble_eq_true rfl) (Nat.le_of_ble_eq_true rfl)
  · have hf := it cq hf
    obtain rfl := Option.some.inj hf
    exact xm_throw1 (is := 156) (i := 24) (text := "the guest is in") rfl hx hb hml hl.1 hst hown hg hE (List.mem_of_getElem? (i := 24) rfl) hout hlocks hP hS dX8_tipOf_19 dX8_tipOf_22 dX8_tipOf_23 dX8_tipOf_25 dX8_tipOf_28 (Nat.le_of_ble_eq_true rfl) (Nat.le_of_ble_eq_true rfl) (Nat.le_of_ble_eq_true rfl) (Nat.le_of_ble_eq_true rfl) (Nat.le_of_ble_eq_true rfl) (Nat.le_of_ble_eq_true rfl)
def F_X8_complaintsAfter (vX : Nat → Int32) (vN : Nat → Int32) (vG : Nat → Nat → Int32) (x1 : Int32) : Option (Nat × Int32) := (F_X8_requireRange x1 0 240).bind (fun u1 => if u1 = 0 then ((F_X3_foreseeComplaints vN vG x1).bind (fun u2 => (some (0, u2)))) else some (u1, 0))
abbrev rm_X8_complaintsAfter : Room := { frames := 7, cells := 1, slots := 6, locals := 113 }
set_option maxHeartbeats 4000000 in
set_option maxRecDepth 100000 in
theorem c_X8_complaintsAfter (E : Ev) (l : Launch) (hst : l.stackTraces = false) (aX : Nat) (aB : Nat → Nat) (aBw : Nat → Nat) (aP : Nat) (aN : Nat) (aNd : Nat) (aH : Nat) (aQ : Nat) (aG : Nat → Nat) (aU : Nat → Nat) (aR : Nat → Nat) (vX : Nat → Int32) (vN : Nat → Int32) (vG : Nat → Nat → Int32) (x1 : Int32) (r : Nat × Int32) (hf : F_X8_complaintsAfter vX vN vG x1 = some r) : XM E l yX8_complaintsAfter (.code yX8_complaintsAfter cX8_complaintsAfter 2 (some .int) :: GA) rm_X8_complaintsAfter [.ref aX, .int x1] (W_X aX aB aBw aP aN aNd aH aQ vX ++ (W_N aN aG aU aR vN ++ (W_G E aG vG))) r.1 (some (.int r.2)) (W_X aX aB aBw aP aN aNd aH aQ vX ++ (W_N aN aG aU aR vN ++ (W_G E aG vG))) 1 := by
  refine XM.of (own := RX8) rfl (by decide) (Nat.le_of_ble_eq_true rfl) ?_
  intro p e s m below meth c A ls hx hb hr hml hown hg hlocks hK hE hA hout hP hD hS hl
  have hl : lv_has ls 2 [(0, .ref aX), (1, .int x1)] := hl
  unfold F_X8_complaintsAfter at hf
  refine lv_aload_n hx hb dX8_complaintsAfter_0 rfl (lv_at hl 0 rfl) ?_
  refine lv_iload_n hx hb dX8_complaintsAfter_1 rfl (lv_at hl 1 rfl) ?_
  refine lv_iconst (v := 0) hx hb dX8_complaintsAfter_2 (by decide) ?_
  refine lv_sipush (v := 240) hx hb dX8_complaintsAfter_3 (by decide) ?_
  obtain ⟨u1, hu1, hf⟩ := bn hf
  refine xm_V (As := [.int x1, .int 0, .int 240]) (rest := []) (w2 := (W_X aX aB aBw aP aN aNd aH aQ vX ++ (W_N aN aG aU aR vN ++ (W_G E aG vG)))) hx hb hml hown hg (c_X8_requireRange E l hst aX x1 0 240 u1 hu1) cy_X8_requireRange ml_X8_257 ⟨⟨rfl, rfl⟩, Nat.le_of_ble_eq_true rfl, Nat.le_of_ble_eq_true rfl⟩ hK hE hP hD hS hA [] rfl rfl rfl 0 rfl rfl rfl hl.1 rfl (Nat.le_of_ble_eq_true rfl) dX8_complaintsAfter_6 ⟨Nat.le_of_ble_eq_true rfl, Nat.le_of_ble_eq_true rfl⟩ [] rfl (fun h0 H locs hP hD hS => ?_) (fun h0 H locs ce q9 hP hD hS hce hcv hcl => ?_)
  rotate_left
  · have hf := ie (Nat.pos_iff_ne_zero.mp h0) hf
    obtain rfl := Option.some.inj hf
    exact xm_out hout hlocks h0 hce hcv hcl hP hS (Nat.le_of_ble_eq_true rfl) (Nat.le_of_ble_eq_true rfl)
  have hf := it h0 hf
  refine lv_aload_n hx hb dX8_complaintsAfter_9 rfl (lv_at hl 0 rfl) ?_
  refine gf_X8_31 hx hb hg hown hK hP 0 rfl rfl dX8_complaintsAfter_10 ?_
  refine lv_iload_n hx hb dX8_complaintsAfter_13 rfl (lv_at hl 1 rfl) ?_
  obtain ⟨u2, hu2, hf⟩ := bn hf
  refine cm_V (As := [.int x1]) (rest := []) (w2 := (W_X aX aB aBw aP aN aNd aH aQ vX ++ (W_N aN aG aU aR vN ++ (W_G E aG vG)))) hx hb hml hown hg (c_X3_foreseeComplaints E l aN aG aU aR vN vG x1 u2 hu2) cy_X3_foreseeComplaints ml_X8_261 ⟨⟨rfl, rfl⟩, Nat.le_of_ble_eq_true rfl, Nat.le_of_ble_eq_true rfl⟩ hK hE hP hD hS hA [false, true, true, true, true, true, true, true, true, true, true] rfl rfl rfl 1 rfl rfl rfl hl.1 rfl (Nat.le_of_ble_eq_true rfl) dX8_complaintsAfter_14 ⟨Nat.le_of_ble_eq_true rfl, Nat.le_of_ble_eq_true rfl⟩ [.int u2] rfl (fun H locs hP hD hS => ?_)
  obtain rfl := Option.some.inj hf
  exact xm_yret (v := u2) rfl hx hb hr hlocks hP hS rfl dX8_complaintsAfter_17 (Nat.le_of_ble_eq_true rfl) (Nat.le_of_ble_eq_true rfl)
def F_X8_addGuest (vX : Nat → Int32) (vN : Nat → Int32) (vG : Nat → Nat → Int32) (vU : Nat → Nat → Int32) (vR : Nat → Nat → Int32) (vH : Nat → Int32) (vHV : Nat → NV) (vB : Nat → Nat → Int32) (x1 : Int32) (x2 : Int32) : Option (Nat × Int32 × (Nat → Nat → Int32) × (Nat → Int32) × (Nat → NV) × (Nat → Nat → Int32)) := (F_X8_requireRange x1 0 9).bind (fun u1 => if u1 = 0 then ((F_X8_requireRange x2 0 9).bind (fun u2 => if u2 = 0 then ((F_X0_isName vB).bind (fun u3 => (if u3 = 0 then (some (2, 0, vG, vH, vHV, vB)) else (if (vG 0 0) < 10 then (F_X1_find vG vB 0 (vB 0 0)).bind (fun u4 => (if u4 = (-1) then (F_X2_remember vN vG vU vR vH vHV).bind (fun u5 => (F_X1_add vG vB 0 (vB 0 0) x1 x2).bind (fun u6 => lt (va_up vB 0 (fun _ => 0)) (fun vB_3 => (some (0, u6.1, u6.2, u5.1, u5.2, vB_3))))) else (some (1, 0, vG, vH, vHV, vB)))) else (some (1, 0, vG, vH, vHV, vB)))))) else some (u2, 0, vG, vH, vHV, vB))) else some (u1, 0, vG, vH, vHV, vB))
abbrev rm_X8_addGuest : Room := { frames := 7, cells := 3, slots := 18, locals := 123 }
set_option maxHeartbeats 4000000 in
set_option maxRecDepth 100000 in
theorem c_X8_addGuest (E : Ev) (l : Launch) (hst : l.stackTraces = false) (aX : Nat) (aB : Nat → Nat) (aBw : Nat → Nat) (aP : Nat) (aN : Nat) (aNd : Nat) (aH : Nat) (aQ : Nat) (aG : Nat → Nat) (aU : Nat → Nat) (aR : Nat → Nat) (aHA : Nat) (kn : Nat → Nat) (kg : Nat → Nat → Nat) (ku : Nat → Nat → Nat) (kr : Nat → Nat → Nat) (vX : Nat → Int32) (vN : Nat → Int32) (vG : Nat → Nat → Int32) (vU : Nat → Nat → Int32) (vR : Nat → Nat → Int32) (vH : Nat → Int32) (vHV : Nat → NV) (vB : Nat → Nat → Int32) (x1 : Int32) (x2 : Int32) (r : Nat × Int32 × (Nat → Nat → Int32) × (Nat → Int32) × (Nat → NV) × (Nat → Nat → Int32)) (hf : F_X8_addGuest vX vN vG vU vR vH vHV vB x1 x2 = some r) : XM E l yX8_addGuest (.code yX8_addGuest cX8_addGuest 4 (some .int) :: GA) rm_X8_addGuest [.ref aX, .int x1, .int x2] (W_X aX aB aBw aP aN aNd aH aQ vX ++ (W_N aN aG aU aR vN ++ (W_G E aG vG ++ (W_U E aU vU ++ (W_R E aR vR ++ (W_H aH aHA vH ++ (W_NA E aHA 8 kn ++ (W_V8 E kn kg ku kr vHV ++ (W_B E aB vB))))))))) r.1 (some (.int r.2.1)) (W_X aX aB aBw aP aN aNd aH aQ vX ++ (W_N aN aG aU aR vN ++ (W_G E aG r.2.2.1 ++ (W_U E aU vU ++ (W_R E aR vR ++ (W_H aH aHA r.2.2.2.1 ++ (W_NA E aHA 8 kn ++ (W_V8 E kn kg ku kr r.2.2.2.2.1 ++ (W_B E aB r.2.2.2.2.2))))))))) 3 := by
  refine XM.of (own := RX8) rfl (by decide) (Nat.le_of_ble_eq_true rfl) ?_
  intro p e s m below meth c A ls hx hb hr hml hown hg hlocks hK hE hA hout hP hD hS hl
  have hl : lv_has ls 4 [(0, .ref aX), (1, .int x1), (2, .int x2)] := hl
  unfold F_X8_addGuest at hf
  refine lv_aload_n hx hb dX8_addGuest_0 rfl (lv_at hl 0 rfl) ?_
  refine lv_iload_n hx hb dX8_addGuest_1 rfl (lv_at hl 1 rfl) ?_
  refine lv_iconst (v := 0) hx hb dX8_addGuest_2 (by decide) ?_
  refine lv_bipush (v := 9) hx hb dX8_addGuest_3 (by decide) ?_
  obtain ⟨u1, hu1, hf⟩ := bn hf
  refine xm_V (As := [.int x1, .int 0, .int 9]) (rest := []) (w2 := (W_X aX aB aBw aP aN aNd aH aQ vX ++ (W_N aN aG aU aR vN ++ (W_G E aG vG ++ (W_U E aU vU ++ (W_R E aR vR ++ (W_H aH aHA vH ++ (W_NA E aHA 8 kn ++ (W_V8 E kn kg ku kr vHV ++ (W_B E aB vB)))))))))) hx hb hml hown hg (c_X8_requireRange E l hst aX x1 0 9 u1 hu1) cy_X8_requireRange ml_X8_257 ⟨⟨rfl, rfl⟩, Nat.le_of_ble_eq_true rfl, Nat.le_of_ble_eq_true rfl⟩ hK hE hP hD hS hA [] rfl rfl rfl 0 rfl rfl rfl hl.1 rfl (Nat.le_of_ble_eq_true rfl) dX8_addGuest_5 ⟨Nat.le_of_ble_eq_true rfl, Nat.le_of_ble_eq_true rfl⟩ [] rfl (fun h0 H locs hP hD hS => ?_) (fun h0 H locs ce q9 hP hD hS hce hcv hcl => ?_)
  rotate_left
  · have hf := ie (Nat.pos_iff_ne_zero.mp h0) hf
    obtain rfl := Option.some.inj hf
    exact xm_out hout hlocks h0 hce hcv hcl hP hS (Nat.le_of_ble_eq_true rfl) (Nat.le_of_ble_eq_true rfl)
  have hf := it h0 hf
  refine lv_aload_n hx hb dX8_addGuest_8 rfl (lv_at hl 0 rfl) ?_
  refine lv_iload_n hx hb dX8_addGuest_9 rfl (lv_at hl 2 rfl) ?_
  refine lv_iconst (v := 0) hx hb dX8_addGuest_10 (by decide) ?_
  refine lv_bipush (v := 9) hx hb dX8_addGuest_11 (by decide) ?_
  obtain ⟨u2, hu2, hf⟩ := bn hf
  refine xm_V (As := [.int x2, .int 0, .int 9]) (rest := []) (w2 := (W_X aX aB aBw aP aN aNd aH aQ vX ++ (W_N aN aG aU aR vN ++ (W_G E aG vG ++ (W_U E aU vU ++ (W_R E aR vR ++ (W_H aH aHA vH ++ (W_NA E aHA 8 kn ++ (W_V8 E kn kg ku kr vHV ++ (W_B E aB vB)))))))))) hx hb hml hown hg (c_X8_requireRange E l hst aX x2 0 9 u2 hu2) cy_X8_requireRange ml_X8_257 ⟨⟨rfl, rfl⟩, Nat.le_of_ble_eq_true rfl, Nat.le_of_ble_eq_true rfl⟩ hK hE hP hD hS hA [] rfl rfl rfl 0 rfl rfl rfl hl.1 rfl (Nat.le_of_ble_eq_true rfl) dX8_addGuest_13 ⟨Nat.le_of_ble_eq_true rfl, Nat.le_of_ble_eq_true rfl⟩ [] rfl (fun h0 H locs hP hD hS => ?_) (fun h0 H locs ce q9 hP hD hS hce hcv hcl => ?_)
  rotate_left
  · have hf := ie (Nat.pos_iff_ne_zero.mp h0) hf
    obtain rfl := Option.some.inj hf
    exact xm_out hout hlocks h0 hce hcv hcl hP hS (Nat.le_of_ble_eq_true rfl) (Nat.le_of_ble_eq_true rfl)
  have hf := it h0 hf
  refine lv_aload_n hx hb dX8_addGuest_16 rfl (lv_at hl 0 rfl) ?_
  refine gf_X8_10 hx hb hg hown hK hP 0 rfl rfl dX8_addGuest_17 ?_
  obtain ⟨u3, hu3, hf⟩ := bn hf
  refine cm_V (As := []) (rest := []) (w2 := (W_X aX aB aBw aP aN aNd aH aQ vX ++ (W_N aN aG aU aR vN ++ (W_G E aG vG ++ (W_U E aU vU ++ (W_R E aR vR ++ (W_H aH aHA vH ++ (W_NA E aHA 8 kn ++ (W_V8 E kn kg ku kr vHV ++ (W_B E aB vB)))))))))) hx hb hml hown hg (c_X0_isName E l aB vB u3 hu3) cy_X0_isName ml_X8_264 ⟨⟨rfl, rfl⟩, Nat.le_of_ble_eq_true rfl, Nat.le_of_ble_eq_true rfl⟩ hK hE hP hD hS hA [false, false, false, false, false, false, false, false, false, false, false, false, false, false, false, false, false, false, false, false, false, false, false, false, false, false, false, false, false, false, false, false, false, false, false, false, false, false, false, false, false, false, false, false, false, false, false, false, false, false, false, false, false, false, false, false, false, false, false, false, false, false, false, false, false, false, false, false, false, false, false, false, false, false, false, false, false, false, false, false, false, false, false, false, false, false, false, false, false, false, false, false, false, false, false, false, false, false, false, false, false, false, false, false, false, false, false, false, false, false, false, false, false, false, false, false, false, false, false, false, false, false, false, false, false, false, false, false, false, false, false, false, false, false, false, false, false, false, false, false, false, false, false, false, false, false, false, false, false, false, false, false, false, false, false, false, false, false, false, false, false, false, false, false, false, true, true] rfl rfl rfl 165 rfl rfl rfl hl.1 rfl (Nat.le_of_ble_eq_true rfl) dX8_addGuest_20 ⟨Nat.le_of_ble_eq_true rfl, Nat.le_of_ble_eq_true rfl⟩ [.int u3] rfl (fun H locs hP hD hS => ?_)
  refine lv_if_ne (tgt := 37) hx hb dX8_addGuest_23 (by decide) (fun cq => ?_) (fun cq => ?_)
  · have hf := ie cq hf
    refine lv_aload_n hx hb dX8_addGuest_37 rfl (lv_at hl 0 rfl) ?_
    refine gf_X8_31 hx hb hg hown hK hP 0 rfl rfl dX8_addGuest_38 ?_
    refine gf_X8_85 hx hb hg hown hK hP 1 rfl rfl dX8_addGuest_41 ?_
    refine gf_X8_89 hx hb hg hown hK hP 2 rfl rfl dX8_addGuest_44 ?_
    refine lv_bipush (v := 10) hx hb dX8_addGuest_47 (by decide) ?_
    refine lv_icmp_lt (tgt := 63) hx hb dX8_addGuest_49 (by decide) (fun cq => ?_) (fun cq => ?_)
    · have hf := it cq hf
      refine lv_aload_n hx hb dX8_addGuest_63 rfl (lv_at hl 0 rfl) ?_
      refine gf_X8_31 hx hb hg hown hK hP 0 rfl rfl dX8_addGuest_64 ?_
      refine gf_X8_85 hx hb hg hown hK hP 1 rfl rfl dX8_addGuest_67 ?_
      refine lv_aload_n hx hb dX8_addGuest_70 rfl (lv_at hl 0 rfl) ?_
      refine gf_X8_10 hx hb hg hown hK hP 0 rfl rfl dX8_addGuest_71 ?_
      refine lv_iconst (v := 0) hx hb dX8_addGuest_74 (by decide) ?_
      refine lv_aload_n hx hb dX8_addGuest_75 rfl (lv_at hl 0 rfl) ?_
      refine gf_X8_10 hx hb hg hown hK hP 0 rfl rfl dX8_addGuest_76 ?_
      refine gf_X8_65 hx hb hg hown hK hP 165 rfl rfl dX8_addGuest_79 ?_
      obtain ⟨u4, hu4, hf⟩ := bn hf
      refine cm_V (As := [.ref (aB 0), .int 0, .int (vB 0 0)]) (rest := []) (w2 := (W_X aX aB aBw aP aN aNd aH aQ vX ++ (W_N aN aG aU aR vN ++ (W_G E aG vG ++ (W_U E aU vU ++ (W_R E aR vR ++ (W_H aH aHA vH ++ (W_NA E aHA 8 kn ++ (W_V8 E kn kg ku kr vHV ++ (W_B E aB vB)))))))))) hx hb hml hown hg (c_X1_find E l aG aB vG vB 0 (vB 0 0) u4 hu4) cy_X1_find ml_X8_140 ⟨⟨rfl, rfl⟩, Nat.le_of_ble_eq_true rfl, Nat.le_of_ble_eq_true rfl⟩ hK hE hP hD hS hA [false, false, true, true, true, true, true, true, true, true, true, false, false, false, false, false, false, false, false, false, false, false, false, false, false, false, false, false, false, false, false, false, false, false, false, false, false, false, false, false, false, false, false, false, false, false, false, false, false, false, false, false, false, false, false, false, false, false, false, false, false, false, false, false, false, false, false, false, false, false, false, false, false, false, false, false, false, false, false, false, false, false, false, false, false, false, false, false, false, false, false, false, false, false, false, false, false, false, false, false, false, false, false, false, false, false, false, false, false, false, false, false, false, false, false, false, false, false, false, false, false, false, false, false, false, false, false, false, false, false, false, false, false, false, false, false, false, false, false, false, false, false, false, false, false, false, false, false, false, false, false, false, false, false, false, false, false, false, false, false, false, false, false, false, false, true, true] rfl rfl rfl 2 rfl rfl rfl hl.1 rfl (Nat.le_of_ble_eq_true rfl) dX8_addGuest_82 ⟨Nat.le_of_ble_eq_true rfl, Nat.le_of_ble_eq_true rfl⟩ [.int u4] rfl (fun H locs hP hD hS => ?_)
      refine lv_iconst (v := (-1)) hx hb dX8_addGuest_85 (by decide) ?_
      refine lv_icmp_eq (tgt := 100) hx hb dX8_addGuest_86 (by decide) (fun cq => ?_) (fun cq => ?_)
      · have hf := it cq hf
        refine lv_aload_n hx hb dX8_addGuest_100 rfl (lv_at hl 0 rfl) ?_
        refine gf_X8_41 hx hb hg hown hK hP 0 rfl rfl dX8_addGuest_101 ?_
        refine lv_aload_n hx hb dX8_addGuest_104 rfl (lv_at hl 0 rfl) ?_
        refine gf_X8_31 hx hb hg hown hK hP 0 rfl rfl dX8_addGuest_105 ?_
        obtain ⟨u5, hu5, hf⟩ := bn hf
        refine cm_V (As := [.ref aN]) (rest := []) (w2 := (W_X aX aB aBw aP aN aNd aH aQ vX ++ (W_N aN aG aU aR vN ++ (W_G E aG vG ++ (W_U E aU vU ++ (W_R E aR vR ++ (W_H aH aHA u5.1 ++ (W_NA E aHA 8 kn ++ (W_V8 E kn kg ku kr u5.2 ++ (W_B E aB vB)))))))))) hx hb hml hown hg (c_X2_remember E l aN aG aU aR aH aHA kn kg ku kr vN vG vU vR vH vHV u5 hu5) cy_X2_remember ml_X8_274 ⟨⟨rfl, rfl⟩, Nat.le_of_ble_eq_true rfl, Nat.le_of_ble_eq_true rfl⟩ hK hE hP hD hS hA [false, true, true, true, true, true, true, true, true, true, true, true, true, true, true, true, true, true, true, true, true, true, true, true, true, true, true, true, true, true, true, true, true, true, true, true, true, true, true, true, true, true, true, true, true, true, true, true, true, true, true, true, true, true, true, true, true, true, true, true, true, true, true, true, true, true, true, true, true, true, true, true, true, true, true, true, true, true, true, true, true, true, true, true, true, true, true, true, true, true, true, true, true, true, true, true, true, true, true, true, true, true, true, true, true, true, true, true, true, true, true, true, true, true, true, true, true, true, true, true, true, true, true, true, true, true, true, true, true, true, true, true, true, true, true, true, true, true, true, true, true, true, true, true, true, true, true, true, true, true, true, true, true, true, true, true, true, true, true, true, true, true, true, true, true] rfl rfl rfl 19 rfl rfl rfl hl.1 rfl (Nat.le_of_ble_eq_true rfl) dX8_addGuest_108 ⟨Nat.le_of_ble_eq_true rfl, Nat.le_of_ble_eq_true rfl⟩ [] rfl (fun H locs hP hD hS => ?_)
        refine lv_aload_n hx hb dX8_addGuest_111 rfl (lv_at hl 0 rfl) ?_
        refine gf_X8_31 hx hb hg hown hK hP 0 rfl rfl dX8_addGuest_112 ?_
        refine gf_X8_85 hx hb hg hown hK hP 1 rfl rfl dX8_addGuest_115 ?_
        refine lv_aload_n hx hb dX8_addGuest_118 rfl (lv_at hl 0 rfl) ?_
        refine gf_X8_10 hx hb hg hown hK hP 0 rfl rfl dX8_addGuest_119 ?_
        refine lv_iconst (v := 0) hx hb dX8_addGuest_122 (by decide) ?_
        refine lv_aload_n hx hb dX8_addGuest_123 rfl (lv_at hl 0 rfl) ?_
        refine gf_X8_10 hx hb hg hown hK hP 0 rfl rfl dX8_addGuest_124 ?_
        refine gf_X8_65 hx hb hg hown hK hP 165 rfl rfl dX8_addGuest_127 ?_
        refine lv_iload_n hx hb dX8_addGuest_130 rfl (lv_at hl 1 rfl) ?_
        refine lv_iload_n hx hb dX8_addGuest_131 rfl (lv_at hl 2 rfl) ?_
        obtain ⟨u6, hu6, hf⟩ := bn hf
        refine cm_V (As := [.ref (aB 0), .int 0, .int (vB 0 0), .int x1, .int x2]) (rest := []) (w2 := (W_X aX aB aBw aP aN aNd aH aQ vX ++ (W_N aN aG aU aR vN ++ (W_G E aG u6.2 ++ (W_U E aU vU ++ (W_R E aR vR ++ (W_H aH aHA u5.1 ++ (W_NA E aHA 8 kn ++ (W_V8 E kn kg ku kr u5.2 ++ (W_B E aB vB)))))))))) hx hb hml hown hg (c_X1_add E l aG aB vG vB 0 (vB 0 0) x1 x2 u6 hu6) cy_X1_add ml_X8_278 ⟨⟨rfl, rfl⟩, Nat.le_of_ble_eq_true rfl, Nat.le_of_ble_eq_true rfl⟩ hK hE hP hD hS hA [false, false, true, true, true, true, true, true, true, true, true, false, false, false, false, false, false, false, false, false, false, false, false, false, false, false, false, false, false, false, false, false, false, false, false, false, false, false, false, false, false, false, false, false, false, false, false, false, false, false, false, false, false, false, false, false, false, false, false, false, false, false, false, false, false, false, false, false, false, false, false, false, false, false, false, false, false, false, false, false, false, false, false, false, false, false, false, false, false, false, false, false, false, false, false, false, false, false, false, false, false, false, false, false, false, false, false, false, false, false, false, false, false, false, false, false, false, false, false, false, false, false, false, false, false, false, false, false, false, false, false, false, false, false, false, false, false, false, false, false, false, false, false, false, false, false, false, false, false, false, false, false, false, false, false, false, false, false, false, false, false, false, false, false, false, true, true] rfl rfl rfl 2 rfl rfl rfl hl.1 rfl (Nat.le_of_ble_eq_true rfl) dX8_addGuest_132 ⟨Nat.le_of_ble_eq_true rfl, Nat.le_of_ble_eq_true rfl⟩ [.int u6.1] rfl (fun H locs hP hD hS => ?_)
        refine lv_istore_n (lv' := [(3, .int u6.1), (0, .ref aX), (1, .int x1), (2, .int x2)]) hx hb dX8_addGuest_135 rfl hl (by decide) rfl (fun ls hl => ?_)
        refine lv_aload_n hx hb dX8_addGuest_136 rfl (lv_at hl 1 rfl) ?_
        refine gf_X8_10 hx hb hg hown hK hP 0 rfl rfl dX8_addGuest_137 ?_
        refine lv_iconst (v := 0) hx hb dX8_addGuest_140 (by decide) ?_
        refine pf_X8_65 (w2 := (W_X aX aB aBw aP aN aNd aH aQ vX ++ (W_N aN aG aU aR vN ++ (W_G E aG u6.2 ++ (W_U E aU vU ++ (W_R E aR vR ++ (W_H aH aHA u5.1 ++ (W_NA E aHA 8 kn ++ (W_V8 E kn kg ku kr u5.2 ++ (W_B E aB (va_up vB 0 (fun _ => 0)))))))))))) hx hb hg hown hK hP hD hS 165 rfl (Nat.le_of_ble_eq_true rfl) rfl dX8_addGuest_141 (fun H locs hP hD hS => ?_)
        obtain ⟨vB_3, hv, hf⟩ := lt_o hf
        rw [← hv] at hP hD
        clear hv
        refine lv_iload_n hx hb dX8_addGuest_144 rfl (lv_at hl 0 rfl) ?_
        obtain rfl := Option.some.inj hf
        exact xm_yret (v := u6.1) rfl hx hb hr hlocks hP hS rfl dX8_addGuest_145 (Nat.le_of_ble_eq_true rfl) (Nat.le_of_ble_eq_true rfl)
      · have hf := ie cq hf
        obtain rfl := Option.some.inj hf
        exact xm_throw1W (is := 272) (i := 19) (text := "a guest has this name") rfl hx hb hml hl.1 hst hown hg hE (List.mem_of_getElem? (i := 19) rfl) hout hlocks hP hS dX8_addGuest_89 dX8_addGuest_92 dX8_addGuest_93 dX8_addGuest_96 dX8_addGuest_99 (Nat.le_of_ble_eq_true rfl) (Nat.le_of_ble_eq_true rfl) (Nat.le_of_ble_eq_true rfl) (Nat.le_of_ble_eq_true rfl) (Nat.le_of_ble_eq_true rfl) (Nat.le_of_ble_eq_true rfl)
    · have hf := ie cq hf
      obtain rfl := Option.some.inj hf
      exact xm_throw1W (is := 270) (i := 18) (text := "there is no room for a guest") rfl hx hb hml hl.1 hst hown hg hE (List.mem_of_getElem? (i := 18) rfl) hout hlocks hP hS dX8_addGuest_52 dX8_addGuest_55 dX8_addGuest_56 dX8_addGuest_59 dX8_addGuest_62 (Nat.le_of_ble_eq_true rfl) (Nat.le_of_ble_eq_true rfl) (Nat.le_of_ble_eq_true rfl) (Nat.le_of_ble_eq_true rfl) (Nat.le_of_ble_eq_true rfl) (Nat.le_of_ble_eq_true rfl)
  · have hf := it cq hf
    obtain rfl := Option.some.inj hf
    exact xm_throw2W (is := 268) (i := 17) (text := "the input buffer is not a name") rfl hx hb hml hl.1 hst hown hg hE (List.mem_of_getElem? (i := 17) rfl) hout hlocks hP hS dX8_addGuest_26 dX8_addGuest_29 dX8_addGuest_30 dX8_addGuest_33 dX8_addGuest_36 (Nat.le_of_ble_eq_true rfl) (Nat.le_of_ble_eq_true rfl) (Nat.le_of_ble_eq_true rfl) (Nat.le_of_ble_eq_true rfl) (Nat.le_of_ble_eq_true rfl) (Nat.le_of_ble_eq_true rfl)
def F_X8_addUmbrella (vX : Nat → Int32) (vN : Nat → Int32) (vG : Nat → Nat → Int32) (vU : Nat → Nat → Int32) (vR : Nat → Nat → Int32) (vH : Nat → Int32) (vHV : Nat → NV) (x1 : Int32) (x2 : Int32) : Option (Nat × Int32 × (Nat → Nat → Int32) × (Nat → Int32) × (Nat → NV)) := (F_X8_requireGuest vX vN vG x1).bind (fun u1 => if u1 = 0 then ((F_X8_requireRange x2 0 99).bind (fun u2 => if u2 = 0 then ((if (vU 0 0) < 12 then (F_X2_remember vN vG vU vR vH vHV).bind (fun u3 => (F_X7_add vU x1 x2).bind (fun u4 => (some (0, u4.1, u4.2, u3.1, u3.2)))) else (some (1, 0, vU, vH, vHV)))) else some (u2, 0, vU, vH, vHV))) else some (u1, 0, vU, vH, vHV))
abbrev rm_X8_addUmbrella : Room := { frames := 7, cells := 3, slots := 18, locals := 123 }
set_option maxHeartbeats 4000000 in
set_option maxRecDepth 100000 in
theorem c_X8_addUmbrella (E : Ev) (l : Launch) (hst : l.stackTraces = false) (aX : Nat) (aB : Nat → Nat) (aBw : Nat → Nat) (aP : Nat) (aN : Nat) (aNd : Nat) (aH : Nat) (aQ : Nat) (aG : Nat → Nat) (aU : Nat → Nat) (aR : Nat → Nat) (aHA : Nat) (kn : Nat → Nat) (kg : Nat → Nat → Nat) (ku : Nat → Nat → Nat) (kr : Nat → Nat → Nat) (vX : Nat → Int32) (vN : Nat → Int32) (vG : Nat → Nat → Int32) (vU : Nat → Nat → Int32) (vR : Nat → Nat → Int32) (vH : Nat → Int32) (vHV : Nat → NV) (x1 : Int32) (x2 : Int32) (r : Nat × Int32 × (Nat → Nat → Int32) × (Nat → Int32) × (Nat → NV)) (hf : F_X8_addUmbrella vX vN vG vU vR vH vHV x1 x2 = some r) : XM E l yX8_addUmbrella (.code yX8_addUmbrella cX8_addUmbrella 3 (some .int) :: GA) rm_X8_addUmbrella [.ref aX, .int x1, .int x2] (W_X aX aB aBw aP aN aNd aH aQ vX ++ (W_N aN aG aU aR vN ++ (W_G E aG vG ++ (W_U E aU vU ++ (W_R E aR vR ++ (W_H aH aHA vH ++ (W_NA E aHA 8 kn ++ (W_V8 E kn kg ku kr vHV)))))))) r.1 (some (.int r.2.1)) (W_X aX aB aBw aP aN aNd aH aQ vX ++ (W_N aN aG aU aR vN ++ (W_G E aG vG ++ (W_U E aU r.2.2.1 ++ (W_R E aR vR ++ (W_H aH aHA r.2.2.2.1 ++ (W_NA E aHA 8 kn ++ (W_V8 E kn kg ku kr r.2.2.2.2)))))))) 3 := by
  refine XM.of (own := RX8) rfl (by decide) (Nat.le_of_ble_eq_true rfl) ?_
  intro p e s m below meth c A ls hx hb hr hml hown hg hlocks hK hE hA hout hP hD hS hl
  have hl : lv_has ls 3 [(0, .ref aX), (1, .int x1), (2, .int x2)] := hl
  unfold F_X8_addUmbrella at hf
  refine lv_aload_n hx hb dX8_addUmbrella_0 rfl (lv_at hl 0 rfl) ?_
  refine lv_iload_n hx hb dX8_addUmbrella_1 rfl (lv_at hl 1 rfl) ?_
  obtain ⟨u1, hu1, hf⟩ := bn hf
  refine xm_V (As := [.int x1]) (rest := []) (w2 := (W_X aX aB aBw aP aN aNd aH aQ vX ++ (W_N aN aG aU aR vN ++ (W_G E aG vG ++ (W_U E aU vU ++ (W_R E aR vR ++ (W_H aH aHA vH ++ (W_NA E aHA 8 kn ++ (W_V8 E kn kg ku kr vHV))))))))) hx hb hml hown hg (c_X8_requireGuest E l hst aX aB aBw aP aN aNd aH aQ aG aU aR vX vN vG x1 u1 hu1) cy_X8_requireGuest ml_X8_124 ⟨⟨rfl, rfl⟩, Nat.le_of_ble_eq_true rfl, Nat.le_of_ble_eq_true rfl⟩ hK hE hP hD hS hA [true, true, true, true, true, true, true, true, true, true, true] rfl rfl rfl 0 rfl rfl rfl hl.1 rfl (Nat.le_of_ble_eq_true rfl) dX8_addUmbrella_2 ⟨Nat.le_of_ble_eq_true rfl, Nat.le_of_ble_eq_true rfl⟩ [] rfl (fun h0 H locs hP hD hS => ?_) (fun h0 H locs ce q9 hP hD hS hce hcv hcl => ?_)
  rotate_left
  · have hf := ie (Nat.pos_iff_ne_zero.mp h0) hf
    obtain rfl := Option.some.inj hf
    exact xm_out hout hlocks h0 hce hcv hcl hP hS (Nat.le_of_ble_eq_true rfl) (Nat.le_of_ble_eq_true rfl)
  have hf := it h0 hf
  refine lv_aload_n hx hb dX8_addUmbrella_5 rfl (lv_at hl 0 rfl) ?_
  refine lv_iload_n hx hb dX8_addUmbrella_6 rfl (lv_at hl 2 rfl) ?_
  refine lv_iconst (v := 0) hx hb dX8_addUmbrella_7 (by decide) ?_
  refine lv_bipush (v := 99) hx hb dX8_addUmbrella_8 (by decide) ?_
  obtain ⟨u2, hu2, hf⟩ := bn hf
  refine xm_V (As := [.int x2, .int 0, .int 99]) (rest := []) (w2 := (W_X aX aB aBw aP aN aNd aH aQ vX ++ (W_N aN aG aU aR vN ++ (W_G E aG vG ++ (W_U E aU vU ++ (W_R E aR vR ++ (W_H aH aHA vH ++ (W_NA E aHA 8 kn ++ (W_V8 E kn kg ku kr vHV))))))))) hx hb hml hown hg (c_X8_requireRange E l hst aX x2 0 99 u2 hu2) cy_X8_requireRange ml_X8_257 ⟨⟨rfl, rfl⟩, Nat.le_of_ble_eq_true rfl, Nat.le_of_ble_eq_true rfl⟩ hK hE hP hD hS hA [] rfl rfl rfl 0 rfl rfl rfl hl.1 rfl (Nat.le_of_ble_eq_true rfl) dX8_addUmbrella_10 ⟨Nat.le_of_ble_eq_true rfl, Nat.le_of_ble_eq_true rfl⟩ [] rfl (fun h0 H locs hP hD hS => ?_) (fun h0 H locs ce q9 hP hD hS hce hcv hcl => ?_)
  rotate_left
  · have hf := ie (Nat.pos_iff_ne_zero.mp h0) hf
    obtain rfl := Option.some.inj hf
    exact xm_out hout hlocks h0 hce hcv hcl hP hS (Nat.le_of_ble_eq_true rfl) (Nat.le_of_ble_eq_true rfl)
  have hf := it h0 hf
  refine lv_aload_n hx hb dX8_addUmbrella_13 rfl (lv_at hl 0 rfl) ?_
  refine gf_X8_31 hx hb hg hown hK hP 0 rfl rfl dX8_addUmbrella_14 ?_
  refine gf_X8_171 hx hb hg hown hK hP 1 rfl rfl dX8_addUmbrella_17 ?_
  refine gf_X8_175 hx hb hg hown hK hP 11 rfl rfl dX8_addUmbrella_20 ?_
  refine lv_bipush (v := 12) hx hb dX8_addUmbrella_23 (by decide) ?_
  refine lv_icmp_lt (tgt := 39) hx hb dX8_addUmbrella_25 (by decide) (fun cq => ?_) (fun cq => ?_)
  · have hf := it cq hf
    refine lv_aload_n hx hb dX8_addUmbrella_39 rfl (lv_at hl 0 rfl) ?_
    refine gf_X8_41 hx hb hg hown hK hP 0 rfl rfl dX8_addUmbrella_40 ?_
    refine lv_aload_n hx hb dX8_addUmbrella_43 rfl (lv_at hl 0 rfl) ?_
    refine gf_X8_31 hx hb hg hown hK hP 0 rfl rfl dX8_addUmbrella_44 ?_
    obtain ⟨u3, hu3, hf⟩ := bn hf
    refine cm_V (As := [.ref aN]) (rest := []) (w2 := (W_X aX aB aBw aP aN aNd aH aQ vX ++ (W_N aN aG aU aR vN ++ (W_G E aG vG ++ (W_U E aU vU ++ (W_R E aR vR ++ (W_H aH aHA u3.1 ++ (W_NA E aHA 8 kn ++ (W_V8 E kn kg ku kr u3.2))))))))) hx hb hml hown hg (c_X2_remember E l aN aG aU aR aH aHA kn kg ku kr vN vG vU vR vH vHV u3 hu3) cy_X2_remember ml_X8_274 ⟨⟨rfl, rfl⟩, Nat.le_of_ble_eq_true rfl, Nat.le_of_ble_eq_true rfl⟩ hK hE hP hD hS hA [false, true, true, true, true, true, true, true, true, true, true, true, true, true, true, true, true, true, true, true, true, true, true, true, true, true, true, true, true, true, true, true, true, true, true, true, true, true, true, true, true, true, true, true, true, true, true, true, true, true, true, true, true, true, true, true, true, true, true, true, true, true, true, true, true, true, true, true, true, true, true, true, true, true, true, true, true, true, true, true, true, true, true, true, true, true, true, true, true, true, true, true, true, true, true, true, true, true, true, true, true, true, true, true, true, true, true, true, true, true, true, true, true, true, true, true, true, true, true, true, true, true, true, true, true, true, true, true, true, true, true, true, true, true, true, true, true, true, true, true, true, true, true, true, true, true, true, true, true, true, true, true, true, true, true, true, true, true, true, true, true, true, true, true, true] rfl rfl rfl 19 rfl rfl rfl hl.1 rfl (Nat.le_of_ble_eq_true rfl) dX8_addUmbrella_47 ⟨Nat.le_of_ble_eq_true rfl, Nat.le_of_ble_eq_true rfl⟩ [] rfl (fun H locs hP hD hS => ?_)
    refine lv_aload_n hx hb dX8_addUmbrella_50 rfl (lv_at hl 0 rfl) ?_
    refine gf_X8_31 hx hb hg hown hK hP 0 rfl rfl dX8_addUmbrella_51 ?_
    refine gf_X8_171 hx hb hg hown hK hP 1 rfl rfl dX8_addUmbrella_54 ?_
    refine lv_iload_n hx hb dX8_addUmbrella_57 rfl (lv_at hl 1 rfl) ?_
    refine lv_iload_n hx hb dX8_addUmbrella_58 rfl (lv_at hl 2 rfl) ?_
    obtain ⟨u4, hu4, hf⟩ := bn hf
    refine cm_V (As := [.int x1, .int x2]) (rest := []) (w2 := (W_X aX aB aBw aP aN aNd aH aQ vX ++ (W_N aN aG aU aR vN ++ (W_G E aG vG ++ (W_U E aU u4.2 ++ (W_R E aR vR ++ (W_H aH aHA u3.1 ++ (W_NA E aHA 8 kn ++ (W_V8 E kn kg ku kr u3.2))))))))) hx hb hml hown hg (c_X7_add E l aU vU x1 x2 u4 hu4) cy_X7_add ml_X8_284 ⟨⟨rfl, rfl⟩, Nat.le_of_ble_eq_true rfl, Nat.le_of_ble_eq_true rfl⟩ hK hE hP hD hS hA [false, false, false, false, false, false, false, false, false, false, false, true, true, true, true] rfl rfl rfl 11 rfl rfl rfl hl.1 rfl (Nat.le_of_ble_eq_true rfl) dX8_addUmbrella_59 ⟨Nat.le_of_ble_eq_true rfl, Nat.le_of_ble_eq_true rfl⟩ [.int u4.1] rfl (fun H locs hP hD hS => ?_)
    obtain rfl := Option.some.inj hf
    exact xm_yret (v := u4.1) rfl hx hb hr hlocks hP hS rfl dX8_addUmbrella_62 (Nat.le_of_ble_eq_true rfl) (Nat.le_of_ble_eq_true rfl)
  · have hf := ie cq hf
    obtain rfl := Option.some.inj hf
    exact xm_throw1W (is := 282) (i := 21) (text := "there is no room for an umbrella") rfl hx hb hml hl.1 hst hown hg hE (List.mem_of_getElem? (i := 21) rfl) hout hlocks hP hS dX8_addUmbrella_28 dX8_addUmbrella_31 dX8_addUmbrella_32 dX8_addUmbrella_35 dX8_addUmbrella_38 (Nat.le_of_ble_eq_true rfl) (Nat.le_of_ble_eq_true rfl) (Nat.le_of_ble_eq_true rfl) (Nat.le_of_ble_eq_true rfl) (Nat.le_of_ble_eq_true rfl) (Nat.le_of_ble_eq_true rfl)
def F_X8_leave (vX : Nat → Int32) (vN : Nat → Int32) (vG : Nat → Nat → Int32) (vU : Nat → Nat → Int32) (vR : Nat → Nat → Int32) (vH : Nat → Int32) (vHV : Nat → NV) (x1 : Int32) : Option (Nat × Int32 × (Nat → Nat → Int32) × (Nat → Nat → Int32) × (Nat → Nat → Int32) × (Nat → Int32) × (Nat → NV)) := (F_X8_requireGuest vX vN vG x1).bind (fun u1 => if u1 = 0 then ((F_X1_isAway vG x1).bind (fun u2 => (if u2 = 0 then (F_X8_requireRoomForEntry vX vN vR).bind (fun u3 => if u3 = 0 then ((F_X2_remember vN vG vU vR vH vHV).bind (fun u4 => (F_X3_letLeave vN vG vU vR x1).bind (fun u5 => (F_X1_countAway u5.1).bind (fun u6 => (some (0, u6, u5.1, u5.2.1, u5.2.2, u4.1, u4.2)))))) else some (u3, 0, vG, vU, vR, vH, vHV)) else (some (1, 0, vG, vU, vR, vH, vHV))))) else some (u1, 0, vG, vU, vR, vH, vHV))
abbrev rm_X8_leave : Room := { frames := 7, cells := 2, slots := 12, locals := 123 }
set_option maxHeartbeats 4000000 in
set_option maxRecDepth 100000 in
theorem c_X8_leave (E : Ev) (l : Launch) (hst : l.stackTraces = false) (aX : Nat) (aB : Nat → Nat) (aBw : Nat → Nat) (aP : Nat) (aN : Nat) (aNd : Nat) (aH : Nat) (aQ : Nat) (aG : Nat → Nat) (aU : Nat → Nat) (aR : Nat → Nat) (aHA : Nat) (kn : Nat → Nat) (kg : Nat → Nat → Nat) (ku : Nat → Nat → Nat) (kr : Nat → Nat → Nat) (vX : Nat → Int32) (vN : Nat → Int32) (vG : Nat → Nat → Int32) (vU : Nat → Nat → Int32) (vR : Nat → Nat → Int32) (vH : Nat → Int32) (vHV : Nat → NV) (x1 : Int32) (r : Nat × Int32 × (Nat → Nat → Int32) × (Nat → Nat → Int32) × (Nat → Nat → Int32) × (Nat → Int32) × (Nat → NV)) (hf : F_X8_leave vX vN vG vU vR vH vHV x1 = some r) : XM E l yX8_leave (.code yX8_leave cX8_leave 2 (some .int) :: GA) rm_X8_leave [.ref aX, .int x1] (W_X aX aB aBw aP aN aNd aH aQ vX ++ (W_N aN aG aU aR vN ++ (W_G E aG vG ++ (W_U E aU vU ++ (W_R E aR vR ++ (W_H aH aHA vH ++ (W_NA E aHA 8 kn ++ (W_V8 E kn kg ku kr vHV)))))))) r.1 (some (.int r.2.1)) (W_X aX aB aBw aP aN aNd aH aQ vX ++ (W_N aN aG aU aR vN ++ (W_G E aG r.2.2.1 ++ (W_U E aU r.2.2.2.1 ++ (W_R E aR r.2.2.2.2.1 ++ (W_H aH aHA r.2.2.2.2.2.1 ++ (W_NA E aHA 8 kn ++ (W_V8 E kn kg ku kr r.2.2.2.2.2.2)))))))) 2 := by
  refine XM.of (own := RX8) rfl (by decide) (Nat.le_of_ble_eq_true rfl) ?_
  intro p e s m below meth c A ls hx hb hr hml hown hg hlocks hK hE hA hout hP hD hS hl
  have hl : lv_has ls 2 [(0, .ref aX), (1, .int x1)] := hl
  unfold F_X8_leave at hf
  refine lv_aload_n hx hb dX8_leave_0 rfl (lv_at hl 0 rfl) ?_
  refine lv_iload_n hx hb dX8_leave_1 rfl (lv_at hl 1 rfl) ?_
  obtain ⟨u1, hu1, hf⟩ := bn hf
  refine xm_V (As := [.int x1]) (rest := []) (w2 := (W_X aX aB aBw aP aN aNd aH aQ vX ++ (W_N aN aG aU aR vN ++ (W_G E aG vG ++ (W_U E aU vU ++ (W_R E aR vR ++ (W_H aH aHA vH ++ (W_NA E aHA 8 kn ++ (W_V8 E kn kg ku kr vHV))))))))) hx hb hml hown hg (c_X8_requireGuest E l hst aX aB aBw aP aN aNd aH aQ aG aU aR vX vN vG x1 u1 hu1) cy_X8_requireGuest ml_X8_124 ⟨⟨rfl, rfl⟩, Nat.le_of_ble_eq_true rfl, Nat.le_of_ble_eq_true rfl⟩ hK hE hP hD hS hA [true, true, true, true, true, true, true, true, true, true, true] rfl rfl rfl 0 rfl rfl rfl hl.1 rfl (Nat.le_of_ble_eq_true rfl) dX8_leave_2 ⟨Nat.le_of_ble_eq_true rfl, Nat.le_of_ble_eq_true rfl⟩ [] rfl (fun h0 H locs hP hD hS => ?_) (fun h0 H locs ce q9 hP hD hS hce hcv hcl => ?_)
  rotate_left
  · have hf := ie (Nat.pos_iff_ne_zero.mp h0) hf
    obtain rfl := Option.some.inj hf
    exact xm_out hout hlocks h0 hce hcv hcl hP hS (Nat.le_of_ble_eq_true rfl) (Nat.le_of_ble_eq_true rfl)
  have hf := it h0 hf
  refine lv_aload_n hx hb dX8_leave_5 rfl (lv_at hl 0 rfl) ?_
  refine gf_X8_31 hx hb hg hown hK hP 0 rfl rfl dX8_leave_6 ?_
  refine gf_X8_85 hx hb hg hown hK hP 1 rfl rfl dX8_leave_9 ?_
  refine lv_iload_n hx hb dX8_leave_12 rfl (lv_at hl 1 rfl) ?_
  obtain ⟨u2, hu2, hf⟩ := bn hf
  refine cm_V (As := [.int x1]) (rest := []) (w2 := (W_X aX aB aBw aP aN aNd aH aQ vX ++ (W_N aN aG aU aR vN ++ (W_G E aG vG ++ (W_U E aU vU ++ (W_R E aR vR ++ (W_H aH aHA vH ++ (W_NA E aHA 8 kn ++ (W_V8 E kn kg ku kr vHV))))))))) hx hb hml hown hg (c_X1_isAway E l aG vG x1 u2 hu2) cy_X1_isAway ml_X8_152 ⟨⟨rfl, rfl⟩, Nat.le_of_ble_eq_true rfl, Nat.le_of_ble_eq_true rfl⟩ hK hE hP hD hS hA [false, false, true, true, true, true, true, true, true, true, true] rfl rfl rfl 2 rfl rfl rfl hl.1 rfl (Nat.le_of_ble_eq_true rfl) dX8_leave_13 ⟨Nat.le_of_ble_eq_true rfl, Nat.le_of_ble_eq_true rfl⟩ [.int u2] rfl (fun H locs hP hD hS => ?_)
  refine lv_if_eq (tgt := 29) hx hb dX8_leave_16 (by decide) (fun cq => ?_) (fun cq => ?_)
  · have hf := it cq hf
    refine lv_aload_n hx hb dX8_leave_29 rfl (lv_at hl 0 rfl) ?_
    obtain ⟨u3, hu3, hf⟩ := bn hf
    refine xm_V (As := []) (rest := []) (w2 := (W_X aX aB aBw aP aN aNd aH aQ vX ++ (W_N aN aG aU aR vN ++ (W_G E aG vG ++ (W_U E aU vU ++ (W_R E aR vR ++ (W_H aH aHA vH ++ (W_NA E aHA 8 kn ++ (W_V8 E kn kg ku kr vHV))))))))) hx hb hml hown hg (c_X8_requireRoomForEntry E l hst aX aB aBw aP aN aNd aH aQ aG aU aR vX vN vR u3 hu3) cy_X8_requireRoomForEntry ml_X8_286 ⟨⟨rfl, rfl⟩, Nat.le_of_ble_eq_true rfl, Nat.le_of_ble_eq_true rfl⟩ hK hE hP hD hS hA [true, true, false, false, false, false, false, false, false, false, false, false, false, false, false, true, true, true, true] rfl rfl rfl 0 rfl rfl rfl hl.1 rfl (Nat.le_of_ble_eq_true rfl) dX8_leave_30 ⟨Nat.le_of_ble_eq_true rfl, Nat.le_of_ble_eq_true rfl⟩ [] rfl (fun h0 H locs hP hD hS => ?_) (fun h0 H locs ce q9 hP hD hS hce hcv hcl => ?_)
    rotate_left
    · have hf := ie (Nat.pos_iff_ne_zero.mp h0) hf
      obtain rfl := Option.some.inj hf
      exact xm_out hout hlocks h0 hce hcv hcl hP hS (Nat.le_of_ble_eq_true rfl) (Nat.le_of_ble_eq_true rfl)
    have hf := it h0 hf
    refine lv_aload_n hx hb dX8_leave_33 rfl (lv_at hl 0 rfl) ?_
    refine gf_X8_41 hx hb hg hown hK hP 0 rfl rfl dX8_leave_34 ?_
    refine lv_aload_n hx hb dX8_leave_37 rfl (lv_at hl 0 rfl) ?_
    refine gf_X8_31 hx hb hg hown hK hP 0 rfl rfl dX8_leave_38 ?_
    obtain ⟨u4, hu4, hf⟩ := bn hf
    refine cm_V (As := [.ref aN]) (rest := []) (w2 := (W_X aX aB aBw aP aN aNd aH aQ vX ++ (W_N aN aG aU aR vN ++ (W_G E aG vG ++ (W_U E aU vU ++ (W_R E aR vR ++ (W_H aH aHA u4.1 ++ (W_NA E aHA 8 kn ++ (W_V8 E kn kg ku kr u4.2))))))))) hx hb hml hown hg (c_X2_remember E l aN aG aU aR aH aHA kn kg ku kr vN vG vU vR vH vHV u4 hu4) cy_X2_remember ml_X8_274 ⟨⟨rfl, rfl⟩, Nat.le_of_ble_eq_true rfl, Nat.le_of_ble_eq_true rfl⟩ hK hE hP hD hS hA [false, true, true, true, true, true, true, true, true, true, true, true, true, true, true, true, true, true, true, true, true, true, true, true, true, true, true, true, true, true, true, true, true, true, true, true, true, true, true, true, true, true, true, true, true, true, true, true, true, true, true, true, true, true, true, true, true, true, true, true, true, true, true, true, true, true, true, true, true, true, true, true, true, true, true, true, true, true, true, true, true, true, true, true, true, true, true, true, true, true, true, true, true, true, true, true, true, true, true, true, true, true, true, true, true, true, true, true, true, true, true, true, true, true, true, true, true, true, true, true, true, true, true, true, true, true, true, true, true, true, true, true, true, true, true, true, true, true, true, true, true, true, true, true, true, true, true, true, true, true, true, true, true, true, true, true, true, true, true, true, true, true, true, true, true] rfl rfl rfl 19 rfl rfl rfl hl.1 rfl (Nat.le_of_ble_eq_true rfl) dX8_leave_41 ⟨Nat.le_of_ble_eq_true rfl, Nat.le_of_ble_eq_true rfl⟩ [] rfl (fun H locs hP hD hS => ?_)
    refine lv_aload_n hx hb dX8_leave_44 rfl (lv_at hl 0 rfl) ?_
    refine gf_X8_31 hx hb hg hown hK hP 0 rfl rfl dX8_leave_45 ?_
    refine lv_iload_n hx hb dX8_leave_48 rfl (lv_at hl 1 rfl) ?_
    obtain ⟨u5, hu5, hf⟩ := bn hf
    refine cm_V (As := [.int x1]) (rest := []) (w2 := (W_X aX aB aBw aP aN aNd aH aQ vX ++ (W_N aN aG aU aR vN ++ (W_G E aG u5.1 ++ (W_U E aU u5.2.1 ++ (W_R E aR u5.2.2 ++ (W_H aH aHA u4.1 ++ (W_NA E aHA 8 kn ++ (W_V8 E kn kg ku kr u4.2))))))))) hx hb hml hown hg (c_X3_letLeave E l aN aG aU aR vN vG vU vR x1 u5 hu5) cy_X3_letLeave ml_X8_289 ⟨⟨rfl, rfl⟩, Nat.le_of_ble_eq_true rfl, Nat.le_of_ble_eq_true rfl⟩ hK hE hP hD hS hA [false, true, true, true, true, true, true, true, true, true, true, true, true, true, true, true, true, true, true] rfl rfl rfl 1 rfl rfl rfl hl.1 rfl (Nat.le_of_ble_eq_true rfl) dX8_leave_49 ⟨Nat.le_of_ble_eq_true rfl, Nat.le_of_ble_eq_true rfl⟩ [] rfl (fun H locs hP hD hS => ?_)
    refine lv_aload_n hx hb dX8_leave_52 rfl (lv_at hl 0 rfl) ?_
    refine gf_X8_31 hx hb hg hown hK hP 0 rfl rfl dX8_leave_53 ?_
    refine gf_X8_85 hx hb hg hown hK hP 1 rfl rfl dX8_leave_56 ?_
    obtain ⟨u6, hu6, hf⟩ := bn hf
    refine cm_V (As := []) (rest := []) (w2 := (W_X aX aB aBw aP aN aNd aH aQ vX ++ (W_N aN aG aU aR vN ++ (W_G E aG u5.1 ++ (W_U E aU u5.2.1 ++ (W_R E aR u5.2.2 ++ (W_H aH aHA u4.1 ++ (W_NA E aHA 8 kn ++ (W_V8 E kn kg ku kr u4.2))))))))) hx hb hml hown hg (c_X1_countAway E l aG u5.1 u6 hu6) cy_X1_countAway ml_X8_164 ⟨⟨rfl, rfl⟩, Nat.le_of_ble_eq_true rfl, Nat.le_of_ble_eq_true rfl⟩ hK hE hP hD hS hA [false, false, true, true, true, true, true, true, true, true, true] rfl rfl rfl 2 rfl rfl rfl hl.1 rfl (Nat.le_of_ble_eq_true rfl) dX8_leave_59 ⟨Nat.le_of_ble_eq_true rfl, Nat.le_of_ble_eq_true rfl⟩ [.int u6] rfl (fun H locs hP hD hS => ?_)
    obtain rfl := Option.some.inj hf
    exact xm_yret (v := u6) rfl hx hb hr hlocks hP hS rfl dX8_leave_62 (Nat.le_of_ble_eq_true rfl) (Nat.le_of_ble_eq_true rfl)
  · have hf := ie cq hf
    obtain rfl := Option.some.inj hf
    exact xm_throw1 (is := 247) (i := 22) (text := "the guest is out") rfl hx hb hml hl.1 hst hown hg hE (List.mem_of_getElem? (i := 22) rfl) hout hlocks hP hS dX8_leave_19 dX8_leave_22 dX8_leave_23 dX8_leave_25 dX8_leave_28 (Nat.le_of_ble_eq_true rfl) (Nat.le_of_ble_eq_true rfl) (Nat.le_of_ble_eq_true rfl) (Nat.le_of_ble_eq_true rfl) (Nat.le_of_ble_eq_true rfl) (Nat.le_of_ble_eq_true rfl)
def F_X8_comeBack (vX : Nat → Int32) (vN : Nat → Int32) (vG : Nat → Nat → Int32) (vU : Nat → Nat → Int32) (vR : Nat → Nat → Int32) (vH : Nat → Int32) (vHV : Nat → NV) (x1 : Int32) : Option (Nat × Int32 × (Nat → Int32) × (Nat → Nat → Int32) × (Nat → Nat → Int32) × (Nat → Nat → Int32) × (Nat → Int32) × (Nat → NV)) := (F_X8_requireGuest vX vN vG x1).bind (fun u1 => if u1 = 0 then ((F_X1_isAway vG x1).bind (fun u2 => (if u2 = 0 then (some (1, 0, vN, vG, vU, vR, vH, vHV)) else (F_X8_requireRoomForEntry vX vN vR).bind (fun u3 => if u3 = 0 then ((F_X2_remember vN vG vU vR vH vHV).bind (fun u4 => (F_X3_letReturn vN vG vU vR x1).bind (fun u5 => (some (0, u5.1, u5.2.1, u5.2.2.1, u5.2.2.2.1, u5.2.2.2.2, u4.1, u4.2))))) else some (u3, 0, vN, vG, vU, vR, vH, vHV))))) else some (u1, 0, vN, vG, vU, vR, vH, vHV))
abbrev rm_X8_comeBack : Room := { frames := 7, cells := 2, slots := 12, locals := 123 }
set_option maxHeartbeats 4000000 in
set_option maxRecDepth 100000 in
theorem c_X8_comeBack (E : Ev) (l : Launch) (hst : l.stackTraces = false) (aX : Nat) (aB : Nat → Nat) (aBw : Nat → Nat) (aP : Nat) (aN : Nat) (aNd : Nat) (aH : Nat) (aQ : Nat) (aG : Nat → Nat) (aU : Nat → Nat) (aR : Nat → Nat) (aHA : Nat) (kn : Nat → Nat) (kg : Nat → Nat → Nat) (ku : Nat → Nat → Nat) (kr : Nat → Nat → Nat) (vX : Nat → Int32) (vN : Nat → Int32) (vG : Nat → Nat → Int32) (vU : Nat → Nat → Int32) (vR : Nat → Nat → Int32) (vH : Nat → Int32) (vHV : Nat → NV) (x1 : Int32) (r : Nat × Int32 × (Nat → Int32) × (Nat → Nat → Int32) × (Nat → Nat → Int32) × (Nat → Nat → Int32) × (Nat → Int32) × (Nat → NV)) (hf : F_X8_comeBack vX vN vG vU vR vH vHV x1 = some r) : XM E l yX8_comeBack (.code yX8_comeBack cX8_comeBack 2 (some .int) :: GA) rm_X8_comeBack [.ref aX, .int x1] (W_X aX aB aBw aP aN aNd aH aQ vX ++ (W_N aN aG aU aR vN ++ (W_G E aG vG ++ (W_U E aU vU ++ (W_R E aR vR ++ (W_H aH aHA vH ++ (W_NA E aHA 8 kn ++ (W_V8 E kn kg ku kr vHV)))))))) r.1 (some (.int r.2.1)) (W_X aX aB aBw aP aN aNd aH aQ vX ++ (W_N aN aG aU aR r.2.2.1 ++ (W_G E aG r.2.2.2.1 ++ (W_U E aU r.2.2.2.2.1 ++ (W_R E aR r.2.2.2.2.2.1 ++ (W_H aH aHA r.2.2.2.2.2.2.1 ++ (W_NA E aHA 8 kn ++ (W_V8 E kn kg ku kr r.2.2.2.2.2.2.2)))))))) 2 := by
  refine XM.of (own := RX8) rfl (by decide) (Nat.le_of_ble_eq_true rfl) ?_
  intro p e s m below meth c A ls hx hb hr hml hown hg hlocks hK hE hA hout hP hD hS hl
  have hl : lv_has ls 2 [(0, .ref aX), (1, .int x1)] := hl
  unfold F_X8_comeBack at hf
  refine lv_aload_n hx hb dX8_comeBack_0 rfl (lv_at hl 0 rfl) ?_
  refine lv_iload_n hx hb dX8_comeBack_1 rfl (lv_at hl 1 rfl) ?_
  obtain ⟨u1, hu1, hf⟩ := bn hf
  refine xm_V (As := [.int x1]) (rest := []) (w2 := (W_X aX aB aBw aP aN aNd aH aQ vX ++ (W_N aN aG aU aR vN ++ (W_G E aG vG ++ (W_U E aU vU ++ (W_R E aR vR ++ (W_H aH aHA vH ++ (W_NA E aHA 8 kn ++ (W_V8 E kn kg ku kr vHV))))))))) hx hb hml hown hg (c_X8_requireGuest E l hst aX aB aBw aP aN aNd aH aQ aG aU aR vX vN vG x1 u1 hu1) cy_X8_requireGuest ml_X8_124 ⟨⟨rfl, rfl⟩, Nat.le_of_ble_eq_true rfl, Nat.le_of_ble_eq_true rfl⟩ hK hE hP hD hS hA [true, true, true, true, true, true, true, true, true, true, true] rfl rfl rfl 0 rfl rfl rfl hl.1 rfl (Nat.le_of_ble_eq_true rfl) dX8_comeBack_2 ⟨Nat.le_of_ble_eq_true rfl, Nat.le_of_ble_eq_true rfl⟩ [] rfl (fun h0 H locs hP hD hS => ?_) (fun h0 H locs ce q9 hP hD hS hce hcv hcl => ?_)
  rotate_left
  · have hf := ie (Nat.pos_iff_ne_zero.mp h0) hf
    obtain rfl := Option.some.inj hf
    exact xm_out hout hlocks h0 hce hcv hcl hP hS (Nat.le_of_ble_eq_true rfl) (Nat.le_of_ble_eq_true rfl)
  have hf := it h0 hf
  refine lv_aload_n hx hb dX8_comeBack_5 rfl (lv_at hl 0 rfl) ?_
  refine gf_X8_31 hx hb hg hown hK hP 0 rfl rfl dX8_comeBack_6 ?_
  refine gf_X8_85 hx hb hg hown hK hP 1 rfl rfl dX8_comeBack_9 ?_
  refine lv_iload_n hx hb dX8_comeBack_12 rfl (lv_at hl 1 rfl) ?_
  obtain ⟨u2, hu2, hf⟩ := bn hf
  refine cm_V (As := [.int x1]) (rest := []) (w2 := (W_X aX aB aBw aP aN aNd aH aQ vX ++ (W_N aN aG aU aR vN ++ (W_G E aG vG ++ (W_U E aU vU ++ (W_R E aR vR ++ (W_H aH aHA vH ++ (W_NA E aHA 8 kn ++ (W_V8 E kn kg ku kr vHV))))))))) hx hb hml hown hg (c_X1_isAway E l aG vG x1 u2 hu2) cy_X1_isAway ml_X8_152 ⟨⟨rfl, rfl⟩, Nat.le_of_ble_eq_true rfl, Nat.le_of_ble_eq_true rfl⟩ hK hE hP hD hS hA [false, false, true, true, true, true, true, true, true, true, true] rfl rfl rfl 2 rfl rfl rfl hl.1 rfl (Nat.le_of_ble_eq_true rfl) dX8_comeBack_13 ⟨Nat.le_of_ble_eq_true rfl, Nat.le_of_ble_eq_true rfl⟩ [.int u2] rfl (fun H locs hP hD hS => ?_)
  refine lv_if_ne (tgt := 29) hx hb dX8_comeBack_16 (by decide) (fun cq => ?_) (fun cq => ?_)
  · have hf := ie cq hf
    refine lv_aload_n hx hb dX8_comeBack_29 rfl (lv_at hl 0 rfl) ?_
    obtain ⟨u3, hu3, hf⟩ := bn hf
    refine xm_V (As := []) (rest := []) (w2 := (W_X aX aB aBw aP aN aNd aH aQ vX ++ (W_N aN aG aU aR vN ++ (W_G E aG vG ++ (W_U E aU vU ++ (W_R E aR vR ++ (W_H aH aHA vH ++ (W_NA E aHA 8 kn ++ (W_V8 E kn kg ku kr vHV))))))))) hx hb hml hown hg (c_X8_requireRoomForEntry E l hst aX aB aBw aP aN aNd aH aQ aG aU aR vX vN vR u3 hu3) cy_X8_requireRoomForEntry ml_X8_286 ⟨⟨rfl, rfl⟩, Nat.le_of_ble_eq_true rfl, Nat.le_of_ble_eq_true rfl⟩ hK hE hP hD hS hA [true, true, false, false, false, false, false, false, false, false, false, false, false, false, false, true, true, true, true] rfl rfl rfl 0 rfl rfl rfl hl.1 rfl (Nat.le_of_ble_eq_true rfl) dX8_comeBack_30 ⟨Nat.le_of_ble_eq_true rfl, Nat.le_of_ble_eq_true rfl⟩ [] rfl (fun h0 H locs hP hD hS => ?_) (fun h0 H locs ce q9 hP hD hS hce hcv hcl => ?_)
    rotate_left
    · have hf := ie (Nat.pos_iff_ne_zero.mp h0) hf
      obtain rfl := Option.some.inj hf
      exact xm_out hout hlocks h0 hce hcv hcl hP hS (Nat.le_of_ble_eq_true rfl) (Nat.le_of_ble_eq_true rfl)
    have hf := it h0 hf
    refine lv_aload_n hx hb dX8_comeBack_33 rfl (lv_at hl 0 rfl) ?_
    refine gf_X8_41 hx hb hg hown hK hP 0 rfl rfl dX8_comeBack_34 ?_
    refine lv_aload_n hx hb dX8_comeBack_37 rfl (lv_at hl 0 rfl) ?_
    refine gf_X8_31 hx hb hg hown hK hP 0 rfl rfl dX8_comeBack_38 ?_
    obtain ⟨u4, hu4, hf⟩ := bn hf
    refine cm_V (As := [.ref aN]) (rest := []) (w2 := (W_X aX aB aBw aP aN aNd aH aQ vX ++ (W_N aN aG aU aR vN ++ (W_G E aG vG ++ (W_U E aU vU ++ (W_R E aR vR ++ (W_H aH aHA u4.1 ++ (W_NA E aHA 8 kn ++ (W_V8 E kn kg ku kr u4.2))))))))) hx hb hml hown hg (c_X2_remember E l aN aG aU aR aH aHA kn kg ku kr vN vG vU vR vH vHV u4 hu4) cy_X2_remember ml_X8_274 ⟨⟨rfl, rfl⟩, Nat.le_of_ble_eq_true rfl, Nat.le_of_ble_eq_true rfl⟩ hK hE hP hD hS hA [false, true, true, true, true, true, true, true, true, true, true, true, true, true, true, true, true, true, true, true, true, true, true, true, true, true, true, true, true, true, true, true, true, true, true, true, true, true, true, true, true, true, true, true, true, true, true, true, true, true, true, true, true, true, true, true, true, true, true, true, true, true, true, true, true, true, true, true, true, true, true, true, true, true, true, true, true, true, true, true, true, true, true, true, true, true, true, true, true, true, true, true, true, true, true, true, true, true, true, true, true, true, true, true, true, true, true, true, true, true, true, true, true, true, true, true, true, true, true, true, true, true, true, true, true, true, true, true, true, true, true, true, true, true, true, true, true, true, true, true, true, true, true, true, true, true, true, true, true, true, true, true, true, true, true, true, true, true, true, true, true, true, true, true, true] rfl rfl rfl 19 rfl rfl rfl hl.1 rfl (Nat.le_of_ble_eq_true rfl) dX8_comeBack_41 ⟨Nat.le_of_ble_eq_true rfl, Nat.le_of_ble_eq_true rfl⟩ [] rfl (fun H locs hP hD hS => ?_)
    refine lv_aload_n hx hb dX8_comeBack_44 rfl (lv_at hl 0 rfl) ?_
    refine gf_X8_31 hx hb hg hown hK hP 0 rfl rfl dX8_comeBack_45 ?_
    refine lv_iload_n hx hb dX8_comeBack_48 rfl (lv_at hl 1 rfl) ?_
    obtain ⟨u5, hu5, hf⟩ := bn hf
    refine cm_V (As := [.int x1]) (rest := []) (w2 := (W_X aX aB aBw aP aN aNd aH aQ vX ++ (W_N aN aG aU aR u5.2.1 ++ (W_G E aG u5.2.2.1 ++ (W_U E aU u5.2.2.2.1 ++ (W_R E aR u5.2.2.2.2 ++ (W_H aH aHA u4.1 ++ (W_NA E aHA 8 kn ++ (W_V8 E kn kg ku kr u4.2))))))))) hx hb hml hown hg (c_X3_letReturn E l aN aG aU aR vN vG vU vR x1 u5 hu5) cy_X3_letReturn ml_X8_292 ⟨⟨rfl, rfl⟩, Nat.le_of_ble_eq_true rfl, Nat.le_of_ble_eq_true rfl⟩ hK hE hP hD hS hA [false, true, true, true, true, true, true, true, true, true, true, true, true, true, true, true, true, true, true] rfl rfl rfl 1 rfl rfl rfl hl.1 rfl (Nat.le_of_ble_eq_true rfl) dX8_comeBack_49 ⟨Nat.le_of_ble_eq_true rfl, Nat.le_of_ble_eq_true rfl⟩ [.int u5.1] rfl (fun H locs hP hD hS => ?_)
    obtain rfl := Option.some.inj hf
    exact xm_yret (v := u5.1) rfl hx hb hr hlocks hP hS rfl dX8_comeBack_52 (Nat.le_of_ble_eq_true rfl) (Nat.le_of_ble_eq_true rfl)
  · have hf := it cq hf
    obtain rfl := Option.some.inj hf
    exact xm_throw1 (is := 156) (i := 24) (text := "the guest is in") rfl hx hb hml hl.1 hst hown hg hE (List.mem_of_getElem? (i := 24) rfl) hout hlocks hP hS dX8_comeBack_19 dX8_comeBack_22 dX8_comeBack_23 dX8_comeBack_25 dX8_comeBack_28 (Nat.le_of_ble_eq_true rfl) (Nat.le_of_ble_eq_true rfl) (Nat.le_of_ble_eq_true rfl) (Nat.le_of_ble_eq_true rfl) (Nat.le_of_ble_eq_true rfl) (Nat.le_of_ble_eq_true rfl)
def B_X8_passMinutes_56 (rec : Int32 → Int32 → (Nat → Int32) → (Nat → Nat → Int32) → (Nat → Nat → Int32) → (Nat → Int32) → (Nat → NV) → Option (Nat × Int32 × (Nat → Int32) × (Nat → Nat → Int32) × (Nat → Nat → Int32) × (Nat → Int32) × (Nat → NV))) (vX : Nat → Int32) (vR : Nat → Nat → Int32) (x1 : Int32) (x2 : Int32) (x3 : Int32) (vN : Nat → Int32) (vG : Nat → Nat → Int32) (vU : Nat → Nat → Int32) (vH : Nat → Int32) (vHV : Nat → NV) : Option (Nat × Int32 × (Nat → Int32) × (Nat → Nat → Int32) × (Nat → Nat → Int32) × (Nat → Int32) × (Nat → NV)) := (if x1 ≤ x3 then (some (0, ((vN 4) - x2), vN, vG, vU, vH, vHV)) else (F_X3_passOne vN vG vU).bind (fun u1 => (rec x2 (x3 + 1) u1.1 u1.2.1 u1.2.2 vH vHV)))
def L_X8_passMinutes_56 (vX : Nat → Int32) (vR : Nat → Nat → Int32) (x1 : Int32) : Nat → Int32 → Int32 → (Nat → Int32) → (Nat → Nat → Int32) → (Nat → Nat → Int32) → (Nat → Int32) → (Nat → NV) → Option (Nat × Int32 × (Nat → Int32) × (Nat → Nat → Int32) × (Nat → Nat → Int32) × (Nat → Int32) × (Nat → NV))
  | 0 => fun _ _ _ _ _ _ _ => none
  | n + 1 => fun x2 x3 vN vG vU vH vHV => B_X8_passMinutes_56 (L_X8_passMinutes_56 vX vR x1 n) vX vR x1 x2 x3 vN vG vU vH vHV
def F_X8_passMinutes (vX : Nat → Int32) (vN : Nat → Int32) (vG : Nat → Nat → Int32) (vU : Nat → Nat → Int32) (vR : Nat → Nat → Int32) (vH : Nat → Int32) (vHV : Nat → NV) (x1 : Int32) : Option (Nat × Int32 × (Nat → Int32) × (Nat → Nat → Int32) × (Nat → Nat → Int32) × (Nat → Int32) × (Nat → NV)) := (F_X8_requireRange x1 1 240).bind (fun u1 => if u1 = 0 then ((if x1 ≤ (720 - (vN 0)) then (F_X2_remember vN vG vU vR vH vHV).bind (fun u2 => (L_X8_passMinutes_56 vX vR x1 FU (vN 4) 0 vN vG vU u2.1 u2.2)) else (some (1, 0, vN, vG, vU, vH, vHV)))) else some (u1, 0, vN, vG, vU, vH, vHV))
abbrev rm_X8_passMinutes : Room := { frames := 7, cells := 2, slots := 12, locals := 123 }
set_option maxHeartbeats 4000000 in
set_option maxRecDepth 100000 in
theorem c_X8_passMinutes (E : Ev) (l : Launch) (hst : l.stackTraces = false) (aX : Nat) (aB : Nat → Nat) (aBw : Nat → Nat) (aP : Nat) (aN : Nat) (aNd : Nat) (aH : Nat) (aQ : Nat) (aG : Nat → Nat) (aU : Nat → Nat) (aR : Nat → Nat) (aHA : Nat) (kn : Nat → Nat) (kg : Nat → Nat → Nat) (ku : Nat → Nat → Nat) (kr : Nat → Nat → Nat) (vX : Nat → Int32) (vN : Nat → Int32) (vG : Nat → Nat → Int32) (vU : Nat → Nat → Int32) (vR : Nat → Nat → Int32) (vH : Nat → Int32) (vHV : Nat → NV) (x1 : Int32) (r : Nat × Int32 × (Nat → Int32) × (Nat → Nat → Int32) × (Nat → Nat → Int32) × (Nat → Int32) × (Nat → NV)) (hf : F_X8_passMinutes vX vN vG vU vR vH vHV x1 = some r) : XM E l yX8_passMinutes (.code yX8_passMinutes cX8_passMinutes 4 (some .int) :: GA) rm_X8_passMinutes [.ref aX, .int x1] (W_X aX aB aBw aP aN aNd aH aQ vX ++ (W_N aN aG aU aR vN ++ (W_G E aG vG ++ (W_U E aU vU ++ (W_R E aR vR ++ (W_H aH aHA vH ++ (W_NA E aHA 8 kn ++ (W_V8 E kn kg ku kr vHV)))))))) r.1 (some (.int r.2.1)) (W_X aX aB aBw aP aN aNd aH aQ vX ++ (W_N aN aG aU aR r.2.2.1 ++ (W_G E aG r.2.2.2.1 ++ (W_U E aU r.2.2.2.2.1 ++ (W_R E aR vR ++ (W_H aH aHA r.2.2.2.2.2.1 ++ (W_NA E aHA 8 kn ++ (W_V8 E kn kg ku kr r.2.2.2.2.2.2)))))))) 2 := by
  refine XM.of (own := RX8) rfl (by decide) (Nat.le_of_ble_eq_true rfl) ?_
  intro p e s m below meth c A ls hx hb hr hml hown hg hlocks hK hE hA hout hP hD hS hl
  have hl : lv_has ls 4 [(0, .ref aX), (1, .int x1)] := hl
  have lp_56 : ∀ (n : Nat) (x2 : Int32) (x3 : Int32) (vN : Nat → Int32) (vG : Nat → Nat → Int32) (vU : Nat → Nat → Int32) (vH : Nat → Int32) (vHV : Nat → NV) (H : Heap) (locs : List Loc) (ls : Array Slot), L_X8_passMinutes_56 vX vR x1 n x2 x3 vN vG vU vH vHV = some r → va_P E.1 vwCl (W_X aX aB aBw aP aN aNd aH aQ vX ++ (W_N aN aG aU aR vN ++ (W_G E aG vG ++ (W_U E aU vU ++ (W_R E aR vR ++ (W_H aH aHA vH ++ (W_NA E aHA 8 kn ++ (W_V8 E kn kg ku kr vHV)))))))) H → va_D A (W_X aX aB aBw aP aN aNd aH aQ vX ++ (W_N aN aG aU aR vN ++ (W_G E aG vG ++ (W_U E aU vU ++ (W_R E aR vR ++ (W_H aH aHA vH ++ (W_NA E aHA 8 kn ++ (W_V8 E kn kg ku kr vHV)))))))) → va_S A s.heap H locs → lv_has ls 4 [(0, .ref aX), (1, .int x1), (2, .int x2), (3, .int x3)] → W p l e rm_X8_passMinutes s m ([.ref aX, .int x1] : List Value).toArray below meth c H locs (0 + 1) (0 + 6 * 1) (vx_MQ below (QX E r.1 (some (.int r.2.1)) (W_X aX aB aBw aP aN aNd aH aQ vX ++ (W_N aN aG aU aR r.2.2.1 ++ (W_G E aG r.2.2.2.1 ++ (W_U E aU r.2.2.2.2.1 ++ (W_R E aR vR ++ (W_H aH aHA r.2.2.2.2.2.1 ++ (W_NA E aHA 8 kn ++ (W_V8 E kn kg ku kr r.2.2.2.2.2.2)))))))) A) (XX E r.1 (W_X aX aB aBw aP aN aNd aH aQ vX ++ (W_N aN aG aU aR r.2.2.1 ++ (W_G E aG r.2.2.2.1 ++ (W_U E aU r.2.2.2.2.1 ++ (W_R E aR vR ++ (W_H aH aHA r.2.2.2.2.2.1 ++ (W_NA E aHA 8 kn ++ (W_V8 E kn kg ku kr r.2.2.2.2.2.2)))))))) A) ([.ref aX, .int x1] : List Value).toArray s 2 (6 * 2) A) (F0 m 56 ls []) := by
    intro n
    induction n with
    | zero => intro x2 x3 vN vG vU vH vHV H locs ls hf; cases hf
    | succ n ih =>
      intro x2 x3 vN vG vU vH vHV H locs ls hf hP hD hS hl
      replace hf : B_X8_passMinutes_56 (L_X8_passMinutes_56 vX vR x1 n) vX vR x1 x2 x3 vN vG vU vH vHV = some r := hf
      unfold B_X8_passMinutes_56 at hf
      refine lv_iload_n hx hb dX8_passMinutes_56 rfl (lv_at hl 3 rfl) ?_
      refine lv_iload_n hx hb dX8_passMinutes_57 rfl (lv_at hl 1 rfl) ?_
      refine lv_icmp_ge (tgt := 74) hx hb dX8_passMinutes_58 (by decide) (fun cq => ?_) (fun cq => ?_)
      · have hf := it cq hf
        refine lv_aload_n hx hb dX8_passMinutes_74 rfl (lv_at hl 0 rfl) ?_
        refine gf_X8_31 hx hb hg hown hK hP 0 rfl rfl dX8_passMinutes_75 ?_
        refine gf_X8_111 hx hb hg hown hK hP 1 rfl rfl dX8_passMinutes_78 ?_
        refine lv_iload_n hx hb dX8_passMinutes_81 rfl (lv_at hl 2 rfl) ?_
        refine lv_isub hx hb dX8_passMinutes_82 ?_
        obtain rfl := Option.some.inj hf
        exact xm_yret (v := ((vN 4) - x2)) rfl hx hb hr hlocks hP hS rfl dX8_passMinutes_83 (Nat.le_of_ble_eq_true rfl) (Nat.le_of_ble_eq_true rfl)
      · have hf := ie cq hf
        refine lv_aload_n hx hb dX8_passMinutes_61 rfl (lv_at hl 0 rfl) ?_
        refine gf_X8_31 hx hb hg hown hK hP 0 rfl rfl dX8_passMinutes_62 ?_
        obtain ⟨u1, hu1, hf⟩ := bn hf
        refine cm_V (As := []) (rest := []) (w2 := (W_X aX aB aBw aP aN aNd aH aQ vX ++ (W_N aN aG aU aR u1.1 ++ (W_G E aG u1.2.1 ++ (W_U E aU u1.2.2 ++ (W_R E aR vR ++ (W_H aH aHA vH ++ (W_NA E aHA 8 kn ++ (W_V8 E kn kg ku kr vHV))))))))) hx hb hml hown hg (c_X3_passOne E l aN aG aU aR vN vG vU u1 hu1) cy_X3_passOne ml_X8_297 ⟨⟨rfl, rfl⟩, Nat.le_of_ble_eq_true rfl, Nat.le_of_ble_eq_true rfl⟩ hK hE hP hD hS hA [false, true, true, true, true, true, true, true, true, true, true, true, true, true, true] rfl rfl rfl 1 rfl rfl rfl hl.1 rfl (Nat.le_of_ble_eq_true rfl) dX8_passMinutes_65 ⟨Nat.le_of_ble_eq_true rfl, Nat.le_of_ble_eq_true rfl⟩ [] rfl (fun H locs hP hD hS => ?_)
        refine lv_iinc (v := (x3 + 1)) (lv' := [(3, .int (x3 + 1)), (0, .ref aX), (1, .int x1), (2, .int x2)]) hx hb dX8_passMinutes_68 hl (k := 3) rfl rfl (by decide) rfl (fun ls hl => ?_)
        refine lv_goto (tgt := 56) hx hb dX8_passMinutes_71 (by decide) ?_
        exact ih _ _ _ _ _ _ _ _ _ _ hf hP hD hS (lv_sub hl [1, 2, 3, 0] rfl)
  unfold F_X8_passMinutes at hf
  refine lv_aload_n hx hb dX8_passMinutes_0 rfl (lv_at hl 0 rfl) ?_
  refine lv_iload_n hx hb dX8_passMinutes_1 rfl (lv_at hl 1 rfl) ?_
  refine lv_iconst (v := 1) hx hb dX8_passMinutes_2 (by decide) ?_
  refine lv_sipush (v := 240) hx hb dX8_passMinutes_3 (by decide) ?_
  obtain ⟨u1, hu1, hf⟩ := bn hf
  refine xm_V (As := [.int x1, .int 1, .int 240]) (rest := []) (w2 := (W_X aX aB aBw aP aN aNd aH aQ vX ++ (W_N aN aG aU aR vN ++ (W_G E aG vG ++ (W_U E aU vU ++ (W_R E aR vR ++ (W_H aH aHA vH ++ (W_NA E aHA 8 kn ++ (W_V8 E kn kg ku kr vHV))))))))) hx hb hml hown hg (c_X8_requireRange E l hst aX x1 1 240 u1 hu1) cy_X8_requireRange ml_X8_257 ⟨⟨rfl, rfl⟩, Nat.le_of_ble_eq_true rfl, Nat.le_of_ble_eq_true rfl⟩ hK hE hP hD hS hA [] rfl rfl rfl 0 rfl rfl rfl hl.1 rfl (Nat.le_of_ble_eq_true rfl) dX8_passMinutes_6 ⟨Nat.le_of_ble_eq_true rfl, Nat.le_of_ble_eq_true rfl⟩ [] rfl (fun h0 H locs hP hD hS => ?_) (fun h0 H locs ce q9 hP hD hS hce hcv hcl => ?_)
  rotate_left
  · have hf := ie (Nat.pos_iff_ne_zero.mp h0) hf
    obtain rfl := Option.some.inj hf
    exact xm_out hout hlocks h0 hce hcv hcl hP hS (Nat.le_of_ble_eq_true rfl) (Nat.le_of_ble_eq_true rfl)
  have hf := it h0 hf
  refine lv_iload_n hx hb dX8_passMinutes_9 rfl (lv_at hl 1 rfl) ?_
  refine lv_sipush (v := 720) hx hb dX8_passMinutes_10 (by decide) ?_
  refine lv_aload_n hx hb dX8_passMinutes_13 rfl (lv_at hl 0 rfl) ?_
  refine gf_X8_31 hx hb hg hown hK hP 0 rfl rfl dX8_passMinutes_14 ?_
  refine gf_X8_99 hx hb hg hown hK hP 1 rfl rfl dX8_passMinutes_17 ?_
  refine lv_isub hx hb dX8_passMinutes_20 ?_
  refine lv_icmp_le (tgt := 35) hx hb dX8_passMinutes_21 (by decide) (fun cq => ?_) (fun cq => ?_)
  · have hf := it cq hf
    refine lv_aload_n hx hb dX8_passMinutes_35 rfl (lv_at hl 0 rfl) ?_
    refine gf_X8_41 hx hb hg hown hK hP 0 rfl rfl dX8_passMinutes_36 ?_
    refine lv_aload_n hx hb dX8_passMinutes_39 rfl (lv_at hl 0 rfl) ?_
    refine gf_X8_31 hx hb hg hown hK hP 0 rfl rfl dX8_passMinutes_40 ?_
    obtain ⟨u2, hu2, hf⟩ := bn hf
    refine cm_V (As := [.ref aN]) (rest := []) (w2 := (W_X aX aB aBw aP aN aNd aH aQ vX ++ (W_N aN aG aU aR vN ++ (W_G E aG vG ++ (W_U E aU vU ++ (W_R E aR vR ++ (W_H aH aHA u2.1 ++ (W_NA E aHA 8 kn ++ (W_V8 E kn kg ku kr u2.2))))))))) hx hb hml hown hg (c_X2_remember E l aN aG aU aR aH aHA kn kg ku kr vN vG vU vR vH vHV u2 hu2) cy_X2_remember ml_X8_274 ⟨⟨rfl, rfl⟩, Nat.le_of_ble_eq_true rfl, Nat.le_of_ble_eq_true rfl⟩ hK hE hP hD hS hA [false, true, true, true, true, true, true, true, true, true, true, true, true, true, true, true, true, true, true, true, true, true, true, true, true, true, true, true, true, true, true, true, true, true, true, true, true, true, true, true, true, true, true, true, true, true, true, true, true, true, true, true, true, true, true, true, true, true, true, true, true, true, true, true, true, true, true, true, true, true, true, true, true, true, true, true, true, true, true, true, true, true, true, true, true, true, true, true, true, true, true, true, true, true, true, true, true, true, true, true, true, true, true, true, true, true, true, true, true, true, true, true, true, true, true, true, true, true, true, true, true, true, true, true, true, true, true, true, true, true, true, true, true, true, true, true, true, true, true, true, true, true, true, true, true, true, true, true, true, true, true, true, true, true, true, true, true, true, true, true, true, true, true, true, true] rfl rfl rfl 19 rfl rfl rfl hl.1 rfl (Nat.le_of_ble_eq_true rfl) dX8_passMinutes_43 ⟨Nat.le_of_ble_eq_true rfl, Nat.le_of_ble_eq_true rfl⟩ [] rfl (fun H locs hP hD hS => ?_)
    refine lv_aload_n hx hb dX8_passMinutes_46 rfl (lv_at hl 0 rfl) ?_
    refine gf_X8_31 hx hb hg hown hK hP 0 rfl rfl dX8_passMinutes_47 ?_
    refine gf_X8_111 hx hb hg hown hK hP 1 rfl rfl dX8_passMinutes_50 ?_
    refine lv_istore_n (lv' := [(2, .int (vN 4)), (0, .ref aX), (1, .int x1)]) hx hb dX8_passMinutes_53 rfl hl (by decide) rfl (fun ls hl => ?_)
    refine lv_iconst (v := 0) hx hb dX8_passMinutes_54 (by decide) ?_
    refine lv_istore_n (lv' := [(3, .int 0), (2, .int (vN 4)), (0, .ref aX), (1, .int x1)]) hx hb dX8_passMinutes_55 rfl hl (by decide) rfl (fun ls hl => ?_)
    exact lp_56 FU _ _ _ _ _ _ _ _ _ _ hf hP hD hS (lv_sub hl [2, 3, 1, 0] rfl)
  · have hf := ie cq hf
    obtain rfl := Option.some.inj hf
    exact xm_throw1W (is := 295) (i := 25) (text := "the night is too short") rfl hx hb hml hl.1 hst hown hg hE (List.mem_of_getElem? (i := 25) rfl) hout hlocks hP hS dX8_passMinutes_24 dX8_passMinutes_27 dX8_passMinutes_28 dX8_passMinutes_31 dX8_passMinutes_34 (Nat.le_of_ble_eq_true rfl) (Nat.le_of_ble_eq_true rfl) (Nat.le_of_ble_eq_true rfl) (Nat.le_of_ble_eq_true rfl) (Nat.le_of_ble_eq_true rfl) (Nat.le_of_ble_eq_true rfl)
def F_X8_walkDog (vX : Nat → Int32) (vN : Nat → Int32) (vG : Nat → Nat → Int32) (vU : Nat → Nat → Int32) (vR : Nat → Nat → Int32) (vH : Nat → Int32) (vHV : Nat → NV) (x1 : Int32) : Option (Nat × Int32 × (Nat → Nat → Int32) × (Nat → Int32) × (Nat → NV)) := (F_X8_requireGuest vX vN vG x1).bind (fun u1 => if u1 = 0 then ((F_X1_isAway vG x1).bind (fun u2 => (if u2 = 0 then (some (1, 0, vG, vH, vHV)) else ck x1 10 ((if (vG 4 (Int32.toNatClampNeg x1)) = 0 then (some (1, 0, vG, vH, vHV)) else (F_X2_remember vN vG vU vR vH vHV).bind (fun u3 => (F_X1_walkAt vG x1 (vN 0)).bind (fun u4 => (some (0, u4.1, u4.2, u3.1, u3.2))))))))) else some (u1, 0, vG, vH, vHV))
abbrev rm_X8_walkDog : Room := { frames := 7, cells := 2, slots := 12, locals := 123 }
set_option maxHeartbeats 4000000 in
set_option maxRecDepth 100000 in
theorem c_X8_walkDog (E : Ev) (l : Launch) (hst : l.stackTraces = false) (aX : Nat) (aB : Nat → Nat) (aBw : Nat → Nat) (aP : Nat) (aN : Nat) (aNd : Nat) (aH : Nat) (aQ : Nat) (aG : Nat → Nat) (aU : Nat → Nat) (aR : Nat → Nat) (aHA : Nat) (kn : Nat → Nat) (kg : Nat → Nat → Nat) (ku : Nat → Nat → Nat) (kr : Nat → Nat → Nat) (vX : Nat → Int32) (vN : Nat → Int32) (vG : Nat → Nat → Int32) (vU : Nat → Nat → Int32) (vR : Nat → Nat → Int32) (vH : Nat → Int32) (vHV : Nat → NV) (x1 : Int32) (r : Nat × Int32 × (Nat → Nat → Int32) × (Nat → Int32) × (Nat → NV)) (hf : F_X8_walkDog vX vN vG vU vR vH vHV x1 = some r) : XM E l yX8_walkDog (.code yX8_walkDog cX8_walkDog 2 (some .int) :: GA) rm_X8_walkDog [.ref aX, .int x1] (W_X aX aB aBw aP aN aNd aH aQ vX ++ (W_N aN aG aU aR vN ++ (W_G E aG vG ++ (W_U E aU vU ++ (W_R E aR vR ++ (W_H aH aHA vH ++ (W_NA E aHA 8 kn ++ (W_V8 E kn kg ku kr vHV)))))))) r.1 (some (.int r.2.1)) (W_X aX aB aBw aP aN aNd aH aQ vX ++ (W_N aN aG aU aR vN ++ (W_G E aG r.2.2.1 ++ (W_U E aU vU ++ (W_R E aR vR ++ (W_H aH aHA r.2.2.2.1 ++ (W_NA E aHA 8 kn ++ (W_V8 E kn kg ku kr r.2.2.2.2)))))))) 2 := by
  refine XM.of (own := RX8) rfl (by decide) (Nat.le_of_ble_eq_true rfl) ?_
  intro p e s m below meth c A ls hx hb hr hml hown hg hlocks hK hE hA hout hP hD hS hl
  have hl : lv_has ls 2 [(0, .ref aX), (1, .int x1)] := hl
  unfold F_X8_walkDog at hf
  refine lv_aload_n hx hb dX8_walkDog_0 rfl (lv_at hl 0 rfl) ?_
  refine lv_iload_n hx hb dX8_walkDog_1 rfl (lv_at hl 1 rfl) ?_
  obtain ⟨u1, hu1, hf⟩ := bn hf
  refine xm_V (As := [.int x1]) (rest := []) (w2 := (W_X aX aB aBw aP aN aNd aH aQ vX ++ (W_N aN aG aU aR vN ++ (W_G E aG vG ++ (W_U E aU vU ++ (W_R E aR vR ++ (W_H aH aHA vH ++ (W_NA E aHA 8 kn ++ (W_V8 E kn kg ku kr vHV))))))))) hx hb hml hown hg (c_X8_requireGuest E l hst aX aB aBw aP aN aNd aH aQ aG aU aR vX vN vG x1 u1 hu1) cy_X8_requireGuest ml_X8_124 ⟨⟨rfl, rfl⟩, Nat.le_of_ble_eq_true rfl, Nat.le_of_ble_eq_true rfl⟩ hK hE hP hD hS hA [true, true, true, true, true, true, true, true, true, true, true] rfl rfl rfl 0 rfl rfl rfl hl.1 rfl (Nat.le_of_ble_eq_true rfl) dX8_walkDog_2 ⟨Nat.le_of_ble_eq_true rfl, Nat.le_of_ble_eq_true rfl⟩ [] rfl (fun h0 H locs hP hD hS => ?_) (fun h0 H locs ce q9 hP hD hS hce hcv hcl => ?_)
  rotate_left
  · have hf := ie (Nat.pos_iff_ne_zero.mp h0) hf
    obtain rfl := Option.some.inj hf
    exact xm_out hout hlocks h0 hce hcv hcl hP hS (Nat.le_of_ble_eq_true rfl) (Nat.le_of_ble_eq_true rfl)
  have hf := it h0 hf
  refine lv_aload_n hx hb dX8_walkDog_5 rfl (lv_at hl 0 rfl) ?_
  refine gf_X8_31 hx hb hg hown hK hP 0 rfl rfl dX8_walkDog_6 ?_
  refine gf_X8_85 hx hb hg hown hK hP 1 rfl rfl dX8_walkDog_9 ?_
  refine lv_iload_n hx hb dX8_walkDog_12 rfl (lv_at hl 1 rfl) ?_
  obtain ⟨u2, hu2, hf⟩ := bn hf
  refine cm_V (As := [.int x1]) (rest := []) (w2 := (W_X aX aB aBw aP aN aNd aH aQ vX ++ (W_N aN aG aU aR vN ++ (W_G E aG vG ++ (W_U E aU vU ++ (W_R E aR vR ++ (W_H aH aHA vH ++ (W_NA E aHA 8 kn ++ (W_V8 E kn kg ku kr vHV))))))))) hx hb hml hown hg (c_X1_isAway E l aG vG x1 u2 hu2) cy_X1_isAway ml_X8_152 ⟨⟨rfl, rfl⟩, Nat.le_of_ble_eq_true rfl, Nat.le_of_ble_eq_true rfl⟩ hK hE hP hD hS hA [false, false, true, true, true, true, true, true, true, true, true] rfl rfl rfl 2 rfl rfl rfl hl.1 rfl (Nat.le_of_ble_eq_true rfl) dX8_walkDog_13 ⟨Nat.le_of_ble_eq_true rfl, Nat.le_of_ble_eq_true rfl⟩ [.int u2] rfl (fun H locs hP hD hS => ?_)
  refine lv_if_ne (tgt := 29) hx hb dX8_walkDog_16 (by decide) (fun cq => ?_) (fun cq => ?_)
  · have hf := ie cq hf
    refine lv_aload_n hx hb dX8_walkDog_29 rfl (lv_at hl 0 rfl) ?_
    refine gf_X8_31 hx hb hg hown hK hP 0 rfl rfl dX8_walkDog_30 ?_
    refine gf_X8_85 hx hb hg hown hK hP 1 rfl rfl dX8_walkDog_33 ?_
    refine gf_X8_149 hx hb hg hown hK hP 2 rfl rfl dX8_walkDog_36 ?_
    refine lv_iload_n hx hb dX8_walkDog_39 rfl (lv_at hl 1 rfl) ?_
    obtain ⟨hi, hf⟩ := ck_o hf
    refine ar_ld hx hb hK hP 6 rfl hi dX8_walkDog_40 ?_
    refine lv_if_ne (tgt := 55) hx hb dX8_walkDog_41 (by decide) (fun cq => ?_) (fun cq => ?_)
    · have hf := ie cq hf
      refine lv_aload_n hx hb dX8_walkDog_55 rfl (lv_at hl 0 rfl) ?_
      refine gf_X8_41 hx hb hg hown hK hP 0 rfl rfl dX8_walkDog_56 ?_
      refine lv_aload_n hx hb dX8_walkDog_59 rfl (lv_at hl 0 rfl) ?_
      refine gf_X8_31 hx hb hg hown hK hP 0 rfl rfl dX8_walkDog_60 ?_
      obtain ⟨u3, hu3, hf⟩ := bn hf
      refine cm_V (As := [.ref aN]) (rest := []) (w2 := (W_X aX aB aBw aP aN aNd aH aQ vX ++ (W_N aN aG aU aR vN ++ (W_G E aG vG ++ (W_U E aU vU ++ (W_R E aR vR ++ (W_H aH aHA u3.1 ++ (W_NA E aHA 8 kn ++ (W_V8 E kn kg ku kr u3.2))))))))) hx hb hml hown hg (c_X2_remember E l aN aG aU aR aH aHA kn kg ku kr vN vG vU vR vH vHV u3 hu3) cy_X2_remember ml_X8_274 ⟨⟨rfl, rfl⟩, Nat.le_of_ble_eq_true rfl, Nat.le_of_ble_eq_true rfl⟩ hK hE hP hD hS hA [false, true, true, true, true, true, true, true, true, true, true, true, true, true, true, true, true, true, true, true, true, true, true, true, true, true, true, true, true, true, true, true, true, true, true, true, true, true, true, true, true, true, true, true, true, true, true, true, true, true, true, true, true, true, true, true, true, true, true, true, true, true, true, true, true, true, true, true, true, true, true, true, true, true, true, true, true, true, true, true, true, true, true, true, true, true, true, true, true, true, true, true, true, true, true, true, true, true, true, true, true, true, true, true, true, true, true, true, true, true, true, true, true, true, true, true, true, true, true, true, true, true, true, true, true, true, true, true, true, true, true, true, true, true, true, true, true, true, true, true, true, true, true, true, true, true, true, true, true, true, true, true, true, true, true, true, true, true, true, true, true, true, true, true, true] rfl rfl rfl 19 rfl rfl rfl hl.1 rfl (Nat.le_of_ble_eq_true rfl) dX8_walkDog_63 ⟨Nat.le_of_ble_eq_true rfl, Nat.le_of_ble_eq_true rfl⟩ [] rfl (fun H locs hP hD hS => ?_)
      refine lv_aload_n hx hb dX8_walkDog_66 rfl (lv_at hl 0 rfl) ?_
      refine gf_X8_31 hx hb hg hown hK hP 0 rfl rfl dX8_walkDog_67 ?_
      refine gf_X8_85 hx hb hg hown hK hP 1 rfl rfl dX8_walkDog_70 ?_
      refine lv_iload_n hx hb dX8_walkDog_73 rfl (lv_at hl 1 rfl) ?_
      refine lv_aload_n hx hb dX8_walkDog_74 rfl (lv_at hl 0 rfl) ?_
      refine gf_X8_31 hx hb hg hown hK hP 0 rfl rfl dX8_walkDog_75 ?_
      refine gf_X8_99 hx hb hg hown hK hP 1 rfl rfl dX8_walkDog_78 ?_
      obtain ⟨u4, hu4, hf⟩ := bn hf
      refine cm_V (As := [.int x1, .int (vN 0)]) (rest := []) (w2 := (W_X aX aB aBw aP aN aNd aH aQ vX ++ (W_N aN aG aU aR vN ++ (W_G E aG u4.2 ++ (W_U E aU vU ++ (W_R E aR vR ++ (W_H aH aHA u3.1 ++ (W_NA E aHA 8 kn ++ (W_V8 E kn kg ku kr u3.2))))))))) hx hb hml hown hg (c_X1_walkAt E l aG vG x1 (vN 0) u4 hu4) cy_X1_walkAt ml_X8_302 ⟨⟨rfl, rfl⟩, Nat.le_of_ble_eq_true rfl, Nat.le_of_ble_eq_true rfl⟩ hK hE hP hD hS hA [false, false, true, true, true, true, true, true, true, true, true] rfl rfl rfl 2 rfl rfl rfl hl.1 rfl (Nat.le_of_ble_eq_true rfl) dX8_walkDog_81 ⟨Nat.le_of_ble_eq_true rfl, Nat.le_of_ble_eq_true rfl⟩ [.int u4.1] rfl (fun H locs hP hD hS => ?_)
      obtain rfl := Option.some.inj hf
      exact xm_yret (v := u4.1) rfl hx hb hr hlocks hP hS rfl dX8_walkDog_84 (Nat.le_of_ble_eq_true rfl) (Nat.le_of_ble_eq_true rfl)
    · have hf := it cq hf
      obtain rfl := Option.some.inj hf
      exact xm_throw1W (is := 300) (i := 26) (text := "the guest has no dog") rfl hx hb hml hl.1 hst hown hg hE (List.mem_of_getElem? (i := 26) rfl) hout hlocks hP hS dX8_walkDog_44 dX8_walkDog_47 dX8_walkDog_48 dX8_walkDog_51 dX8_walkDog_54 (Nat.le_of_ble_eq_true rfl) (Nat.le_of_ble_eq_true rfl) (Nat.le_of_ble_eq_true rfl) (Nat.le_of_ble_eq_true rfl) (Nat.le_of_ble_eq_true rfl) (Nat.le_of_ble_eq_true rfl)
  · have hf := it cq hf
    obtain rfl := Option.some.inj hf
    exact xm_throw1 (is := 156) (i := 24) (text := "the guest is in") rfl hx hb hml hl.1 hst hown hg hE (List.mem_of_getElem? (i := 24) rfl) hout hlocks hP hS dX8_walkDog_19 dX8_walkDog_22 dX8_walkDog_23 dX8_walkDog_25 dX8_walkDog_28 (Nat.le_of_ble_eq_true rfl) (Nat.le_of_ble_eq_true rfl) (Nat.le_of_ble_eq_true rfl) (Nat.le_of_ble_eq_true rfl) (Nat.le_of_ble_eq_true rfl) (Nat.le_of_ble_eq_true rfl)
def F_X8_setRain (vX : Nat → Int32) (vN : Nat → Int32) (vG : Nat → Nat → Int32) (vU : Nat → Nat → Int32) (vR : Nat → Nat → Int32) (vH : Nat → Int32) (vHV : Nat → NV) (x1 : Int32) : Option (Nat × Int32 × (Nat → Int32) × (Nat → Int32) × (Nat → NV)) := (F_X8_requireRange x1 0 9).bind (fun u1 => if u1 = 0 then ((F_X2_remember vN vG vU vR vH vHV).bind (fun u2 => lt (va_up vN 1 x1) (fun vN_3 => (some (0, (vN 1), vN_3, u2.1, u2.2))))) else some (u1, 0, vN, vH, vHV))
abbrev rm_X8_setRain : Room := { frames := 7, cells := 1, slots := 6, locals := 123 }
set_option maxHeartbeats 4000000 in
set_option maxRecDepth 100000 in
theorem c_X8_setRain (E : Ev) (l : Launch) (hst : l.stackTraces = false) (aX : Nat) (aB : Nat → Nat) (aBw : Nat → Nat) (aP : Nat) (aN : Nat) (aNd : Nat) (aH : Nat) (aQ : Nat) (aG : Nat → Nat) (aU : Nat → Nat) (aR : Nat → Nat) (aHA : Nat) (kn : Nat → Nat) (kg : Nat → Nat → Nat) (ku : Nat → Nat → Nat) (kr : Nat → Nat → Nat) (vX : Nat → Int32) (vN : Nat → Int32) (vG : Nat → Nat → Int32) (vU : Nat → Nat → Int32) (vR : Nat → Nat → Int32) (vH : Nat → Int32) (vHV : Nat → NV) (x1 : Int32) (r : Nat × Int32 × (Nat → Int32) × (Nat → Int32) × (Nat → NV)) (hf : F_X8_setRain vX vN vG vU vR vH vHV x1 = some r) : XM E l yX8_setRain (.code yX8_setRain cX8_setRain 3 (some .int) :: GA) rm_X8_setRain [.ref aX, .int x1] (W_X aX aB aBw aP aN aNd aH aQ vX ++ (W_N aN aG aU aR vN ++ (W_G E aG vG ++ (W_U E aU vU ++ (W_R E aR vR ++ (W_H aH aHA vH ++ (W_NA E aHA 8 kn ++ (W_V8 E kn kg ku kr vHV)))))))) r.1 (some (.int r.2.1)) (W_X aX aB aBw aP aN aNd aH aQ vX ++ (W_N aN aG aU aR r.2.2.1 ++ (W_G E aG vG ++ (W_U E aU vU ++ (W_R E aR vR ++ (W_H aH aHA r.2.2.2.1 ++ (W_NA E aHA 8 kn ++ (W_V8 E kn kg ku kr r.2.2.2.2)))))))) 1 := by
  refine XM.of (own := RX8) rfl (by decide) (Nat.le_of_ble_eq_true rfl) ?_
  intro p e s m below meth c A ls hx hb hr hml hown hg hlocks hK hE hA hout hP hD hS hl
  have hl : lv_has ls 3 [(0, .ref aX), (1, .int x1)] := hl
  unfold F_X8_setRain at hf
  refine lv_aload_n hx hb dX8_setRain_0 rfl (lv_at hl 0 rfl) ?_
  refine lv_iload_n hx hb dX8_setRain_1 rfl (lv_at hl 1 rfl) ?_
  refine lv_iconst (v := 0) hx hb dX8_setRain_2 (by decide) ?_
  refine lv_bipush (v := 9) hx hb dX8_setRain_3 (by decide) ?_
  obtain ⟨u1, hu1, hf⟩ := bn hf
  refine xm_V (As := [.int x1, .int 0, .int 9]) (rest := []) (w2 := (W_X aX aB aBw aP aN aNd aH aQ vX ++ (W_N aN aG aU aR vN ++ (W_G E aG vG ++ (W_U E aU vU ++ (W_R E aR vR ++ (W_H aH aHA vH ++ (W_NA E aHA 8 kn ++ (W_V8 E kn kg ku kr vHV))))))))) hx hb hml hown hg (c_X8_requireRange E l hst aX x1 0 9 u1 hu1) cy_X8_requireRange ml_X8_257 ⟨⟨rfl, rfl⟩, Nat.le_of_ble_eq_true rfl, Nat.le_of_ble_eq_true rfl⟩ hK hE hP hD hS hA [] rfl rfl rfl 0 rfl rfl rfl hl.1 rfl (Nat.le_of_ble_eq_true rfl) dX8_setRain_5 ⟨Nat.le_of_ble_eq_true rfl, Nat.le_of_ble_eq_true rfl⟩ [] rfl (fun h0 H locs hP hD hS => ?_) (fun h0 H locs ce q9 hP hD hS hce hcv hcl => ?_)
  rotate_left
  · have hf := ie (Nat.pos_iff_ne_zero.mp h0) hf
    obtain rfl := Option.some.inj hf
    exact xm_out hout hlocks h0 hce hcv hcl hP hS (Nat.le_of_ble_eq_true rfl) (Nat.le_of_ble_eq_true rfl)
  have hf := it h0 hf
  refine lv_aload_n hx hb dX8_setRain_8 rfl (lv_at hl 0 rfl) ?_
  refine gf_X8_41 hx hb hg hown hK hP 0 rfl rfl dX8_setRain_9 ?_
  refine lv_aload_n hx hb dX8_setRain_12 rfl (lv_at hl 0 rfl) ?_
  refine gf_X8_31 hx hb hg hown hK hP 0 rfl rfl dX8_setRain_13 ?_
  obtain ⟨u2, hu2, hf⟩ := bn hf
  refine cm_V (As := [.ref aN]) (rest := []) (w2 := (W_X aX aB aBw aP aN aNd aH aQ vX ++ (W_N aN aG aU aR vN ++ (W_G E aG vG ++ (W_U E aU vU ++ (W_R E aR vR ++ (W_H aH aHA u2.1 ++ (W_NA E aHA 8 kn ++ (W_V8 E kn kg ku kr u2.2))))))))) hx hb hml hown hg (c_X2_remember E l aN aG aU aR aH aHA kn kg ku kr vN vG vU vR vH vHV u2 hu2) cy_X2_remember ml_X8_274 ⟨⟨rfl, rfl⟩, Nat.le_of_ble_eq_true rfl, Nat.le_of_ble_eq_true rfl⟩ hK hE hP hD hS hA [false, true, true, true, true, true, true, true, true, true, true, true, true, true, true, true, true, true, true, true, true, true, true, true, true, true, true, true, true, true, true, true, true, true, true, true, true, true, true, true, true, true, true, true, true, true, true, true, true, true, true, true, true, true, true, true, true, true, true, true, true, true, true, true, true, true, true, true, true, true, true, true, true, true, true, true, true, true, true, true, true, true, true, true, true, true, true, true, true, true, true, true, true, true, true, true, true, true, true, true, true, true, true, true, true, true, true, true, true, true, true, true, true, true, true, true, true, true, true, true, true, true, true, true, true, true, true, true, true, true, true, true, true, true, true, true, true, true, true, true, true, true, true, true, true, true, true, true, true, true, true, true, true, true, true, true, true, true, true, true, true, true, true, true, true] rfl rfl rfl 19 rfl rfl rfl hl.1 rfl (Nat.le_of_ble_eq_true rfl) dX8_setRain_16 ⟨Nat.le_of_ble_eq_true rfl, Nat.le_of_ble_eq_true rfl⟩ [] rfl (fun H locs hP hD hS => ?_)
  refine lv_aload_n hx hb dX8_setRain_19 rfl (lv_at hl 0 rfl) ?_
  refine gf_X8_31 hx hb hg hown hK hP 0 rfl rfl dX8_setRain_20 ?_
  refine gf_X8_102 hx hb hg hown hK hP 1 rfl rfl dX8_setRain_23 ?_
  refine lv_istore_n (lv' := [(2, .int (vN 1)), (0, .ref aX), (1, .int x1)]) hx hb dX8_setRain_26 rfl hl (by decide) rfl (fun ls hl => ?_)
  refine lv_aload_n hx hb dX8_setRain_27 rfl (lv_at hl 1 rfl) ?_
  refine gf_X8_31 hx hb hg hown hK hP 0 rfl rfl dX8_setRain_28 ?_
  refine lv_iload_n hx hb dX8_setRain_31 rfl (lv_at hl 2 rfl) ?_
  refine pf_X8_102 (w2 := (W_X aX aB aBw aP aN aNd aH aQ vX ++ (W_N aN aG aU aR (va_up vN 1 x1) ++ (W_G E aG vG ++ (W_U E aU vU ++ (W_R E aR vR ++ (W_H aH aHA u2.1 ++ (W_NA E aHA 8 kn ++ (W_V8 E kn kg ku kr u2.2))))))))) hx hb hg hown hK hP hD hS 1 rfl (Nat.le_of_ble_eq_true rfl) rfl dX8_setRain_32 (fun H locs hP hD hS => ?_)
  obtain ⟨vN_3, hv, hf⟩ := lt_o hf
  rw [← hv] at hP hD
  clear hv
  refine lv_iload_n hx hb dX8_setRain_35 rfl (lv_at hl 0 rfl) ?_
  obtain rfl := Option.some.inj hf
  exact xm_yret (v := (vN 1)) rfl hx hb hr hlocks hP hS rfl dX8_setRain_36 (Nat.le_of_ble_eq_true rfl) (Nat.le_of_ble_eq_true rfl)
def F_X8_setNoiseLimit (vX : Nat → Int32) (vN : Nat → Int32) (vG : Nat → Nat → Int32) (vU : Nat → Nat → Int32) (vR : Nat → Nat → Int32) (vH : Nat → Int32) (vHV : Nat → NV) (x1 : Int32) : Option (Nat × Int32 × (Nat → Int32) × (Nat → Int32) × (Nat → NV)) := (F_X8_requireRange x1 0 999).bind (fun u1 => if u1 = 0 then ((F_X2_remember vN vG vU vR vH vHV).bind (fun u2 => lt (va_up vN 2 x1) (fun vN_3 => (some (0, (vN 2), vN_3, u2.1, u2.2))))) else some (u1, 0, vN, vH, vHV))
abbrev rm_X8_setNoiseLimit : Room := { frames := 7, cells := 1, slots := 6, locals := 123 }
set_option maxHeartbeats 4000000 in
set_option maxRecDepth 100000 in
theorem c_X8_setNoiseLimit (E : Ev) (l : Launch) (hst : l.stackTraces = false) (aX : Nat) (aB : Nat → Nat) (aBw : Nat → Nat) (aP : Nat) (aN : Nat) (aNd : Nat) (aH : Nat) (aQ : Nat) (aG : Nat → Nat) (aU : Nat → Nat) (aR : Nat → Nat) (aHA : Nat) (kn : Nat → Nat) (kg : Nat → Nat → Nat) (ku : Nat → Nat → Nat) (kr : Nat → Nat → Nat) (vX : Nat → Int32) (vN : Nat → Int32) (vG : Nat → Nat → Int32) (vU : Nat → Nat → Int32) (vR : Nat → Nat → Int32) (vH : Nat → Int32) (vHV : Nat → NV) (x1 : Int32) (r : Nat × Int32 × (Nat → Int32) × (Nat → Int32) × (Nat → NV)) (hf : F_X8_setNoiseLimit vX vN vG vU vR vH vHV x1 = some r) : XM E l yX8_setNoiseLimit (.code yX8_setNoiseLimit cX8_setNoiseLimit 3 (some .int) :: GA) rm_X8_setNoiseLimit [.ref aX, .int x1] (W_X aX aB aBw aP aN aNd aH aQ vX ++ (W_N aN aG aU aR vN ++ (W_G E aG vG ++ (W_U E aU vU ++ (W_R E aR vR ++ (W_H aH aHA vH ++ (W_NA E aHA 8 kn ++ (W_V8 E kn kg ku kr vHV)))))))) r.1 (some (.int r.2.1)) (W_X aX aB aBw aP aN aNd aH aQ vX ++ (W_N aN aG aU aR r.2.2.1 ++ (W_G E aG vG ++ (W_U E aU vU ++ (W_R E aR vR ++ (W_H aH aHA r.2.2.2.1 ++ (W_NA E aHA 8 kn ++ (W_V8 E kn kg ku kr r.2.2.2.2)))))))) 1 := by
  refine XM.of (own := RX8) rfl (by decide) (Nat.le_of_ble_eq_true rfl) ?_
  intro p e s m below meth c A ls hx hb hr hml hown hg hlocks hK hE hA hout hP hD hS hl
  have hl : lv_has ls 3 [(0, .ref aX), (1, .int x1)] := hl
  unfold F_X8_setNoiseLimit at hf
  refine lv_aload_n hx hb dX8_setNoiseLimit_0 rfl (lv_at hl 0 rfl) ?_
  refine lv_iload_n hx hb dX8_setNoiseLimit_1 rfl (lv_at hl 1 rfl) ?_
  refine lv_iconst (v := 0) hx hb dX8_setNoiseLimit_2 (by decide) ?_
  refine lv_sipush (v := 999) hx hb dX8_setNoiseLimit_3 (by decide) ?_
  obtain ⟨u1, hu1, hf⟩ := bn hf
  refine xm_V (As := [.int x1, .int 0, .int 999]) (rest := []) (w2 := (W_X aX aB aBw aP aN aNd aH aQ vX ++ (W_N aN aG aU aR vN ++ (W_G E aG vG ++ (W_U E aU vU ++ (W_R E aR vR ++ (W_H aH aHA vH ++ (W_NA E aHA 8 kn ++ (W_V8 E kn kg ku kr vHV))))))))) hx hb hml hown hg (c_X8_requireRange E l hst aX x1 0 999 u1 hu1) cy_X8_requireRange ml_X8_257 ⟨⟨rfl, rfl⟩, Nat.le_of_ble_eq_true rfl, Nat.le_of_ble_eq_true rfl⟩ hK hE hP hD hS hA [] rfl rfl rfl 0 rfl rfl rfl hl.1 rfl (Nat.le_of_ble_eq_true rfl) dX8_setNoiseLimit_6 ⟨Nat.le_of_ble_eq_true rfl, Nat.le_of_ble_eq_true rfl⟩ [] rfl (fun h0 H locs hP hD hS => ?_) (fun h0 H locs ce q9 hP hD hS hce hcv hcl => ?_)
  rotate_left
  · have hf := ie (Nat.pos_iff_ne_zero.mp h0) hf
    obtain rfl := Option.some.inj hf
    exact xm_out hout hlocks h0 hce hcv hcl hP hS (Nat.le_of_ble_eq_true rfl) (Nat.le_of_ble_eq_true rfl)
  have hf := it h0 hf
  refine lv_aload_n hx hb dX8_setNoiseLimit_9 rfl (lv_at hl 0 rfl) ?_
  refine gf_X8_41 hx hb hg hown hK hP 0 rfl rfl dX8_setNoiseLimit_10 ?_
  refine lv_aload_n hx hb dX8_setNoiseLimit_13 rfl (lv_at hl 0 rfl) ?_
  refine gf_X8_31 hx hb hg hown hK hP 0 rfl rfl dX8_setNoiseLimit_14 ?_
  obtain ⟨u2, hu2, hf⟩ := bn hf
  refine cm_V (As := [.ref aN]) (rest := []) (w2 := (W_X aX aB aBw aP aN aNd aH aQ vX ++ (W_N aN aG aU aR vN ++ (W_G E aG vG ++ (W_U E aU vU ++ (W_R E aR vR ++ (W_H aH aHA u2.1 ++ (W_NA E aHA 8 kn ++ (W_V8 E kn kg ku kr u2.2))))))))) hx hb hml hown hg (c_X2_remember E l aN aG aU aR aH aHA kn kg ku kr vN vG vU vR vH vHV u2 hu2) cy_X2_remember ml_X8_274 ⟨⟨rfl, rfl⟩, Nat.le_of_ble_eq_true rfl, Nat.le_of_ble_eq_true rfl⟩ hK hE hP hD hS hA [false, true, true, true, true, true, true, true, true, true, true, true, true, true, true, true, true, true, true, true, true, true, true, true, true, true, true, true, true, true, true, true, true, true, true, true, true, true, true, true, true, true, true, true, true, true, true, true, true, true, true, true, true, true, true, true, true, true, true, true, true, true, true, true, true, true, true, true, true, true, true, true, true, true, true, true, true, true, true, true, true, true, true, true, true, true, true, true, true, true, true, true, true, true, true, true, true, true, true, true, true, true, true, true, true, true, true, true, true, true, true, true, true, true, true, true, true, true, true, true, true, true, true, true, true, true, true, true, true, true, true, true, true, true, true, true, true, true, true, true, true, true, true, true, true, true, true, true, true, true, true, true, true, true, true, true, true, true, true, true, true, true, true, true, true] rfl rfl rfl 19 rfl rfl rfl hl.1 rfl (Nat.le_of_ble_eq_true rfl) dX8_setNoiseLimit_17 ⟨Nat.le_of_ble_eq_true rfl, Nat.le_of_ble_eq_true rfl⟩ [] rfl (fun H locs hP hD hS => ?_)
  refine lv_aload_n hx hb dX8_setNoiseLimit_20 rfl (lv_at hl 0 rfl) ?_
  refine gf_X8_31 hx hb hg hown hK hP 0 rfl rfl dX8_setNoiseLimit_21 ?_
  refine gf_X8_105 hx hb hg hown hK hP 1 rfl rfl dX8_setNoiseLimit_24 ?_
  refine lv_istore_n (lv' := [(2, .int (vN 2)), (0, .ref aX), (1, .int x1)]) hx hb dX8_setNoiseLimit_27 rfl hl (by decide) rfl (fun ls hl => ?_)
  refine lv_aload_n hx hb dX8_setNoiseLimit_28 rfl (lv_at hl 1 rfl) ?_
  refine gf_X8_31 hx hb hg hown hK hP 0 rfl rfl dX8_setNoiseLimit_29 ?_
  refine lv_iload_n hx hb dX8_setNoiseLimit_32 rfl (lv_at hl 2 rfl) ?_
  refine pf_X8_105 (w2 := (W_X aX aB aBw aP aN aNd aH aQ vX ++ (W_N aN aG aU aR (va_up vN 2 x1) ++ (W_G E aG vG ++ (W_U E aU vU ++ (W_R E aR vR ++ (W_H aH aHA u2.1 ++ (W_NA E aHA 8 kn ++ (W_V8 E kn kg ku kr u2.2))))))))) hx hb hg hown hK hP hD hS 1 rfl (Nat.le_of_ble_eq_true rfl) rfl dX8_setNoiseLimit_33 (fun H locs hP hD hS => ?_)
  obtain ⟨vN_3, hv, hf⟩ := lt_o hf
  rw [← hv] at hP hD
  clear hv
  refine lv_iload_n hx hb dX8_setNoiseLimit_36 rfl (lv_at hl 0 rfl) ?_
  obtain rfl := Option.some.inj hf
  exact xm_yret (v := (vN 2)) rfl hx hb hr hlocks hP hS rfl dX8_setNoiseLimit_37 (Nat.le_of_ble_eq_true rfl) (Nat.le_of_ble_eq_true rfl)
def F_X8_saveSnapshot (vX : Nat → Int32) (vN : Nat → Int32) (vG : Nat → Nat → Int32) (vU : Nat → Nat → Int32) (vR : Nat → Nat → Int32) (vQF : Nat → Int32) (vQV : Nat → NV) (x1 : Int32) : Option (Nat × Int32 × (Nat → Int32) × (Nat → NV)) := (F_X8_requireSlot x1).bind (fun u1 => if u1 = 0 then ((F_X6_put vN vG vU vR vQF vQV x1).bind (fun u2 => (some (0, (vN 0), u2.1, u2.2)))) else some (u1, 0, vQF, vQV))
abbrev rm_X8_saveSnapshot : Room := { frames := 7, cells := 1, slots := 6, locals := 124 }
set_option maxHeartbeats 4000000 in
set_option maxRecDepth 100000 in
theorem c_X8_saveSnapshot (E : Ev) (l : Launch) (hst : l.stackTraces = false) (aX : Nat) (aB : Nat → Nat) (aBw : Nat → Nat) (aP : Nat) (aN : Nat) (aNd : Nat) (aH : Nat) (aQ : Nat) (aG : Nat → Nat) (aU : Nat → Nat) (aR : Nat → Nat) (aQA : Nat) (aQF : Nat) (qn : Nat → Nat) (qg : Nat → Nat → Nat) (qu : Nat → Nat → Nat) (qr : Nat → Nat → Nat) (vX : Nat → Int32) (vN : Nat → Int32) (vG : Nat → Nat → Int32) (vU : Nat → Nat → Int32) (vR : Nat → Nat → Int32) (vQF : Nat → Int32) (vQV : Nat → NV) (x1 : Int32) (r : Nat × Int32 × (Nat → Int32) × (Nat → NV)) (hf : F_X8_saveSnapshot vX vN vG vU vR vQF vQV x1 = some r) : XM E l yX8_saveSnapshot (.code yX8_saveSnapshot cX8_saveSnapshot 2 (some .int) :: GA) rm_X8_saveSnapshot [.ref aX, .int x1] (W_X aX aB aBw aP aN aNd aH aQ vX ++ (W_N aN aG aU aR vN ++ (W_G E aG vG ++ (W_U E aU vU ++ (W_R E aR vR ++ (W_Q aQ aQA aQF ++ (W_NA E aQA 2 qn ++ (W_Z E aQF 2 vQF ++ (W_V2 E qn qg qu qr vQV))))))))) r.1 (some (.int r.2.1)) (W_X aX aB aBw aP aN aNd aH aQ vX ++ (W_N aN aG aU aR vN ++ (W_G E aG vG ++ (W_U E aU vU ++ (W_R E aR vR ++ (W_Q aQ aQA aQF ++ (W_NA E aQA 2 qn ++ (W_Z E aQF 2 r.2.2.1 ++ (W_V2 E qn qg qu qr r.2.2.2))))))))) 1 := by
  refine XM.of (own := RX8) rfl (by decide) (Nat.le_of_ble_eq_true rfl) ?_
  intro p e s m below meth c A ls hx hb hr hml hown hg hlocks hK hE hA hout hP hD hS hl
  have hl : lv_has ls 2 [(0, .ref aX), (1, .int x1)] := hl
  unfold F_X8_saveSnapshot at hf
  refine lv_aload_n hx hb dX8_saveSnapshot_0 rfl (lv_at hl 0 rfl) ?_
  refine lv_iload_n hx hb dX8_saveSnapshot_1 rfl (lv_at hl 1 rfl) ?_
  obtain ⟨u1, hu1, hf⟩ := bn hf
  refine xm_V (As := [.int x1]) (rest := []) (w2 := (W_X aX aB aBw aP aN aNd aH aQ vX ++ (W_N aN aG aU aR vN ++ (W_G E aG vG ++ (W_U E aU vU ++ (W_R E aR vR ++ (W_Q aQ aQA aQF ++ (W_NA E aQA 2 qn ++ (W_Z E aQF 2 vQF ++ (W_V2 E qn qg qu qr vQV)))))))))) hx hb hml hown hg (c_X8_requireSlot E l hst aX x1 u1 hu1) cy_X8_requireSlot ml_X8_311 ⟨⟨rfl, rfl⟩, Nat.le_of_ble_eq_true rfl, Nat.le_of_ble_eq_true rfl⟩ hK hE hP hD hS hA [] rfl rfl rfl 0 rfl rfl rfl hl.1 rfl (Nat.le_of_ble_eq_true rfl) dX8_saveSnapshot_2 ⟨Nat.le_of_ble_eq_true rfl, Nat.le_of_ble_eq_true rfl⟩ [] rfl (fun h0 H locs hP hD hS => ?_) (fun h0 H locs ce q9 hP hD hS hce hcv hcl => ?_)
  rotate_left
  · have hf := ie (Nat.pos_iff_ne_zero.mp h0) hf
    obtain rfl := Option.some.inj hf
    exact xm_out hout hlocks h0 hce hcv hcl hP hS (Nat.le_of_ble_eq_true rfl) (Nat.le_of_ble_eq_true rfl)
  have hf := it h0 hf
  refine lv_aload_n hx hb dX8_saveSnapshot_5 rfl (lv_at hl 0 rfl) ?_
  refine gf_X8_48 hx hb hg hown hK hP 0 rfl rfl dX8_saveSnapshot_6 ?_
  refine lv_iload_n hx hb dX8_saveSnapshot_9 rfl (lv_at hl 1 rfl) ?_
  refine lv_aload_n hx hb dX8_saveSnapshot_10 rfl (lv_at hl 0 rfl) ?_
  refine gf_X8_31 hx hb hg hown hK hP 0 rfl rfl dX8_saveSnapshot_11 ?_
  obtain ⟨u2, hu2, hf⟩ := bn hf
  refine cm_V (As := [.int x1, .ref aN]) (rest := []) (w2 := (W_X aX aB aBw aP aN aNd aH aQ vX ++ (W_N aN aG aU aR vN ++ (W_G E aG vG ++ (W_U E aU vU ++ (W_R E aR vR ++ (W_Q aQ aQA aQF ++ (W_NA E aQA 2 qn ++ (W_Z E aQF 2 u2.1 ++ (W_V2 E qn qg qu qr u2.2)))))))))) hx hb hml hown hg (c_X6_put E l aN aG aU aR aQ aQA aQF qn qg qu qr vN vG vU vR vQF vQV x1 u2 hu2) cy_X6_put ml_X8_314 ⟨⟨rfl, rfl⟩, Nat.le_of_ble_eq_true rfl, Nat.le_of_ble_eq_true rfl⟩ hK hE hP hD hS hA [false, true, true, true, true, true, true, true, true, true, true, true, true, true, true, true, true, true, true, true, true, true, true, true, true, true, true, true, true, true, true, true, true, true, true, true, true, true, true, true, true, true, true, true, true, true, true, true, true, true, true, true, true, true, true, true, true, true] rfl rfl rfl 19 rfl rfl rfl hl.1 rfl (Nat.le_of_ble_eq_true rfl) dX8_saveSnapshot_14 ⟨Nat.le_of_ble_eq_true rfl, Nat.le_of_ble_eq_true rfl⟩ [] rfl (fun H locs hP hD hS => ?_)
  refine lv_aload_n hx hb dX8_saveSnapshot_17 rfl (lv_at hl 0 rfl) ?_
  refine gf_X8_31 hx hb hg hown hK hP 0 rfl rfl dX8_saveSnapshot_18 ?_
  refine gf_X8_99 hx hb hg hown hK hP 1 rfl rfl dX8_saveSnapshot_21 ?_
  obtain rfl := Option.some.inj hf
  exact xm_yret (v := (vN 0)) rfl hx hb hr hlocks hP hS rfl dX8_saveSnapshot_24 (Nat.le_of_ble_eq_true rfl) (Nat.le_of_ble_eq_true rfl)
def F_X8_restoreSnapshot (vX : Nat → Int32) (vN : Nat → Int32) (vG : Nat → Nat → Int32) (vU : Nat → Nat → Int32) (vR : Nat → Nat → Int32) (vH : Nat → Int32) (vHV : Nat → NV) (vQF : Nat → Int32) (vQV : Nat → NV) (x1 : Int32) : Option (Nat × Int32 × (Nat → Int32) × (Nat → Nat → Int32) × (Nat → Nat → Int32) × (Nat → Nat → Int32) × (Nat → Int32) × (Nat → NV)) := (F_X8_requireSlot x1).bind (fun u1 => if u1 = 0 then (ck x1 2 ((if (vQF (Int32.toNatClampNeg x1)) = 0 then (some (3, 0, vN, vG, vU, vR, vH, vHV)) else (F_X2_remember vN vG vU vR vH vHV).bind (fun u2 => ck x1 2 (lt (Int32.toNatClampNeg x1) (fun j_3 => (F_X3_copyFrom vN vG vU vR ((vQV j_3).1) ((vQV j_3).2.1) ((vQV j_3).2.2.1) ((vQV j_3).2.2.2)).bind (fun u3 => (some (0, (u3.1 0), u3.1, u3.2.1, u3.2.2.1, u3.2.2.2, u2.1, u2.2))))))))) else some (u1, 0, vN, vG, vU, vR, vH, vHV))
abbrev rm_X8_restoreSnapshot : Room := { frames := 7, cells := 2, slots := 12, locals := 123 }
set_option maxHeartbeats 4000000 in
set_option maxRecDepth 100000 in
theorem c_X8_restoreSnapshot (E : Ev) (l : Launch) (hst : l.stackTraces = false) (aX : Nat) (aB : Nat → Nat) (aBw : Nat → Nat) (aP : Nat) (aN : Nat) (aNd : Nat) (aH : Nat) (aQ : Nat) (aG : Nat → Nat) (aU : Nat → Nat) (aR : Nat → Nat) (aHA : Nat) (kn : Nat → Nat) (kg : Nat → Nat → Nat) (ku : Nat → Nat → Nat) (kr : Nat → Nat → Nat) (aQA : Nat) (aQF : Nat) (qn : Nat → Nat) (qg : Nat → Nat → Nat) (qu : Nat → Nat → Nat) (qr : Nat → Nat → Nat) (vX : Nat → Int32) (vN : Nat → Int32) (vG : Nat → Nat → Int32) (vU : Nat → Nat → Int32) (vR : Nat → Nat → Int32) (vH : Nat → Int32) (vHV : Nat → NV) (vQF : Nat → Int32) (vQV : Nat → NV) (x1 : Int32) (r : Nat × Int32 × (Nat → Int32) × (Nat → Nat → Int32) × (Nat → Nat → Int32) × (Nat → Nat → Int32) × (Nat → Int32) × (Nat → NV)) (hf : F_X8_restoreSnapshot vX vN vG vU vR vH vHV vQF vQV x1 = some r) : XM E l yX8_restoreSnapshot (.code yX8_restoreSnapshot cX8_restoreSnapshot 2 (some .int) :: GA) rm_X8_restoreSnapshot [.ref aX, .int x1] (W_X aX aB aBw aP aN aNd aH aQ vX ++ (W_N aN aG aU aR vN ++ (W_G E aG vG ++ (W_U E aU vU ++ (W_R E aR vR ++ (W_H aH aHA vH ++ (W_NA E aHA 8 kn ++ (W_V8 E kn kg ku kr vHV ++ (W_Q aQ aQA aQF ++ (W_NA E aQA 2 qn ++ (W_Z E aQF 2 vQF ++ (W_V2 E qn qg qu qr vQV)))))))))))) r.1 (some (.int r.2.1)) (W_X aX aB aBw aP aN aNd aH aQ vX ++ (W_N aN aG aU aR r.2.2.1 ++ (W_G E aG r.2.2.2.1 ++ (W_U E aU r.2.2.2.2.1 ++ (W_R E aR r.2.2.2.2.2.1 ++ (W_H aH aHA r.2.2.2.2.2.2.1 ++ (W_NA E aHA 8 kn ++ (W_V8 E kn kg ku kr r.2.2.2.2.2.2.2 ++ (W_Q aQ aQA aQF ++ (W_NA E aQA 2 qn ++ (W_Z E aQF 2 vQF ++ (W_V2 E qn qg qu qr vQV)))))))))))) 2 := by
  refine XM.of (own := RX8) rfl (by decide) (Nat.le_of_ble_eq_true rfl) ?_
  intro p e s m below meth c A ls hx hb hr hml hown hg hlocks hK hE hA hout hP hD hS hl
  have hl : lv_has ls 2 [(0, .ref aX), (1, .int x1)] := hl
  unfold F_X8_restoreSnapshot at hf
  refine lv_aload_n hx hb dX8_restoreSnapshot_0 rfl (lv_at hl 0 rfl) ?_
  refine lv_iload_n hx hb dX8_restoreSnapshot_1 rfl (lv_at hl 1 rfl) ?_
  obtain ⟨u1, hu1, hf⟩ := bn hf
  refine xm_V (As := [.int x1]) (rest := []) (w2 := (W_X aX aB aBw aP aN aNd aH aQ vX ++ (W_N aN aG aU aR vN ++ (W_G E aG vG ++ (W_U E aU vU ++ (W_R E aR vR ++ (W_H aH aHA vH ++ (W_NA E aHA 8 kn ++ (W_V8 E kn kg ku kr vHV ++ (W_Q aQ aQA aQF ++ (W_NA E aQA 2 qn ++ (W_Z E aQF 2 vQF ++ (W_V2 E qn qg qu qr vQV))))))))))))) hx hb hml hown hg (c_X8_requireSlot E l hst aX x1 u1 hu1) cy_X8_requireSlot ml_X8_311 ⟨⟨rfl, rfl⟩, Nat.le_of_ble_eq_true rfl, Nat.le_of_ble_eq_true rfl⟩ hK hE hP hD hS hA [] rfl rfl rfl 0 rfl rfl rfl hl.1 rfl (Nat.le_of_ble_eq_true rfl) dX8_restoreSnapshot_2 ⟨Nat.le_of_ble_eq_true rfl, Nat.le_of_ble_eq_true rfl⟩ [] rfl (fun h0 H locs hP hD hS => ?_) (fun h0 H locs ce q9 hP hD hS hce hcv hcl => ?_)
  rotate_left
  · have hf := ie (Nat.pos_iff_ne_zero.mp h0) hf
    obtain rfl := Option.some.inj hf
    exact xm_out hout hlocks h0 hce hcv hcl hP hS (Nat.le_of_ble_eq_true rfl) (Nat.le_of_ble_eq_true rfl)
  have hf := it h0 hf
  refine lv_aload_n hx hb dX8_restoreSnapshot_5 rfl (lv_at hl 0 rfl) ?_
  refine gf_X8_48 hx hb hg hown hK hP 0 rfl rfl dX8_restoreSnapshot_6 ?_
  refine gf_X8_318 hx hb hg hown hK hP 165 rfl rfl dX8_restoreSnapshot_9 ?_
  refine lv_iload_n hx hb dX8_restoreSnapshot_12 rfl (lv_at hl 1 rfl) ?_
  obtain ⟨hi, hf⟩ := ck_o hf
  refine az_ld hx hb hK hP 167 rfl hi dX8_restoreSnapshot_13 ?_
  refine lv_if_ne (tgt := 28) hx hb dX8_restoreSnapshot_14 (by decide) (fun cq => ?_) (fun cq => ?_)
  · have hf := ie cq hf
    refine lv_aload_n hx hb dX8_restoreSnapshot_28 rfl (lv_at hl 0 rfl) ?_
    refine gf_X8_41 hx hb hg hown hK hP 0 rfl rfl dX8_restoreSnapshot_29 ?_
    refine lv_aload_n hx hb dX8_restoreSnapshot_32 rfl (lv_at hl 0 rfl) ?_
    refine gf_X8_31 hx hb hg hown hK hP 0 rfl rfl dX8_restoreSnapshot_33 ?_
    obtain ⟨u2, hu2, hf⟩ := bn hf
    refine cm_V (As := [.ref aN]) (rest := []) (w2 := (W_X aX aB aBw aP aN aNd aH aQ vX ++ (W_N aN aG aU aR vN ++ (W_G E aG vG ++ (W_U E aU vU ++ (W_R E aR vR ++ (W_H aH aHA u2.1 ++ (W_NA E aHA 8 kn ++ (W_V8 E kn kg ku kr u2.2 ++ (W_Q aQ aQA aQF ++ (W_NA E aQA 2 qn ++ (W_Z E aQF 2 vQF ++ (W_V2 E qn qg qu qr vQV))))))))))))) hx hb hml hown hg (c_X2_remember E l aN aG aU aR aH aHA kn kg ku kr vN vG vU vR vH vHV u2 hu2) cy_X2_remember ml_X8_274 ⟨⟨rfl, rfl⟩, Nat.le_of_ble_eq_true rfl, Nat.le_of_ble_eq_true rfl⟩ hK hE hP hD hS hA [false, true, true, true, true, true, true, true, true, true, true, true, true, true, true, true, true, true, true, true, true, true, true, true, true, true, true, true, true, true, true, true, true, true, true, true, true, true, true, true, true, true, true, true, true, true, true, true, true, true, true, true, true, true, true, true, true, true, true, true, true, true, true, true, true, true, true, true, true, true, true, true, true, true, true, true, true, true, true, true, true, true, true, true, true, true, true, true, true, true, true, true, true, true, true, true, true, true, true, true, true, true, true, true, true, true, true, true, true, true, true, true, true, true, true, true, true, true, true, true, true, true, true, true, true, true, true, true, true, true, true, true, true, true, true, true, true, true, true, true, true, true, true, true, true, true, true, true, true, true, true, true, true, true, true, true, true, true, true, true, true, true, true, true, true] rfl rfl rfl 19 rfl rfl rfl hl.1 rfl (Nat.le_of_ble_eq_true rfl) dX8_restoreSnapshot_36 ⟨Nat.le_of_ble_eq_true rfl, Nat.le_of_ble_eq_true rfl⟩ [] rfl (fun H locs hP hD hS => ?_)
    refine lv_aload_n hx hb dX8_restoreSnapshot_39 rfl (lv_at hl 0 rfl) ?_
    refine gf_X8_31 hx hb hg hown hK hP 0 rfl rfl dX8_restoreSnapshot_40 ?_
    refine lv_aload_n hx hb dX8_restoreSnapshot_43 rfl (lv_at hl 0 rfl) ?_
    refine gf_X8_48 hx hb hg hown hK hP 0 rfl rfl dX8_restoreSnapshot_44 ?_
    refine gf_X8_324 hx hb hg hown hK hP 165 rfl rfl dX8_restoreSnapshot_47 ?_
    refine lv_iload_n hx hb dX8_restoreSnapshot_50 rfl (lv_at hl 1 rfl) ?_
    obtain ⟨hi, hf⟩ := ck_o hf
    obtain ⟨j_3, hj_3, hf⟩ := lt_o hf
    have bj_3 : j_3 < 2 := by rw [hj_3]; exact Nat.not_le.mp fun q => hi (Or.inr q)
    refine ar_lq (f := qn) hx hb hK hP 166 rfl hi dX8_restoreSnapshot_51 ?_
    rw [← hj_3]
    obtain ⟨u3, hu, hf⟩ := bn hf
    have rst : ∀ (H : Heap) (locs : List Loc), va_P E.1 vwCl (W_X aX aB aBw aP aN aNd aH aQ vX ++ (W_N aN aG aU aR u3.1 ++ (W_G E aG u3.2.1 ++ (W_U E aU u3.2.2.1 ++ (W_R E aR u3.2.2.2 ++ (W_H aH aHA u2.1 ++ (W_NA E aHA 8 kn ++ (W_V8 E kn kg ku kr u2.2 ++ (W_Q aQ aQA aQF ++ (W_NA E aQA 2 qn ++ (W_Z E aQF 2 vQF ++ (W_V2 E qn qg qu qr vQV)))))))))))) H → va_D A (W_X aX aB aBw aP aN aNd aH aQ vX ++ (W_N aN aG aU aR u3.1 ++ (W_G E aG u3.2.1 ++ (W_U E aU u3.2.2.1 ++ (W_R E aR u3.2.2.2 ++ (W_H aH aHA u2.1 ++ (W_NA E aHA 8 kn ++ (W_V8 E kn kg ku kr u2.2 ++ (W_Q aQ aQA aQF ++ (W_NA E aQA 2 qn ++ (W_Z E aQF 2 vQF ++ (W_V2 E qn qg qu qr vQV)))))))))))) → va_S A s.heap H locs → W p l e rm_X8_restoreSnapshot s m ([.ref aX, .int x1] : List Value).toArray below meth c H locs (0 + 1) (0 + 6 * 1) (vx_MQ below (QX E r.1 (some (.int r.2.1)) (W_X aX aB aBw aP aN aNd aH aQ vX ++ (W_N aN aG aU aR r.2.2.1 ++ (W_G E aG r.2.2.2.1 ++ (W_U E aU r.2.2.2.2.1 ++ (W_R E aR r.2.2.2.2.2.1 ++ (W_H aH aHA r.2.2.2.2.2.2.1 ++ (W_NA E aHA 8 kn ++ (W_V8 E kn kg ku kr r.2.2.2.2.2.2.2 ++ (W_Q aQ aQA aQF ++ (W_NA E aQA 2 qn ++ (W_Z E aQF 2 vQF ++ (W_V2 E qn qg qu qr vQV)))))))))))) A) (XX E r.1 (W_X aX aB aBw aP aN aNd aH aQ vX ++ (W_N aN aG aU aR r.2.2.1 ++ (W_G E aG r.2.2.2.1 ++ (W_U E aU r.2.2.2.2.1 ++ (W_R E aR r.2.2.2.2.2.1 ++ (W_H aH aHA r.2.2.2.2.2.2.1 ++ (W_NA E aHA 8 kn ++ (W_V8 E kn kg ku kr r.2.2.2.2.2.2.2 ++ (W_Q aQ aQA aQF ++ (W_NA E aQA 2 qn ++ (W_Z E aQF 2 vQF ++ (W_V2 E qn qg qu qr vQV)))))))))))) A) ([.ref aX, .int x1] : List Value).toArray s 2 (6 * 2) A) (F0 m 55 ls []) := by
      intro H locs hP hD hS
      refine lv_aload_n hx hb dX8_restoreSnapshot_55 rfl (lv_at hl 0 rfl) ?_
      refine gf_X8_31 hx hb hg hown hK hP 0 rfl rfl dX8_restoreSnapshot_56 ?_
      refine gf_X8_99 hx hb hg hown hK hP 1 rfl rfl dX8_restoreSnapshot_59 ?_
      obtain rfl := Option.some.inj hf
      exact xm_yret (v := (u3.1 0)) rfl hx hb hr hlocks hP hS rfl dX8_restoreSnapshot_62 (Nat.le_of_ble_eq_true rfl) (Nat.le_of_ble_eq_true rfl)
    clear hf
    match j_3, bj_3, hu, rst with
    | 0, _, hu, rst =>
      refine cm_V (As := [.ref (qn 0)]) (rest := []) (w2 := (W_X aX aB aBw aP aN aNd aH aQ vX ++ (W_N aN aG aU aR u3.1 ++ (W_G E aG u3.2.1 ++ (W_U E aU u3.2.2.1 ++ (W_R E aR u3.2.2.2 ++ (W_H aH aHA u2.1 ++ (W_NA E aHA 8 kn ++ (W_V8 E kn kg ku kr u2.2 ++ (W_Q aQ aQA aQF ++ (W_NA E aQA 2 qn ++ (W_Z E aQF 2 vQF ++ (W_V2 E qn qg qu qr vQV))))))))))))) hx hb hml hown hg (c_X3_copyFrom E l aN aG aU aR (qn 0) (qg 0) (qu 0) (qr 0) vN vG vU vR ((vQV 0).1) ((vQV 0).2.1) ((vQV 0).2.2.1) ((vQV 0).2.2.2) u3 hu) cy_X3_copyFrom ml_X8_328 ⟨⟨rfl, rfl⟩, Nat.le_of_ble_eq_true rfl, Nat.le_of_ble_eq_true rfl⟩ hK hE hP hD hS hA [false, true, true, true, true, true, true, true, true, true, true, true, true, true, true, true, true, true, true, false, false, false, false, false, false, false, false, false, false, false, false, false, false, false, false, false, false, false, false, false, false, false, false, false, false, false, false, false, false, false, false, false, false, false, false, false, false, false, false, false, false, false, false, false, false, false, false, false, false, false, false, false, false, false, false, false, false, false, false, false, false, false, false, false, false, false, false, false, false, false, false, false, false, false, false, false, false, false, false, false, false, false, false, false, false, false, false, false, false, false, false, false, false, false, false, false, false, false, false, false, false, false, false, false, false, false, false, false, false, false, false, false, false, false, false, false, false, false, false, false, false, false, false, false, false, false, false, false, false, false, false, false, false, false, false, false, false, false, false, false, false, false, false, false, false, false, false, false, true, true, true, true, true, true, true, true, true, true, true, true, true, true, true, true, true, true] rfl rfl rfl 1 rfl rfl rfl hl.1 rfl (Nat.le_of_ble_eq_true rfl) dX8_restoreSnapshot_52 ⟨Nat.le_of_ble_eq_true rfl, Nat.le_of_ble_eq_true rfl⟩ [] rfl (fun H locs hP hD hS => ?_)
      exact rst H locs hP hD hS
    | 1, _, hu, rst =>
      refine cm_V (As := [.ref (qn 1)]) (rest := []) (w2 := (W_X aX aB aBw aP aN aNd aH aQ vX ++ (W_N aN aG aU aR u3.1 ++ (W_G E aG u3.2.1 ++ (W_U E aU u3.2.2.1 ++ (W_R E aR u3.2.2.2 ++ (W_H aH aHA u2.1 ++ (W_NA E aHA 8 kn ++ (W_V8 E kn kg ku kr u2.2 ++ (W_Q aQ aQA aQF ++ (W_NA E aQA 2 qn ++ (W_Z E aQF 2 vQF ++ (W_V2 E qn qg qu qr vQV))))))))))))) hx hb hml hown hg (c_X3_copyFrom E l aN aG aU aR (qn 1) (qg 1) (qu 1) (qr 1) vN vG vU vR ((vQV 1).1) ((vQV 1).2.1) ((vQV 1).2.2.1) ((vQV 1).2.2.2) u3 hu) cy_X3_copyFrom ml_X8_328 ⟨⟨rfl, rfl⟩, Nat.le_of_ble_eq_true rfl, Nat.le_of_ble_eq_true rfl⟩ hK hE hP hD hS hA [false, true, true, true, true, true, true, true, true, true, true, true, true, true, true, true, true, true, true, false, false, false, false, false, false, false, false, false, false, false, false, false, false, false, false, false, false, false, false, false, false, false, false, false, false, false, false, false, false, false, false, false, false, false, false, false, false, false, false, false, false, false, false, false, false, false, false, false, false, false, false, false, false, false, false, false, false, false, false, false, false, false, false, false, false, false, false, false, false, false, false, false, false, false, false, false, false, false, false, false, false, false, false, false, false, false, false, false, false, false, false, false, false, false, false, false, false, false, false, false, false, false, false, false, false, false, false, false, false, false, false, false, false, false, false, false, false, false, false, false, false, false, false, false, false, false, false, false, false, false, false, false, false, false, false, false, false, false, false, false, false, false, false, false, false, false, false, false, false, false, false, false, false, false, false, false, false, false, false, false, false, false, false, false, false, false, true, true, true, true, true, true, true, true, true, true, true, true, true, true, true, true, true, true] rfl rfl rfl 1 rfl rfl rfl hl.1 rfl (Nat.le_of_ble_eq_true rfl) dX8_restoreSnapshot_52 ⟨Nat.le_of_ble_eq_true rfl, Nat.le_of_ble_eq_true rfl⟩ [] rfl (fun H locs hP hD hS => ?_)
      exact rst H locs hP hD hS
    | k + 2, hk, _, _ => exact absurd hk (by omega)
  · have hf := it cq hf
    obtain rfl := Option.some.inj hf
    exact xm_throw3W (is := 322) (i := 29) (text := "the slot is empty") rfl hx hb hml hl.1 hst hown hg hE (List.mem_of_getElem? (i := 29) rfl) hout hlocks hP hS dX8_restoreSnapshot_17 dX8_restoreSnapshot_20 dX8_restoreSnapshot_21 dX8_restoreSnapshot_24 dX8_restoreSnapshot_27 (Nat.le_of_ble_eq_true rfl) (Nat.le_of_ble_eq_true rfl) (Nat.le_of_ble_eq_true rfl) (Nat.le_of_ble_eq_true rfl) (Nat.le_of_ble_eq_true rfl) (Nat.le_of_ble_eq_true rfl)
def F_X8_writeEntries (vX : Nat → Int32) (vN : Nat → Int32) (vG : Nat → Nat → Int32) (vR : Nat → Nat → Int32) (vBw : Nat → Nat → Int32) (x1 : Int32) : Option (Nat × Int32 × (Nat → Nat → Int32)) := (F_X8_requireGuest vX vN vG x1).bind (fun u1 => if u1 = 0 then (lt (va_up vBw 0 (fun _ => 0)) (fun vBw_3 => (F_X5_writeTo vR vBw_3 x1).bind (fun u2 => (some (0, (u2 0 0), u2))))) else some (u1, 0, vBw))
abbrev rm_X8_writeEntries : Room := { frames := 7, cells := 1, slots := 6, locals := 111 }
set_option maxHeartbeats 4000000 in
set_option maxRecDepth 100000 in
theorem c_X8_writeEntries (E : Ev) (l : Launch) (hst : l.stackTraces = false) (aX : Nat) (aB : Nat → Nat) (aBw : Nat → Nat) (aP : Nat) (aN : Nat) (aNd : Nat) (aH : Nat) (aQ : Nat) (aG : Nat → Nat) (aU : Nat → Nat) (aR : Nat → Nat) (vX : Nat → Int32) (vN : Nat → Int32) (vG : Nat → Nat → Int32) (vR : Nat → Nat → Int32) (vBw : Nat → Nat → Int32) (x1 : Int32) (r : Nat × Int32 × (Nat → Nat → Int32)) (hf : F_X8_writeEntries vX vN vG vR vBw x1 = some r) : XM E l yX8_writeEntries (.code yX8_writeEntries cX8_writeEntries 2 (some .int) :: GA) rm_X8_writeEntries [.ref aX, .int x1] (W_X aX aB aBw aP aN aNd aH aQ vX ++ (W_N aN aG aU aR vN ++ (W_G E aG vG ++ (W_R E aR vR ++ (W_B E aBw vBw))))) r.1 (some (.int r.2.1)) (W_X aX aB aBw aP aN aNd aH aQ vX ++ (W_N aN aG aU aR vN ++ (W_G E aG vG ++ (W_R E aR vR ++ (W_B E aBw r.2.2))))) 1 := by
  refine XM.of (own := RX8) rfl (by decide) (Nat.le_of_ble_eq_true rfl) ?_
  intro p e s m below meth c A ls hx hb hr hml hown hg hlocks hK hE hA hout hP hD hS hl
  have hl : lv_has ls 2 [(0, .ref aX), (1, .int x1)] := hl
  unfold F_X8_writeEntries at hf
  refine lv_aload_n hx hb dX8_writeEntries_0 rfl (lv_at hl 0 rfl) ?_
  refine lv_iload_n hx hb dX8_writeEntries_1 rfl (lv_at hl 1 rfl) ?_
  obtain ⟨u1, hu1, hf⟩ := bn hf
  refine xm_V (As := [.int x1]) (rest := []) (w2 := (W_X aX aB aBw aP aN aNd aH aQ vX ++ (W_N aN aG aU aR vN ++ (W_G E aG vG ++ (W_R E aR vR ++ (W_B E aBw vBw)))))) hx hb hml hown hg (c_X8_requireGuest E l hst aX aB aBw aP aN aNd aH aQ aG aU aR vX vN vG x1 u1 hu1) cy_X8_requireGuest ml_X8_124 ⟨⟨rfl, rfl⟩, Nat.le_of_ble_eq_true rfl, Nat.le_of_ble_eq_true rfl⟩ hK hE hP hD hS hA [true, true, true, true, true, true, true, true, true, true, true] rfl rfl rfl 0 rfl rfl rfl hl.1 rfl (Nat.le_of_ble_eq_true rfl) dX8_writeEntries_2 ⟨Nat.le_of_ble_eq_true rfl, Nat.le_of_ble_eq_true rfl⟩ [] rfl (fun h0 H locs hP hD hS => ?_) (fun h0 H locs ce q9 hP hD hS hce hcv hcl => ?_)
  rotate_left
  · have hf := ie (Nat.pos_iff_ne_zero.mp h0) hf
    obtain rfl := Option.some.inj hf
    exact xm_out hout hlocks h0 hce hcv hcl hP hS (Nat.le_of_ble_eq_true rfl) (Nat.le_of_ble_eq_true rfl)
  have hf := it h0 hf
  refine lv_aload_n hx hb dX8_writeEntries_5 rfl (lv_at hl 0 rfl) ?_
  refine gf_X8_16 hx hb hg hown hK hP 0 rfl rfl dX8_writeEntries_6 ?_
  refine lv_iconst (v := 0) hx hb dX8_writeEntries_9 (by decide) ?_
  refine pf_X8_65 (w2 := (W_X aX aB aBw aP aN aNd aH aQ vX ++ (W_N aN aG aU aR vN ++ (W_G E aG vG ++ (W_R E aR vR ++ (W_B E aBw (va_up vBw 0 (fun _ => 0)))))))) hx hb hg hown hK hP hD hS 15 rfl (Nat.le_of_ble_eq_true rfl) rfl dX8_writeEntries_10 (fun H locs hP hD hS => ?_)
  obtain ⟨vBw_3, hv, hf⟩ := lt_o hf
  rw [← hv] at hP hD
  clear hv
  refine lv_aload_n hx hb dX8_writeEntries_13 rfl (lv_at hl 0 rfl) ?_
  refine gf_X8_31 hx hb hg hown hK hP 0 rfl rfl dX8_writeEntries_14 ?_
  refine gf_X8_210 hx hb hg hown hK hP 1 rfl rfl dX8_writeEntries_17 ?_
  refine lv_aload_n hx hb dX8_writeEntries_20 rfl (lv_at hl 0 rfl) ?_
  refine gf_X8_16 hx hb hg hown hK hP 0 rfl rfl dX8_writeEntries_21 ?_
  refine lv_iload_n hx hb dX8_writeEntries_24 rfl (lv_at hl 1 rfl) ?_
  obtain ⟨u2, hu2, hf⟩ := bn hf
  refine cm_V (As := [.ref (aBw 0), .int x1]) (rest := []) (w2 := (W_X aX aB aBw aP aN aNd aH aQ vX ++ (W_N aN aG aU aR vN ++ (W_G E aG vG ++ (W_R E aR vR ++ (W_B E aBw u2)))))) hx hb hml hown hg (c_X5_writeTo E l aR aBw vR vBw_3 x1 u2 hu2) cy_X5_writeTo ml_X8_331 ⟨⟨rfl, rfl⟩, Nat.le_of_ble_eq_true rfl, Nat.le_of_ble_eq_true rfl⟩ hK hE hP hD hS hA [false, false, false, false, false, false, false, false, false, false, false, true, true, true, true, true, true] rfl rfl rfl 11 rfl rfl rfl hl.1 rfl (Nat.le_of_ble_eq_true rfl) dX8_writeEntries_25 ⟨Nat.le_of_ble_eq_true rfl, Nat.le_of_ble_eq_true rfl⟩ [] rfl (fun H locs hP hD hS => ?_)
  refine lv_aload_n hx hb dX8_writeEntries_28 rfl (lv_at hl 0 rfl) ?_
  refine gf_X8_16 hx hb hg hown hK hP 0 rfl rfl dX8_writeEntries_29 ?_
  refine gf_X8_65 hx hb hg hown hK hP 15 rfl rfl dX8_writeEntries_32 ?_
  obtain rfl := Option.some.inj hf
  exact xm_yret (v := (u2 0 0)) rfl hx hb hr hlocks hP hS rfl dX8_writeEntries_35 (Nat.le_of_ble_eq_true rfl) (Nat.le_of_ble_eq_true rfl)
