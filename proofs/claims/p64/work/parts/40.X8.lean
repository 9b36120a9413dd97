def F_X8_append (vX : Nat → Int32) (vB : Nat → Nat → Int32) (x1 : Int32) (x2 : Int32) (x3 : Int32) (x4 : Int32) (x5 : Int32) : Option (Nat × Int32 × (Nat → Nat → Int32)) := (if (vB 0 0) ≤ 580 then (F_X0_addFour vB x1).bind (fun u1 => (F_X0_addFour u1 x2).bind (fun u2 => (F_X0_addFour u2 x3).bind (fun u3 => (F_X0_addFour u3 x4).bind (fun u4 => (F_X0_addFour u4 x5).bind (fun u5 => (some (0, (u5 0 0), u5))))))) else (some (1, 0, vB)))
abbrev rm_X8_append : Room := { frames := 6, cells := 1, slots := 6, locals := 90 }
set_option maxHeartbeats 4000000 in
set_option maxRecDepth 100000 in
theorem c_X8_append (E : Ev) (l : Launch) (hst : l.stackTraces = false) (aX : Nat) (aB : Nat → Nat) (aBw : Nat → Nat) (aP : Nat) (aN : Nat) (aNd : Nat) (aH : Nat) (aQ : Nat) (vX : Nat → Int32) (vB : Nat → Nat → Int32) (x1 : Int32) (x2 : Int32) (x3 : Int32) (x4 : Int32) (x5 : Int32) (r : Nat × Int32 × (Nat → Nat → Int32)) (hf : F_X8_append vX vB x1 x2 x3 x4 x5 = some r) : XM E l yX8_append (.code yX8_append cX8_append 6 (some .int) :: GA) rm_X8_append [.ref aX, .int x1, .int x2, .int x3, .int x4, .int x5] (W_X aX aB aBw aP aN aNd aH aQ vX ++ (W_B E aB vB)) r.1 (some (.int r.2.1)) (W_X aX aB aBw aP aN aNd aH aQ vX ++ (W_B E aB r.2.2)) 1 := by
  refine XM.of (own := RX8) rfl (by decide) (Nat.le_of_ble_eq_true rfl) ?_
  intro p e s m below meth c A ls hx hb hr hml hown hg hlocks hK hE hA hout hP hD hS hl
  have hl : lv_has ls 6 [(0, .ref aX), (1, .int x1), (2, .int x2), (3, .int x3), (4, .int x4), (5, .int x5)] := hl
  unfold F_X8_append at hf
  refine lv_aload_n hx hb dX8_append_0 rfl (lv_at hl 0 rfl) ?_
  refine gf_X8_10 hx hb hg hown hK hP 0 rfl rfl dX8_append_1 ?_
  refine gf_X8_65 hx hb hg hown hK hP 1 rfl rfl dX8_append_4 ?_
  refine lv_sipush (v := 580) hx hb dX8_append_7 (by decide) ?_
  refine lv_icmp_le (tgt := 23) hx hb dX8_append_10 (by decide) (fun cq => ?_) (fun cq => ?_)
  · have hf := it cq hf
    refine lv_aload_n hx hb dX8_append_23 rfl (lv_at hl 0 rfl) ?_
    refine gf_X8_10 hx hb hg hown hK hP 0 rfl rfl dX8_append_24 ?_
    refine lv_iload_n hx hb dX8_append_27 rfl (lv_at hl 1 rfl) ?_
    obtain ⟨u1, hu1, hf⟩ := bn hf
    refine cm_V (As := [.int x1]) (rest := []) (w2 := (W_X aX aB aBw aP aN aNd aH aQ vX ++ (W_B E aB u1))) hx hb hml hown hg (c_X0_addFour E l aB vB x1 u1 hu1) cy_X0_addFour ml_X8_74 ⟨⟨rfl, rfl⟩, Nat.le_of_ble_eq_true rfl, Nat.le_of_ble_eq_true rfl⟩ hK hE hP hD hS hA [false, true, true] rfl rfl rfl 1 rfl rfl rfl hl.1 rfl (Nat.le_of_ble_eq_true rfl) dX8_append_28 ⟨Nat.le_of_ble_eq_true rfl, Nat.le_of_ble_eq_true rfl⟩ [] rfl (fun H locs hP hD hS => ?_)
    refine lv_aload_n hx hb dX8_append_31 rfl (lv_at hl 0 rfl) ?_
    refine gf_X8_10 hx hb hg hown hK hP 0 rfl rfl dX8_append_32 ?_
    refine lv_iload_n hx hb dX8_append_35 rfl (lv_at hl 2 rfl) ?_
    obtain ⟨u2, hu2, hf⟩ := bn hf
    refine cm_V (As := [.int x2]) (rest := []) (w2 := (W_X aX aB aBw aP aN aNd aH aQ vX ++ (W_B E aB u2))) hx hb hml hown hg (c_X0_addFour E l aB u1 x2 u2 hu2) cy_X0_addFour ml_X8_74 ⟨⟨rfl, rfl⟩, Nat.le_of_ble_eq_true rfl, Nat.le_of_ble_eq_true rfl⟩ hK hE hP hD hS hA [false, true, true] rfl rfl rfl 1 rfl rfl rfl hl.1 rfl (Nat.le_of_ble_eq_true rfl) dX8_append_36 ⟨Nat.le_of_ble_eq_true rfl, Nat.le_of_ble_eq_true rfl⟩ [] rfl (fun H locs hP hD hS => ?_)
    refine lv_aload_n hx hb dX8_append_39 rfl (lv_at hl 0 rfl) ?_
    refine gf_X8_10 hx hb hg hown hK hP 0 rfl rfl dX8_append_40 ?_
    refine lv_iload_n hx hb dX8_append_43 rfl (lv_at hl 3 rfl) ?_
    obtain ⟨u3, hu3, hf⟩ := bn hf
    refine cm_V (As := [.int x3]) (rest := []) (w2 := (W_X aX aB aBw aP aN aNd aH aQ vX ++ (W_B E aB u3))) hx hb hml hown hg (c_X0_addFour E l aB u2 x3 u3 hu3) cy_X0_addFour ml_X8_74 ⟨⟨rfl, rfl⟩, Nat.le_of_ble_eq_true rfl, Nat.le_of_ble_eq_true rfl⟩ hK hE hP hD hS hA [false, true, true] rfl rfl rfl 1 rfl rfl rfl hl.1 rfl (Nat.le_of_ble_eq_true rfl) dX8_append_44 ⟨Nat.le_of_ble_eq_true rfl, Nat.le_of_ble_eq_true rfl⟩ [] rfl (fun H locs hP hD hS => ?_)
    refine lv_aload_n hx hb dX8_append_47 rfl (lv_at hl 0 rfl) ?_
    refine gf_X8_10 hx hb hg hown hK hP 0 rfl rfl dX8_append_48 ?_
    refine lv_iload hx hb dX8_append_51 (lv_at hl 4 rfl) ?_
    obtain ⟨u4, hu4, hf⟩ := bn hf
    refine cm_V (As := [.int x4]) (rest := []) (w2 := (W_X aX aB aBw aP aN aNd aH aQ vX ++ (W_B E aB u4))) hx hb hml hown hg (c_X0_addFour E l aB u3 x4 u4 hu4) cy_X0_addFour ml_X8_74 ⟨⟨rfl, rfl⟩, Nat.le_of_ble_eq_true rfl, Nat.le_of_ble_eq_true rfl⟩ hK hE hP hD hS hA [false, true, true] rfl rfl rfl 1 rfl rfl rfl hl.1 rfl (Nat.le_of_ble_eq_true rfl) dX8_append_53 ⟨Nat.le_of_ble_eq_true rfl, Nat.le_of_ble_eq_true rfl⟩ [] rfl (fun H locs hP hD hS => ?_)
    refine lv_aload_n hx hb dX8_append_56 rfl (lv_at hl 0 rfl) ?_
    refine gf_X8_10 hx hb hg hown hK hP 0 rfl rfl dX8_append_57 ?_
    refine lv_iload hx hb dX8_append_60 (lv_at hl 5 rfl) ?_
    obtain ⟨u5, hu5, hf⟩ := bn hf
    refine cm_V (As := [.int x5]) (rest := []) (w2 := (W_X aX aB aBw aP aN aNd aH aQ vX ++ (W_B E aB u5))) hx hb hml hown hg (c_X0_addFour E l aB u4 x5 u5 hu5) cy_X0_addFour ml_X8_74 ⟨⟨rfl, rfl⟩, Nat.le_of_ble_eq_true rfl, Nat.le_of_ble_eq_true rfl⟩ hK hE hP hD hS hA [false, true, true] rfl rfl rfl 1 rfl rfl rfl hl.1 rfl (Nat.le_of_ble_eq_true rfl) dX8_append_62 ⟨Nat.le_of_ble_eq_true rfl, Nat.le_of_ble_eq_true rfl⟩ [] rfl (fun H locs hP hD hS => ?_)
    refine lv_aload_n hx hb dX8_append_65 rfl (lv_at hl 0 rfl) ?_
    refine gf_X8_10 hx hb hg hown hK hP 0 rfl rfl dX8_append_66 ?_
    refine gf_X8_65 hx hb hg hown hK hP 1 rfl rfl dX8_append_69 ?_
    obtain rfl := Option.some.inj hf
    exact xm_yret (v := (u5 0 0)) rfl hx hb hr hlocks hP hS rfl dX8_append_72 (Nat.le_of_ble_eq_true rfl) (Nat.le_of_ble_eq_true rfl)
  · have hf := ie cq hf
    obtain rfl := Option.some.inj hf
    exact xm_throw1 (is := 70) (i := 31) (text := "the input buffer is full") rfl hx hb hml hl.1 hst hown hg hE (List.mem_of_getElem? (i := 31) rfl) hout hlocks hP hS dX8_append_13 dX8_append_16 dX8_append_17 dX8_append_19 dX8_append_22 (Nat.le_of_ble_eq_true rfl) (Nat.le_of_ble_eq_true rfl) (Nat.le_of_ble_eq_true rfl) (Nat.le_of_ble_eq_true rfl) (Nat.le_of_ble_eq_true rfl) (Nat.le_of_ble_eq_true rfl)
def F_X8_shorten (vX : Nat → Int32) (vB : Nat → Nat → Int32) (x1 : Int32) : Option (Nat × Int32 × (Nat → Nat → Int32)) := (if x1 < 0 then (some (2, 0, vB)) else (if x1 ≤ (vB 0 0) then lt (va_up vB 0 (fun _ => x1)) (fun vB_3 => (some (0, x1, vB_3))) else (some (2, 0, vB))))
abbrev rm_X8_shorten : Room := { frames := 6, cells := 1, slots := 6, locals := 90 }
set_option maxHeartbeats 4000000 in
set_option maxRecDepth 100000 in
theorem c_X8_shorten (E : Ev) (l : Launch) (hst : l.stackTraces = false) (aX : Nat) (aB : Nat → Nat) (aBw : Nat → Nat) (aP : Nat) (aN : Nat) (aNd : Nat) (aH : Nat) (aQ : Nat) (vX : Nat → Int32) (vB : Nat → Nat → Int32) (x1 : Int32) (r : Nat × Int32 × (Nat → Nat → Int32)) (hf : F_X8_shorten vX vB x1 = some r) : XM E l yX8_shorten (.code yX8_shorten cX8_shorten 2 (some .int) :: GA) rm_X8_shorten [.ref aX, .int x1] (W_X aX aB aBw aP aN aNd aH aQ vX ++ (W_B E aB vB)) r.1 (some (.int r.2.1)) (W_X aX aB aBw aP aN aNd aH aQ vX ++ (W_B E aB r.2.2)) 1 := by
  refine XM.of (own := RX8) rfl (by decide) (Nat.le_of_ble_eq_true rfl) ?_
  intro p e s m below meth c A ls hx hb hr hml hown hg hlocks hK hE hA hout hP hD hS hl
  have hl : lv_has ls 2 [(0, .ref aX), (1, .int x1)] := hl
  unfold F_X8_shorten at hf
  refine lv_iload_n hx hb dX8_shorten_0 rfl (lv_at hl 1 rfl) ?_
  refine lv_if_lt (tgt := 15) hx hb dX8_shorten_1 (by decide) (fun cq => ?_) (fun cq => ?_)
  · have hf := it cq hf
    obtain rfl := Option.some.inj hf
    exact xm_throw2 (is := 80) (i := 32) (text := "no such length of the input buffer") rfl hx hb hml hl.1 hst hown hg hE (List.mem_of_getElem? (i := 32) rfl) hout hlocks hP hS dX8_shorten_15 dX8_shorten_18 dX8_shorten_19 dX8_shorten_21 dX8_shorten_24 (Nat.le_of_ble_eq_true rfl) (Nat.le_of_ble_eq_true rfl) (Nat.le_of_ble_eq_true rfl) (Nat.le_of_ble_eq_true rfl) (Nat.le_of_ble_eq_true rfl) (Nat.le_of_ble_eq_true rfl)
  · have hf := ie cq hf
    refine lv_iload_n hx hb dX8_shorten_4 rfl (lv_at hl 1 rfl) ?_
    refine lv_aload_n hx hb dX8_shorten_5 rfl (lv_at hl 0 rfl) ?_
    refine gf_X8_10 hx hb hg hown hK hP 0 rfl rfl dX8_shorten_6 ?_
    refine gf_X8_65 hx hb hg hown hK hP 1 rfl rfl dX8_shorten_9 ?_
    refine lv_icmp_le (tgt := 25) hx hb dX8_shorten_12 (by decide) (fun cq => ?_) (fun cq => ?_)
    · have hf := it cq hf
      refine lv_aload_n hx hb dX8_shorten_25 rfl (lv_at hl 0 rfl) ?_
      refine gf_X8_10 hx hb hg hown hK hP 0 rfl rfl dX8_shorten_26 ?_
      refine lv_iload_n hx hb dX8_shorten_29 rfl (lv_at hl 1 rfl) ?_
      refine pf_X8_65 (w2 := (W_X aX aB aBw aP aN aNd aH aQ vX ++ (W_B E aB (va_up vB 0 (fun _ => x1))))) hx hb hg hown hK hP hD hS 1 rfl (Nat.le_of_ble_eq_true rfl) rfl dX8_shorten_30 (fun H locs hP hD hS => ?_)
      obtain ⟨vB_3, hv, hf⟩ := lt_o hf
      rw [← hv] at hP hD
      clear hv
      refine lv_iload_n hx hb dX8_shorten_33 rfl (lv_at hl 1 rfl) ?_
      obtain rfl := Option.some.inj hf
      exact xm_yret (v := x1) rfl hx hb hr hlocks hP hS rfl dX8_shorten_34 (Nat.le_of_ble_eq_true rfl) (Nat.le_of_ble_eq_true rfl)
    · have hf := ie cq hf
      obtain rfl := Option.some.inj hf
      exact xm_throw2 (is := 80) (i := 32) (text := "no such length of the input buffer") rfl hx hb hml hl.1 hst hown hg hE (List.mem_of_getElem? (i := 32) rfl) hout hlocks hP hS dX8_shorten_15 dX8_shorten_18 dX8_shorten_19 dX8_shorten_21 dX8_shorten_24 (Nat.le_of_ble_eq_true rfl) (Nat.le_of_ble_eq_true rfl) (Nat.le_of_ble_eq_true rfl) (Nat.le_of_ble_eq_true rfl) (Nat.le_of_ble_eq_true rfl) (Nat.le_of_ble_eq_true rfl)
def F_X8_hasError (vX : Nat → Int32) : Option (Int32) := (some (if (vX 0) = (-1) then 0 else 1))
abbrev rm_X8_hasError : Room := { frames := 0, cells := 0, slots := 0, locals := 0 }
set_option maxHeartbeats 4000000 in
set_option maxRecDepth 100000 in
theorem c_X8_hasError (E : Ev) (l : Launch) (aX : Nat) (aB : Nat → Nat) (aBw : Nat → Nat) (aP : Nat) (aN : Nat) (aNd : Nat) (aH : Nat) (aQ : Nat) (vX : Nat → Int32) (r : Int32) (hf : F_X8_hasError vX = some r) : CM E l yX8_hasError (.code yX8_hasError cX8_hasError 1 (some .boolean) :: GA) rm_X8_hasError [.ref aX] (W_X aX aB aBw aP aN aNd aH aQ vX) (some (.int r)) (W_X aX aB aBw aP aN aNd aH aQ vX) := by
  refine CM.of (own := RX8) rfl (by decide) (Nat.le_of_ble_eq_true rfl) ?_
  intro p e s m below meth c A ls hx hb hr hml hown hg hlocks hK hE hA hP hD hS hl
  have hl : lv_has ls 1 [(0, .ref aX)] := hl
  unfold F_X8_hasError at hf
  refine lv_aload_n hx hb dX8_hasError_0 rfl (lv_at hl 0 rfl) ?_
  refine gf_X8_52 hx hb hg hown hK hP 0 rfl rfl dX8_hasError_1 ?_
  refine lv_iconst (v := (-1)) hx hb dX8_hasError_4 (by decide) ?_
  refine wj (F0 m 13 ls [.int (if (vX 0) = (-1) then 0 else 1)]) ?_ (fun jk => ?_)
  rotate_left
  · refine lv_icmp_eq (tgt := 12) hx hb dX8_hasError_5 (by decide) (fun cq => ?_) (fun cq => ?_)
    · rw [if_pos cq] at jk
      refine lv_iconst (v := 0) hx hb dX8_hasError_12 (by decide) ?_
      exact jk
    · rw [if_neg cq] at jk
      refine lv_iconst (v := 1) hx hb dX8_hasError_8 (by decide) ?_
      refine lv_goto (tgt := 13) hx hb dX8_hasError_9 (by decide) ?_
      exact jk
  obtain rfl := Option.some.inj hf
  exact cm_zret (v := (if (vX 0) = (-1) then 0 else 1)) hx hb hr hlocks hP hS (by split <;> rfl) dX8_hasError_13
def F_X8_errorOffset (vX : Nat → Int32) : Option (Nat × Int32) := (if (vX 0) = (-1) then (some (3, 0)) else (some (0, (vX 0))))
abbrev rm_X8_errorOffset : Room := { frames := 6, cells := 1, slots := 6, locals := 90 }
set_option maxHeartbeats 4000000 in
set_option maxRecDepth 100000 in
theorem c_X8_errorOffset (E : Ev) (l : Launch) (hst : l.stackTraces = false) (aX : Nat) (aB : Nat → Nat) (aBw : Nat → Nat) (aP : Nat) (aN : Nat) (aNd : Nat) (aH : Nat) (aQ : Nat) (vX : Nat → Int32) (r : Nat × Int32) (hf : F_X8_errorOffset vX = some r) : XM E l yX8_errorOffset (.code yX8_errorOffset cX8_errorOffset 1 (some .int) :: GA) rm_X8_errorOffset [.ref aX] (W_X aX aB aBw aP aN aNd aH aQ vX) r.1 (some (.int r.2)) (W_X aX aB aBw aP aN aNd aH aQ vX) 1 := by
  refine XM.of (own := RX8) rfl (by decide) (Nat.le_of_ble_eq_true rfl) ?_
  intro p e s m below meth c A ls hx hb hr hml hown hg hlocks hK hE hA hout hP hD hS hl
  have hl : lv_has ls 1 [(0, .ref aX)] := hl
  unfold F_X8_errorOffset at hf
  refine lv_aload_n hx hb dX8_errorOffset_0 rfl (lv_at hl 0 rfl) ?_
  refine gf_X8_52 hx hb hg hown hK hP 0 rfl rfl dX8_errorOffset_1 ?_
  refine lv_iconst (v := (-1)) hx hb dX8_errorOffset_4 (by decide) ?_
  refine lv_icmp_ne (tgt := 18) hx hb dX8_errorOffset_5 (by decide) (fun cq => ?_) (fun cq => ?_)
  · have hf := ie cq hf
    refine lv_aload_n hx hb dX8_errorOffset_18 rfl (lv_at hl 0 rfl) ?_
    refine gf_X8_52 hx hb hg hown hK hP 0 rfl rfl dX8_errorOffset_19 ?_
    obtain rfl := Option.some.inj hf
    exact xm_yret (v := (vX 0)) rfl hx hb hr hlocks hP hS rfl dX8_errorOffset_22 (Nat.le_of_ble_eq_true rfl) (Nat.le_of_ble_eq_true rfl)
  · have hf := it cq hf
    obtain rfl := Option.some.inj hf
    exact xm_throw3 (is := 96) (i := 33) (text := "the latest text had no error") rfl hx hb hml hl.1 hst hown hg hE (List.mem_of_getElem? (i := 33) rfl) hout hlocks hP hS dX8_errorOffset_8 dX8_errorOffset_11 dX8_errorOffset_12 dX8_errorOffset_14 dX8_errorOffset_17 (Nat.le_of_ble_eq_true rfl) (Nat.le_of_ble_eq_true rfl) (Nat.le_of_ble_eq_true rfl) (Nat.le_of_ble_eq_true rfl) (Nat.le_of_ble_eq_true rfl) (Nat.le_of_ble_eq_true rfl)
def F_X8_minute (vX : Nat → Int32) (vN : Nat → Int32) : Option (Int32) := (some (vN 0))
abbrev rm_X8_minute : Room := { frames := 0, cells := 0, slots := 0, locals := 0 }
set_option maxHeartbeats 4000000 in
set_option maxRecDepth 100000 in
theorem c_X8_minute (E : Ev) (l : Launch) (aX : Nat) (aB : Nat → Nat) (aBw : Nat → Nat) (aP : Nat) (aN : Nat) (aNd : Nat) (aH : Nat) (aQ : Nat) (aG : Nat → Nat) (aU : Nat → Nat) (aR : Nat → Nat) (vX : Nat → Int32) (vN : Nat → Int32) (r : Int32) (hf : F_X8_minute vX vN = some r) : CM E l yX8_minute (.code yX8_minute cX8_minute 1 (some .int) :: GA) rm_X8_minute [.ref aX] (W_X aX aB aBw aP aN aNd aH aQ vX ++ (W_N aN aG aU aR vN)) (some (.int r)) (W_X aX aB aBw aP aN aNd aH aQ vX ++ (W_N aN aG aU aR vN)) := by
  refine CM.of (own := RX8) rfl (by decide) (Nat.le_of_ble_eq_true rfl) ?_
  intro p e s m below meth c A ls hx hb hr hml hown hg hlocks hK hE hA hP hD hS hl
  have hl : lv_has ls 1 [(0, .ref aX)] := hl
  unfold F_X8_minute at hf
  refine lv_aload_n hx hb dX8_minute_0 rfl (lv_at hl 0 rfl) ?_
  refine gf_X8_31 hx hb hg hown hK hP 0 rfl rfl dX8_minute_1 ?_
  refine gf_X8_99 hx hb hg hown hK hP 1 rfl rfl dX8_minute_4 ?_
  obtain rfl := Option.some.inj hf
  exact cm_iret hx hb hr hlocks hP hS dX8_minute_7
def F_X8_rain (vX : Nat → Int32) (vN : Nat → Int32) : Option (Int32) := (some (vN 1))
abbrev rm_X8_rain : Room := { frames := 0, cells := 0, slots := 0, locals := 0 }
set_option maxHeartbeats 4000000 in
set_option maxRecDepth 100000 in
theorem c_X8_rain (E : Ev) (l : Launch) (aX : Nat) (aB : Nat → Nat) (aBw : Nat → Nat) (aP : Nat) (aN : Nat) (aNd : Nat) (aH : Nat) (aQ : Nat) (aG : Nat → Nat) (aU : Nat → Nat) (aR : Nat → Nat) (vX : Nat → Int32) (vN : Nat → Int32) (r : Int32) (hf : F_X8_rain vX vN = some r) : CM E l yX8_rain (.code yX8_rain cX8_rain 1 (some .int) :: GA) rm_X8_rain [.ref aX] (W_X aX aB aBw aP aN aNd aH aQ vX ++ (W_N aN aG aU aR vN)) (some (.int r)) (W_X aX aB aBw aP aN aNd aH aQ vX ++ (W_N aN aG aU aR vN)) := by
  refine CM.of (own := RX8) rfl (by decide) (Nat.le_of_ble_eq_true rfl) ?_
  intro p e s m below meth c A ls hx hb hr hml hown hg hlocks hK hE hA hP hD hS hl
  have hl : lv_has ls 1 [(0, .ref aX)] := hl
  unfold F_X8_rain at hf
  refine lv_aload_n hx hb dX8_rain_0 rfl (lv_at hl 0 rfl) ?_
  refine gf_X8_31 hx hb hg hown hK hP 0 rfl rfl dX8_rain_1 ?_
  refine gf_X8_102 hx hb hg hown hK hP 1 rfl rfl dX8_rain_4 ?_
  obtain rfl := Option.some.inj hf
  exact cm_iret hx hb hr hlocks hP hS dX8_rain_7
def F_X8_noiseLimit (vX : Nat → Int32) (vN : Nat → Int32) : Option (Int32) := (some (vN 2))
abbrev rm_X8_noiseLimit : Room := { frames := 0, cells := 0, slots := 0, locals := 0 }
set_option maxHeartbeats 4000000 in
set_option maxRecDepth 100000 in
theorem c_X8_noiseLimit (E : Ev) (l : Launch) (aX : Nat) (aB : Nat → Nat) (aBw : Nat → Nat) (aP : Nat) (aN : Nat) (aNd : Nat) (aH : Nat) (aQ : Nat) (aG : Nat → Nat) (aU : Nat → Nat) (aR : Nat → Nat) (vX : Nat → Int32) (vN : Nat → Int32) (r : Int32) (hf : F_X8_noiseLimit vX vN = some r) : CM E l yX8_noiseLimit (.code yX8_noiseLimit cX8_noiseLimit 1 (some .int) :: GA) rm_X8_noiseLimit [.ref aX] (W_X aX aB aBw aP aN aNd aH aQ vX ++ (W_N aN aG aU aR vN)) (some (.int r)) (W_X aX aB aBw aP aN aNd aH aQ vX ++ (W_N aN aG aU aR vN)) := by
  refine CM.of (own := RX8) rfl (by decide) (Nat.le_of_ble_eq_true rfl) ?_
  intro p e s m below meth c A ls hx hb hr hml hown hg hlocks hK hE hA hP hD hS hl
  have hl : lv_has ls 1 [(0, .ref aX)] := hl
  unfold F_X8_noiseLimit at hf
  refine lv_aload_n hx hb dX8_noiseLimit_0 rfl (lv_at hl 0 rfl) ?_
  refine gf_X8_31 hx hb hg hown hK hP 0 rfl rfl dX8_noiseLimit_1 ?_
  refine gf_X8_105 hx hb hg hown hK hP 1 rfl rfl dX8_noiseLimit_4 ?_
  obtain rfl := Option.some.inj hf
  exact cm_iret hx hb hr hlocks hP hS dX8_noiseLimit_7
def F_X8_noise (vX : Nat → Int32) (vN : Nat → Int32) : Option (Int32) := (some (vN 3))
abbrev rm_X8_noise : Room := { frames := 0, cells := 0, slots := 0, locals := 0 }
set_option maxHeartbeats 4000000 in
set_option maxRecDepth 100000 in
theorem c_X8_noise (E : Ev) (l : Launch) (aX : Nat) (aB : Nat → Nat) (aBw : Nat → Nat) (aP : Nat) (aN : Nat) (aNd : Nat) (aH : Nat) (aQ : Nat) (aG : Nat → Nat) (aU : Nat → Nat) (aR : Nat → Nat) (vX : Nat → Int32) (vN : Nat → Int32) (r : Int32) (hf : F_X8_noise vX vN = some r) : CM E l yX8_noise (.code yX8_noise cX8_noise 1 (some .int) :: GA) rm_X8_noise [.ref aX] (W_X aX aB aBw aP aN aNd aH aQ vX ++ (W_N aN aG aU aR vN)) (some (.int r)) (W_X aX aB aBw aP aN aNd aH aQ vX ++ (W_N aN aG aU aR vN)) := by
  refine CM.of (own := RX8) rfl (by decide) (Nat.le_of_ble_eq_true rfl) ?_
  intro p e s m below meth c A ls hx hb hr hml hown hg hlocks hK hE hA hP hD hS hl
  have hl : lv_has ls 1 [(0, .ref aX)] := hl
  unfold F_X8_noise at hf
  refine lv_aload_n hx hb dX8_noise_0 rfl (lv_at hl 0 rfl) ?_
  refine gf_X8_31 hx hb hg hown hK hP 0 rfl rfl dX8_noise_1 ?_
  refine gf_X8_108 hx hb hg hown hK hP 1 rfl rfl dX8_noise_4 ?_
  obtain rfl := Option.some.inj hf
  exact cm_iret hx hb hr hlocks hP hS dX8_noise_7
def F_X8_complaints (vX : Nat → Int32) (vN : Nat → Int32) : Option (Int32) := (some (vN 4))
abbrev rm_X8_complaints : Room := { frames := 0, cells := 0, slots := 0, locals := 0 }
set_option maxHeartbeats 4000000 in
set_option maxRecDepth 100000 in
theorem c_X8_complaints (E : Ev) (l : Launch) (aX : Nat) (aB : Nat → Nat) (aBw : Nat → Nat) (aP : Nat) (aN : Nat) (aNd : Nat) (aH : Nat) (aQ : Nat) (aG : Nat → Nat) (aU : Nat → Nat) (aR : Nat → Nat) (vX : Nat → Int32) (vN : Nat → Int32) (r : Int32) (hf : F_X8_complaints vX vN = some r) : CM E l yX8_complaints (.code yX8_complaints cX8_complaints 1 (some .int) :: GA) rm_X8_complaints [.ref aX] (W_X aX aB aBw aP aN aNd aH aQ vX ++ (W_N aN aG aU aR vN)) (some (.int r)) (W_X aX aB aBw aP aN aNd aH aQ vX ++ (W_N aN aG aU aR vN)) := by
  refine CM.of (own := RX8) rfl (by decide) (Nat.le_of_ble_eq_true rfl) ?_
  intro p e s m below meth c A ls hx hb hr hml hown hg hlocks hK hE hA hP hD hS hl
  have hl : lv_has ls 1 [(0, .ref aX)] := hl
  unfold F_X8_complaints at hf
  refine lv_aload_n hx hb dX8_complaints_0 rfl (lv_at hl 0 rfl) ?_
  refine gf_X8_31 hx hb hg hown hK hP 0 rfl rfl dX8_complaints_1 ?_
  refine gf_X8_111 hx hb hg hown hK hP 1 rfl rfl dX8_complaints_4 ?_
  obtain rfl := Option.some.inj hf
  exact cm_iret hx hb hr hlocks hP hS dX8_complaints_7
def F_X8_puddle (vX : Nat → Int32) (vN : Nat → Int32) : Option (Int32) := (some (vN 5))
abbrev rm_X8_puddle : Room := { frames := 0, cells := 0, slots := 0, locals := 0 }
set_option maxHeartbeats 4000000 in
set_option maxRecDepth 100000 in
theorem c_X8_puddle (E : Ev) (l : Launch) (aX : Nat) (aB : Nat → Nat) (aBw : Nat → Nat) (aP : Nat) (aN : Nat) (aNd : Nat) (aH : Nat) (aQ : Nat) (aG : Nat → Nat) (aU : Nat → Nat) (aR : Nat → Nat) (vX : Nat → Int32) (vN : Nat → Int32) (r : Int32) (hf : F_X8_puddle vX vN = some r) : CM E l yX8_puddle (.code yX8_puddle cX8_puddle 1 (some .int) :: GA) rm_X8_puddle [.ref aX] (W_X aX aB aBw aP aN aNd aH aQ vX ++ (W_N aN aG aU aR vN)) (some (.int r)) (W_X aX aB aBw aP aN aNd aH aQ vX ++ (W_N aN aG aU aR vN)) := by
  refine CM.of (own := RX8) rfl (by decide) (Nat.le_of_ble_eq_true rfl) ?_
  intro p e s m below meth c A ls hx hb hr hml hown hg hlocks hK hE hA hP hD hS hl
  have hl : lv_has ls 1 [(0, .ref aX)] := hl
  unfold F_X8_puddle at hf
  refine lv_aload_n hx hb dX8_puddle_0 rfl (lv_at hl 0 rfl) ?_
  refine gf_X8_31 hx hb hg hown hK hP 0 rfl rfl dX8_puddle_1 ?_
  refine gf_X8_114 hx hb hg hown hK hP 1 rfl rfl dX8_puddle_4 ?_
  obtain rfl := Option.some.inj hf
  exact cm_iret hx hb hr hlocks hP hS dX8_puddle_7
def F_X8_yawn (vX : Nat → Int32) (vN : Nat → Int32) (vR : Nat → Nat → Int32) : Option (Int32) := (F_X3_presentYawn vN vR).bind (fun u1 => (some u1))
abbrev rm_X8_yawn : Room := { frames := 2, cells := 0, slots := 0, locals := 41 }
set_option maxHeartbeats 4000000 in
set_option maxRecDepth 100000 in
theorem c_X8_yawn (E : Ev) (l : Launch) (aX : Nat) (aB : Nat → Nat) (aBw : Nat → Nat) (aP : Nat) (aN : Nat) (aNd : Nat) (aH : Nat) (aQ : Nat) (aG : Nat → Nat) (aU : Nat → Nat) (aR : Nat → Nat) (vX : Nat → Int32) (vN : Nat → Int32) (vR : Nat → Nat → Int32) (r : Int32) (hf : F_X8_yawn vX vN vR = some r) : CM E l yX8_yawn (.code yX8_yawn cX8_yawn 1 (some .int) :: GA) rm_X8_yawn [.ref aX] (W_X aX aB aBw aP aN aNd aH aQ vX ++ (W_N aN aG aU aR vN ++ (W_R E aR vR))) (some (.int r)) (W_X aX aB aBw aP aN aNd aH aQ vX ++ (W_N aN aG aU aR vN ++ (W_R E aR vR))) := by
  refine CM.of (own := RX8) rfl (by decide) (Nat.le_of_ble_eq_true rfl) ?_
  intro p e s m below meth c A ls hx hb hr hml hown hg hlocks hK hE hA hP hD hS hl
  have hl : lv_has ls 1 [(0, .ref aX)] := hl
  unfold F_X8_yawn at hf
  refine lv_aload_n hx hb dX8_yawn_0 rfl (lv_at hl 0 rfl) ?_
  refine gf_X8_31 hx hb hg hown hK hP 0 rfl rfl dX8_yawn_1 ?_
  obtain ⟨u1, hu1, hf⟩ := bn hf
  refine cm_V (As := []) (rest := []) (w2 := (W_X aX aB aBw aP aN aNd aH aQ vX ++ (W_N aN aG aU aR vN ++ (W_R E aR vR)))) hx hb hml hown hg (c_X3_presentYawn E l aN aG aU aR vN vR u1 hu1) cy_X3_presentYawn ml_X8_117 ⟨⟨rfl, rfl⟩, Nat.le_of_ble_eq_true rfl, Nat.le_of_ble_eq_true rfl⟩ hK hE hP hD hS hA [false, true, true, true, true, true] rfl rfl rfl 1 rfl rfl rfl hl.1 rfl (Nat.le_of_ble_eq_true rfl) dX8_yawn_4 ⟨Nat.le_of_ble_eq_true rfl, Nat.le_of_ble_eq_true rfl⟩ [.int u1] rfl (fun H locs hP hD hS => ?_)
  obtain rfl := Option.some.inj hf
  exact cm_iret hx hb hr hlocks hP hS dX8_yawn_7
def F_X8_tips (vX : Nat → Int32) (vN : Nat → Int32) : Option (Int32) := (some (vN 6))
abbrev rm_X8_tips : Room := { frames := 0, cells := 0, slots := 0, locals := 0 }
set_option maxHeartbeats 4000000 in
set_option maxRecDepth 100000 in
theorem c_X8_tips (E : Ev) (l : Launch) (aX : Nat) (aB : Nat → Nat) (aBw : Nat → Nat) (aP : Nat) (aN : Nat) (aNd : Nat) (aH : Nat) (aQ : Nat) (aG : Nat → Nat) (aU : Nat → Nat) (aR : Nat → Nat) (vX : Nat → Int32) (vN : Nat → Int32) (r : Int32) (hf : F_X8_tips vX vN = some r) : CM E l yX8_tips (.code yX8_tips cX8_tips 1 (some .int) :: GA) rm_X8_tips [.ref aX] (W_X aX aB aBw aP aN aNd aH aQ vX ++ (W_N aN aG aU aR vN)) (some (.int r)) (W_X aX aB aBw aP aN aNd aH aQ vX ++ (W_N aN aG aU aR vN)) := by
  refine CM.of (own := RX8) rfl (by decide) (Nat.le_of_ble_eq_true rfl) ?_
  intro p e s m below meth c A ls hx hb hr hml hown hg hlocks hK hE hA hP hD hS hl
  have hl : lv_has ls 1 [(0, .ref aX)] := hl
  unfold F_X8_tips at hf
  refine lv_aload_n hx hb dX8_tips_0 rfl (lv_at hl 0 rfl) ?_
  refine gf_X8_31 hx hb hg hown hK hP 0 rfl rfl dX8_tips_1 ?_
  refine gf_X8_121 hx hb hg hown hK hP 1 rfl rfl dX8_tips_4 ?_
  obtain rfl := Option.some.inj hf
  exact cm_iret hx hb hr hlocks hP hS dX8_tips_7
def F_X8_guestCount (vX : Nat → Int32) (vN : Nat → Int32) (vG : Nat → Nat → Int32) : Option (Int32) := (some (vG 0 0))
abbrev rm_X8_guestCount : Room := { frames := 0, cells := 0, slots := 0, locals := 0 }
set_option maxHeartbeats 4000000 in
set_option maxRecDepth 100000 in
theorem c_X8_guestCount (E : Ev) (l : Launch) (aX : Nat) (aB : Nat → Nat) (aBw : Nat → Nat) (aP : Nat) (aN : Nat) (aNd : Nat) (aH : Nat) (aQ : Nat) (aG : Nat → Nat) (aU : Nat → Nat) (aR : Nat → Nat) (vX : Nat → Int32) (vN : Nat → Int32) (vG : Nat → Nat → Int32) (r : Int32) (hf : F_X8_guestCount vX vN vG = some r) : CM E l yX8_guestCount (.code yX8_guestCount cX8_guestCount 1 (some .int) :: GA) rm_X8_guestCount [.ref aX] (W_X aX aB aBw aP aN aNd aH aQ vX ++ (W_N aN aG aU aR vN ++ (W_G E aG vG))) (some (.int r)) (W_X aX aB aBw aP aN aNd aH aQ vX ++ (W_N aN aG aU aR vN ++ (W_G E aG vG))) := by
  refine CM.of (own := RX8) rfl (by decide) (Nat.le_of_ble_eq_true rfl) ?_
  intro p e s m below meth c A ls hx hb hr hml hown hg hlocks hK hE hA hP hD hS hl
  have hl : lv_has ls 1 [(0, .ref aX)] := hl
  unfold F_X8_guestCount at hf
  refine lv_aload_n hx hb dX8_guestCount_0 rfl (lv_at hl 0 rfl) ?_
  refine gf_X8_31 hx hb hg hown hK hP 0 rfl rfl dX8_guestCount_1 ?_
  refine gf_X8_85 hx hb hg hown hK hP 1 rfl rfl dX8_guestCount_4 ?_
  refine gf_X8_89 hx hb hg hown hK hP 2 rfl rfl dX8_guestCount_7 ?_
  obtain rfl := Option.some.inj hf
  exact cm_iret hx hb hr hlocks hP hS dX8_guestCount_10
def F_X8_guestOfInput (vX : Nat → Int32) (vN : Nat → Int32) (vG : Nat → Nat → Int32) (vB : Nat → Nat → Int32) : Option (Nat × Int32) := (F_X1_find vG vB 0 (vB 0 0)).bind (fun u1 => (if u1 = (-1) then (some (3, 0)) else (some (0, u1))))
abbrev rm_X8_guestOfInput : Room := { frames := 6, cells := 1, slots := 6, locals := 90 }
set_option maxHeartbeats 4000000 in
set_option maxRecDepth 100000 in
theorem c_X8_guestOfInput (E : Ev) (l : Launch) (hst : l.stackTraces = false) (aX : Nat) (aB : Nat → Nat) (aBw : Nat → Nat) (aP : Nat) (aN : Nat) (aNd : Nat) (aH : Nat) (aQ : Nat) (aG : Nat → Nat) (aU : Nat → Nat) (aR : Nat → Nat) (vX : Nat → Int32) (vN : Nat → Int32) (vG : Nat → Nat → Int32) (vB : Nat → Nat → Int32) (r : Nat × Int32) (hf : F_X8_guestOfInput vX vN vG vB = some r) : XM E l yX8_guestOfInput (.code yX8_guestOfInput cX8_guestOfInput 2 (some .int) :: GA) rm_X8_guestOfInput [.ref aX] (W_X aX aB aBw aP aN aNd aH aQ vX ++ (W_N aN aG aU aR vN ++ (W_G E aG vG ++ (W_B E aB vB)))) r.1 (some (.int r.2)) (W_X aX aB aBw aP aN aNd aH aQ vX ++ (W_N aN aG aU aR vN ++ (W_G E aG vG ++ (W_B E aB vB)))) 1 := by
  refine XM.of (own := RX8) rfl (by decide) (Nat.le_of_ble_eq_true rfl) ?_
  intro p e s m below meth c A ls hx hb hr hml hown hg hlocks hK hE hA hout hP hD hS hl
  have hl : lv_has ls 2 [(0, .ref aX)] := hl
  unfold F_X8_guestOfInput at hf
  refine lv_aload_n hx hb dX8_guestOfInput_0 rfl (lv_at hl 0 rfl) ?_
  refine gf_X8_31 hx hb hg hown hK hP 0 rfl rfl dX8_guestOfInput_1 ?_
  refine gf_X8_85 hx hb hg hown hK hP 1 rfl rfl dX8_guestOfInput_4 ?_
  refine lv_aload_n hx hb dX8_guestOfInput_7 rfl (lv_at hl 0 rfl) ?_
  refine gf_X8_10 hx hb hg hown hK hP 0 rfl rfl dX8_guestOfInput_8 ?_
  refine lv_iconst (v := 0) hx hb dX8_guestOfInput_11 (by decide) ?_
  refine lv_aload_n hx hb dX8_guestOfInput_12 rfl (lv_at hl 0 rfl) ?_
  refine gf_X8_10 hx hb hg hown hK hP 0 rfl rfl dX8_guestOfInput_13 ?_
  refine gf_X8_65 hx hb hg hown hK hP 11 rfl rfl dX8_guestOfInput_16 ?_
  obtain ⟨u1, hu1, hf⟩ := bn hf
  refine cm_V (As := [.ref (aB 0), .int 0, .int (vB 0 0)]) (rest := []) (w2 := (W_X aX aB aBw aP aN aNd aH aQ vX ++ (W_N aN aG aU aR vN ++ (W_G E aG vG ++ (W_B E aB vB))))) hx hb hml hown hg (c_X1_find E l aG aB vG vB 0 (vB 0 0) u1 hu1) cy_X1_find ml_X8_140 ⟨⟨rfl, rfl⟩, Nat.le_of_ble_eq_true rfl, Nat.le_of_ble_eq_true rfl⟩ hK hE hP hD hS hA [false, false, true, true, true, true, true, true, true, true, true, true, true] rfl rfl rfl 2 rfl rfl rfl hl.1 rfl (Nat.le_of_ble_eq_true rfl) dX8_guestOfInput_19 ⟨Nat.le_of_ble_eq_true rfl, Nat.le_of_ble_eq_true rfl⟩ [.int u1] rfl (fun H locs hP hD hS => ?_)
  refine lv_istore_n (lv' := [(1, .int u1), (0, .ref aX)]) hx hb dX8_guestOfInput_22 rfl hl (by decide) rfl (fun ls hl => ?_)
  refine lv_iload_n hx hb dX8_guestOfInput_23 rfl (lv_at hl 0 rfl) ?_
  refine lv_iconst (v := (-1)) hx hb dX8_guestOfInput_24 (by decide) ?_
  refine lv_icmp_ne (tgt := 38) hx hb dX8_guestOfInput_25 (by decide) (fun cq => ?_) (fun cq => ?_)
  · have hf := ie cq hf
    refine lv_iload_n hx hb dX8_guestOfInput_38 rfl (lv_at hl 0 rfl) ?_
    obtain rfl := Option.some.inj hf
    exact xm_yret (v := u1) rfl hx hb hr hlocks hP hS rfl dX8_guestOfInput_39 (Nat.le_of_ble_eq_true rfl) (Nat.le_of_ble_eq_true rfl)
  · have hf := it cq hf
    obtain rfl := Option.some.inj hf
    exact xm_throw3 (is := 144) (i := 35) (text := "no guest has this name") rfl hx hb hml hl.1 hst hown hg hE (List.mem_of_getElem? (i := 35) rfl) hout hlocks hP hS dX8_guestOfInput_28 dX8_guestOfInput_31 dX8_guestOfInput_32 dX8_guestOfInput_34 dX8_guestOfInput_37 (Nat.le_of_ble_eq_true rfl) (Nat.le_of_ble_eq_true rfl) (Nat.le_of_ble_eq_true rfl) (Nat.le_of_ble_eq_true rfl) (Nat.le_of_ble_eq_true rfl) (Nat.le_of_ble_eq_true rfl)
def F_X8_keysAtDesk (vX : Nat → Int32) (vN : Nat → Int32) (vG : Nat → Nat → Int32) : Option (Int32) := (F_X1_countAway vG).bind (fun u1 => (some u1))
abbrev rm_X8_keysAtDesk : Room := { frames := 2, cells := 0, slots := 0, locals := 43 }
set_option maxHeartbeats 4000000 in
set_option maxRecDepth 100000 in
theorem c_X8_keysAtDesk (E : Ev) (l : Launch) (aX : Nat) (aB : Nat → Nat) (aBw : Nat → Nat) (aP : Nat) (aN : Nat) (aNd : Nat) (aH : Nat) (aQ : Nat) (aG : Nat → Nat) (aU : Nat → Nat) (aR : Nat → Nat) (vX : Nat → Int32) (vN : Nat → Int32) (vG : Nat → Nat → Int32) (r : Int32) (hf : F_X8_keysAtDesk vX vN vG = some r) : CM E l yX8_keysAtDesk (.code yX8_keysAtDesk cX8_keysAtDesk 1 (some .int) :: GA) rm_X8_keysAtDesk [.ref aX] (W_X aX aB aBw aP aN aNd aH aQ vX ++ (W_N aN aG aU aR vN ++ (W_G E aG vG))) (some (.int r)) (W_X aX aB aBw aP aN aNd aH aQ vX ++ (W_N aN aG aU aR vN ++ (W_G E aG vG))) := by
  refine CM.of (own := RX8) rfl (by decide) (Nat.le_of_ble_eq_true rfl) ?_
  intro p e s m below meth c A ls hx hb hr hml hown hg hlocks hK hE hA hP hD hS hl
  have hl : lv_has ls 1 [(0, .ref aX)] := hl
  unfold F_X8_keysAtDesk at hf
  refine lv_aload_n hx hb dX8_keysAtDesk_0 rfl (lv_at hl 0 rfl) ?_
  refine gf_X8_31 hx hb hg hown hK hP 0 rfl rfl dX8_keysAtDesk_1 ?_
  refine gf_X8_85 hx hb hg hown hK hP 1 rfl rfl dX8_keysAtDesk_4 ?_
  obtain ⟨u1, hu1, hf⟩ := bn hf
  refine cm_V (As := []) (rest := []) (w2 := (W_X aX aB aBw aP aN aNd aH aQ vX ++ (W_N aN aG aU aR vN ++ (W_G E aG vG)))) hx hb hml hown hg (c_X1_countAway E l aG vG u1 hu1) cy_X1_countAway ml_X8_164 ⟨⟨rfl, rfl⟩, Nat.le_of_ble_eq_true rfl, Nat.le_of_ble_eq_true rfl⟩ hK hE hP hD hS hA [false, false, true, true, true, true, true, true, true, true, true] rfl rfl rfl 2 rfl rfl rfl hl.1 rfl (Nat.le_of_ble_eq_true rfl) dX8_keysAtDesk_7 ⟨Nat.le_of_ble_eq_true rfl, Nat.le_of_ble_eq_true rfl⟩ [.int u1] rfl (fun H locs hP hD hS => ?_)
  obtain rfl := Option.some.inj hf
  exact cm_iret hx hb hr hlocks hP hS dX8_keysAtDesk_10
def F_X8_umbrellaCount (vX : Nat → Int32) (vN : Nat → Int32) (vU : Nat → Nat → Int32) : Option (Int32) := (some (vU 0 0))
abbrev rm_X8_umbrellaCount : Room := { frames := 0, cells := 0, slots := 0, locals := 0 }
set_option maxHeartbeats 4000000 in
set_option maxRecDepth 100000 in
theorem c_X8_umbrellaCount (E : Ev) (l : Launch) (aX : Nat) (aB : Nat → Nat) (aBw : Nat → Nat) (aP : Nat) (aN : Nat) (aNd : Nat) (aH : Nat) (aQ : Nat) (aG : Nat → Nat) (aU : Nat → Nat) (aR : Nat → Nat) (vX : Nat → Int32) (vN : Nat → Int32) (vU : Nat → Nat → Int32) (r : Int32) (hf : F_X8_umbrellaCount vX vN vU = some r) : CM E l yX8_umbrellaCount (.code yX8_umbrellaCount cX8_umbrellaCount 1 (some .int) :: GA) rm_X8_umbrellaCount [.ref aX] (W_X aX aB aBw aP aN aNd aH aQ vX ++ (W_N aN aG aU aR vN ++ (W_U E aU vU))) (some (.int r)) (W_X aX aB aBw aP aN aNd aH aQ vX ++ (W_N aN aG aU aR vN ++ (W_U E aU vU))) := by
  refine CM.of (own := RX8) rfl (by decide) (Nat.le_of_ble_eq_true rfl) ?_
  intro p e s m below meth c A ls hx hb hr hml hown hg hlocks hK hE hA hP hD hS hl
  have hl : lv_has ls 1 [(0, .ref aX)] := hl
  unfold F_X8_umbrellaCount at hf
  refine lv_aload_n hx hb dX8_umbrellaCount_0 rfl (lv_at hl 0 rfl) ?_
  refine gf_X8_31 hx hb hg hown hK hP 0 rfl rfl dX8_umbrellaCount_1 ?_
  refine gf_X8_171 hx hb hg hown hK hP 1 rfl rfl dX8_umbrellaCount_4 ?_
  refine gf_X8_175 hx hb hg hown hK hP 2 rfl rfl dX8_umbrellaCount_7 ?_
  obtain rfl := Option.some.inj hf
  exact cm_iret hx hb hr hlocks hP hS dX8_umbrellaCount_10
def F_X8_standCount (vX : Nat → Int32) (vN : Nat → Int32) (vU : Nat → Nat → Int32) : Option (Int32) := (F_X7_countInStand vU).bind (fun u1 => (some u1))
abbrev rm_X8_standCount : Room := { frames := 2, cells := 0, slots := 0, locals := 43 }
set_option maxHeartbeats 4000000 in
set_option maxRecDepth 100000 in
theorem c_X8_standCount (E : Ev) (l : Launch) (aX : Nat) (aB : Nat → Nat) (aBw : Nat → Nat) (aP : Nat) (aN : Nat) (aNd : Nat) (aH : Nat) (aQ : Nat) (aG : Nat → Nat) (aU : Nat → Nat) (aR : Nat → Nat) (vX : Nat → Int32) (vN : Nat → Int32) (vU : Nat → Nat → Int32) (r : Int32) (hf : F_X8_standCount vX vN vU = some r) : CM E l yX8_standCount (.code yX8_standCount cX8_standCount 1 (some .int) :: GA) rm_X8_standCount [.ref aX] (W_X aX aB aBw aP aN aNd aH aQ vX ++ (W_N aN aG aU aR vN ++ (W_U E aU vU))) (some (.int r)) (W_X aX aB aBw aP aN aNd aH aQ vX ++ (W_N aN aG aU aR vN ++ (W_U E aU vU))) := by
  refine CM.of (own := RX8) rfl (by decide) (Nat.le_of_ble_eq_true rfl) ?_
  intro p e s m below meth c A ls hx hb hr hml hown hg hlocks hK hE hA hP hD hS hl
  have hl : lv_has ls 1 [(0, .ref aX)] := hl
  unfold F_X8_standCount at hf
  refine lv_aload_n hx hb dX8_standCount_0 rfl (lv_at hl 0 rfl) ?_
  refine gf_X8_31 hx hb hg hown hK hP 0 rfl rfl dX8_standCount_1 ?_
  refine gf_X8_171 hx hb hg hown hK hP 1 rfl rfl dX8_standCount_4 ?_
  obtain ⟨u1, hu1, hf⟩ := bn hf
  refine cm_V (As := []) (rest := []) (w2 := (W_X aX aB aBw aP aN aNd aH aQ vX ++ (W_N aN aG aU aR vN ++ (W_U E aU vU)))) hx hb hml hown hg (c_X7_countInStand E l aU vU u1 hu1) cy_X7_countInStand ml_X8_204 ⟨⟨rfl, rfl⟩, Nat.le_of_ble_eq_true rfl, Nat.le_of_ble_eq_true rfl⟩ hK hE hP hD hS hA [false, false, true, true, true, true] rfl rfl rfl 2 rfl rfl rfl hl.1 rfl (Nat.le_of_ble_eq_true rfl) dX8_standCount_7 ⟨Nat.le_of_ble_eq_true rfl, Nat.le_of_ble_eq_true rfl⟩ [.int u1] rfl (fun H locs hP hD hS => ?_)
  obtain rfl := Option.some.inj hf
  exact cm_iret hx hb hr hlocks hP hS dX8_standCount_10
def F_X8_borrowedCount (vX : Nat → Int32) (vN : Nat → Int32) (vU : Nat → Nat → Int32) : Option (Int32) := (F_X7_countBorrowed vU).bind (fun u1 => (some u1))
abbrev rm_X8_borrowedCount : Room := { frames := 2, cells := 0, slots := 0, locals := 43 }
set_option maxHeartbeats 4000000 in
set_option maxRecDepth 100000 in
theorem c_X8_borrowedCount (E : Ev) (l : Launch) (aX : Nat) (aB : Nat → Nat) (aBw : Nat → Nat) (aP : Nat) (aN : Nat) (aNd : Nat) (aH : Nat) (aQ : Nat) (aG : Nat → Nat) (aU : Nat → Nat) (aR : Nat → Nat) (vX : Nat → Int32) (vN : Nat → Int32) (vU : Nat → Nat → Int32) (r : Int32) (hf : F_X8_borrowedCount vX vN vU = some r) : CM E l yX8_borrowedCount (.code yX8_borrowedCount cX8_borrowedCount 1 (some .int) :: GA) rm_X8_borrowedCount [.ref aX] (W_X aX aB aBw aP aN aNd aH aQ vX ++ (W_N aN aG aU aR vN ++ (W_U E aU vU))) (some (.int r)) (W_X aX aB aBw aP aN aNd aH aQ vX ++ (W_N aN aG aU aR vN ++ (W_U E aU vU))) := by
  refine CM.of (own := RX8) rfl (by decide) (Nat.le_of_ble_eq_true rfl) ?_
  intro p e s m below meth c A ls hx hb hr hml hown hg hlocks hK hE hA hP hD hS hl
  have hl : lv_has ls 1 [(0, .ref aX)] := hl
  unfold F_X8_borrowedCount at hf
  refine lv_aload_n hx hb dX8_borrowedCount_0 rfl (lv_at hl 0 rfl) ?_
  refine gf_X8_31 hx hb hg hown hK hP 0 rfl rfl dX8_borrowedCount_1 ?_
  refine gf_X8_171 hx hb hg hown hK hP 1 rfl rfl dX8_borrowedCount_4 ?_
  obtain ⟨u1, hu1, hf⟩ := bn hf
  refine cm_V (As := []) (rest := []) (w2 := (W_X aX aB aBw aP aN aNd aH aQ vX ++ (W_N aN aG aU aR vN ++ (W_U E aU vU)))) hx hb hml hown hg (c_X7_countBorrowed E l aU vU u1 hu1) cy_X7_countBorrowed ml_X8_207 ⟨⟨rfl, rfl⟩, Nat.le_of_ble_eq_true rfl, Nat.le_of_ble_eq_true rfl⟩ hK hE hP hD hS hA [false, false, true, true, true, true] rfl rfl rfl 2 rfl rfl rfl hl.1 rfl (Nat.le_of_ble_eq_true rfl) dX8_borrowedCount_7 ⟨Nat.le_of_ble_eq_true rfl, Nat.le_of_ble_eq_true rfl⟩ [.int u1] rfl (fun H locs hP hD hS => ?_)
  obtain rfl := Option.some.inj hf
  exact cm_iret hx hb hr hlocks hP hS dX8_borrowedCount_10
def F_X8_entryCount (vX : Nat → Int32) (vN : Nat → Int32) (vR : Nat → Nat → Int32) : Option (Int32) := (some (vR 0 0))
abbrev rm_X8_entryCount : Room := { frames := 0, cells := 0, slots := 0, locals := 0 }
set_option maxHeartbeats 4000000 in
set_option maxRecDepth 100000 in
theorem c_X8_entryCount (E : Ev) (l : Launch) (aX : Nat) (aB : Nat → Nat) (aBw : Nat → Nat) (aP : Nat) (aN : Nat) (aNd : Nat) (aH : Nat) (aQ : Nat) (aG : Nat → Nat) (aU : Nat → Nat) (aR : Nat → Nat) (vX : Nat → Int32) (vN : Nat → Int32) (vR : Nat → Nat → Int32) (r : Int32) (hf : F_X8_entryCount vX vN vR = some r) : CM E l yX8_entryCount (.code yX8_entryCount cX8_entryCount 1 (some .int) :: GA) rm_X8_entryCount [.ref aX] (W_X aX aB aBw aP aN aNd aH aQ vX ++ (W_N aN aG aU aR vN ++ (W_R E aR vR))) (some (.int r)) (W_X aX aB aBw aP aN aNd aH aQ vX ++ (W_N aN aG aU aR vN ++ (W_R E aR vR))) := by
  refine CM.of (own := RX8) rfl (by decide) (Nat.le_of_ble_eq_true rfl) ?_
  intro p e s m below meth c A ls hx hb hr hml hown hg hlocks hK hE hA hP hD hS hl
  have hl : lv_has ls 1 [(0, .ref aX)] := hl
  unfold F_X8_entryCount at hf
  refine lv_aload_n hx hb dX8_entryCount_0 rfl (lv_at hl 0 rfl) ?_
  refine gf_X8_31 hx hb hg hown hK hP 0 rfl rfl dX8_entryCount_1 ?_
  refine gf_X8_210 hx hb hg hown hK hP 1 rfl rfl dX8_entryCount_4 ?_
  refine gf_X8_214 hx hb hg hown hK hP 2 rfl rfl dX8_entryCount_7 ?_
  obtain rfl := Option.some.inj hf
  exact cm_iret hx hb hr hlocks hP hS dX8_entryCount_10
def B_X8_meanMinutesOut_21 (rec : Int32 → Int32 → Int32 → Option (UInt64)) (vX : Nat → Int32) (vN : Nat → Int32) (vG : Nat → Nat → Int32) (vR : Nat → Nat → Int32) (x1 : Int32) (x2 : Int32) (x3 : Int32) : Option (UInt64) := (if x1 ≤ x3 then cn ((FP.ddiv (FP.i2d x2) (FP.i2d x1)) &&& 0x7fffffffffffffff ≤ 0x7ff0000000000000) ((some (FP.ddiv (FP.i2d x2) (FP.i2d x1)))) else (F_X3_sumOfMinutesAway vN vR x3 x3).bind (fun u1 => (rec x1 (x2 + u1) (x3 + 1))))
def L_X8_meanMinutesOut_21 (vX : Nat → Int32) (vN : Nat → Int32) (vG : Nat → Nat → Int32) (vR : Nat → Nat → Int32) : Nat → Int32 → Int32 → Int32 → Option (UInt64)
  | 0 => fun _ _ _ => none
  | n + 1 => fun x1 x2 x3 => B_X8_meanMinutesOut_21 (L_X8_meanMinutesOut_21 vX vN vG vR n) vX vN vG vR x1 x2 x3
def F_X8_meanMinutesOut (vX : Nat → Int32) (vN : Nat → Int32) (vG : Nat → Nat → Int32) (vR : Nat → Nat → Int32) : Option (UInt64) := (if (vG 0 0) = 0 then (some FP.dconst0) else (L_X8_meanMinutesOut_21 vX vN vG vR FU (vG 0 0) 0 0))
abbrev rm_X8_meanMinutesOut : Room := { frames := 3, cells := 0, slots := 0, locals := 74 }
set_option maxHeartbeats 4000000 in
set_option maxRecDepth 100000 in
theorem c_X8_meanMinutesOut (E : Ev) (l : Launch) (aX : Nat) (aB : Nat → Nat) (aBw : Nat → Nat) (aP : Nat) (aN : Nat) (aNd : Nat) (aH : Nat) (aQ : Nat) (aG : Nat → Nat) (aU : Nat → Nat) (aR : Nat → Nat) (vX : Nat → Int32) (vN : Nat → Int32) (vG : Nat → Nat → Int32) (vR : Nat → Nat → Int32) (r : UInt64) (hf : F_X8_meanMinutesOut vX vN vG vR = some r) : CM E l yX8_meanMinutesOut (.code yX8_meanMinutesOut cX8_meanMinutesOut 4 (some .double) :: GA) rm_X8_meanMinutesOut [.ref aX] (W_X aX aB aBw aP aN aNd aH aQ vX ++ (W_N aN aG aU aR vN ++ (W_G E aG vG ++ (W_R E aR vR)))) (some (.double r)) (W_X aX aB aBw aP aN aNd aH aQ vX ++ (W_N aN aG aU aR vN ++ (W_G E aG vG ++ (W_R E aR vR)))) := by
  refine CM.of (own := RX8) rfl (by decide) (Nat.le_of_ble_eq_true rfl) ?_
  intro p e s m below meth c A ls hx hb hr hml hown hg hlocks hK hE hA hP hD hS hl
  have hl : lv_has ls 4 [(0, .ref aX)] := hl
  have lp_21 : ∀ (n : Nat) (x1 : Int32) (x2 : Int32) (x3 : Int32) (H : Heap) (locs : List Loc) (ls : Array Slot), L_X8_meanMinutesOut_21 vX vN vG vR n x1 x2 x3 = some r → va_P E.1 vwCl (W_X aX aB aBw aP aN aNd aH aQ vX ++ (W_N aN aG aU aR vN ++ (W_G E aG vG ++ (W_R E aR vR)))) H → va_D A (W_X aX aB aBw aP aN aNd aH aQ vX ++ (W_N aN aG aU aR vN ++ (W_G E aG vG ++ (W_R E aR vR)))) → va_S A s.heap H locs → lv_has ls 4 [(0, .ref aX), (1, .int x1), (2, .int x2), (3, .int x3)] → W p l e rm_X8_meanMinutesOut s m ([.ref aX] : List Value).toArray below meth c H locs 0 0 (MQ below (QW E (some (.double r)) (W_X aX aB aBw aP aN aNd aH aQ vX ++ (W_N aN aG aU aR vN ++ (W_G E aG vG ++ (W_R E aR vR)))) A) ([.ref aX] : List Value).toArray s 0 0 A) (F0 m 21 ls []) := by
    intro n
    induction n with
    | zero => intro x1 x2 x3 H locs ls hf; cases hf
    | succ n ih =>
      intro x1 x2 x3 H locs ls hf hP hD hS hl
      replace hf : B_X8_meanMinutesOut_21 (L_X8_meanMinutesOut_21 vX vN vG vR n) vX vN vG vR x1 x2 x3 = some r := hf
      unfold B_X8_meanMinutesOut_21 at hf
      refine lv_iload_n hx hb dX8_meanMinutesOut_21 rfl (lv_at hl 3 rfl) ?_
      refine lv_iload_n hx hb dX8_meanMinutesOut_22 rfl (lv_at hl 1 rfl) ?_
      refine lv_icmp_ge (tgt := 44) hx hb dX8_meanMinutesOut_23 (by decide) (fun cq => ?_) (fun cq => ?_)
      · have hf := it cq hf
        refine lv_iload_n hx hb dX8_meanMinutesOut_44 rfl (lv_at hl 2 rfl) ?_
        refine lv_i2d hx hb dX8_meanMinutesOut_45 ?_
        refine lv_iload_n hx hb dX8_meanMinutesOut_46 rfl (lv_at hl 1 rfl) ?_
        refine lv_i2d hx hb dX8_meanMinutesOut_47 ?_
        obtain ⟨hnn, hf⟩ := cn_o hf
        refine lv_ddiv hx hb dX8_meanMinutesOut_48 hnn ?_
        obtain rfl := Option.some.inj hf
        exact cm_dret (v := (FP.ddiv (FP.i2d x2) (FP.i2d x1))) hx hb hr hlocks hP hS dX8_meanMinutesOut_49
      · have hf := ie cq hf
        refine lv_iload_n hx hb dX8_meanMinutesOut_26 rfl (lv_at hl 2 rfl) ?_
        refine lv_aload_n hx hb dX8_meanMinutesOut_27 rfl (lv_at hl 0 rfl) ?_
        refine gf_X8_31 hx hb hg hown hK hP 0 rfl rfl dX8_meanMinutesOut_28 ?_
        refine lv_iload_n hx hb dX8_meanMinutesOut_31 rfl (lv_at hl 3 rfl) ?_
        refine lv_iload_n hx hb dX8_meanMinutesOut_32 rfl (lv_at hl 3 rfl) ?_
        obtain ⟨u1, hu1, hf⟩ := bn hf
        refine cm_V (As := [.int x3, .int x3]) (rest := [.int x2]) (w2 := (W_X aX aB aBw aP aN aNd aH aQ vX ++ (W_N aN aG aU aR vN ++ (W_G E aG vG ++ (W_R E aR vR))))) hx hb hml hown hg (c_X3_sumOfMinutesAway E l aN aG aU aR vN vR x3 x3 u1 hu1) cy_X3_sumOfMinutesAway ml_X8_244 ⟨⟨rfl, rfl⟩, Nat.le_of_ble_eq_true rfl, Nat.le_of_ble_eq_true rfl⟩ hK hE hP hD hS hA [false, true, false, false, false, false, false, false, false, false, false, true, true, true, true] rfl rfl rfl 1 rfl rfl rfl hl.1 rfl (Nat.le_of_ble_eq_true rfl) dX8_meanMinutesOut_33 ⟨Nat.le_of_ble_eq_true rfl, Nat.le_of_ble_eq_true rfl⟩ [.int u1, .int x2] rfl (fun H locs hP hD hS => ?_)
        refine lv_iadd hx hb dX8_meanMinutesOut_36 ?_
        refine lv_istore_n (lv' := [(2, .int (x2 + u1)), (0, .ref aX), (1, .int x1), (3, .int x3)]) hx hb dX8_meanMinutesOut_37 rfl hl (by decide) rfl (fun ls hl => ?_)
        refine lv_iinc (v := (x3 + 1)) (lv' := [(3, .int (x3 + 1)), (2, .int (x2 + u1)), (0, .ref aX), (1, .int x1)]) hx hb dX8_meanMinutesOut_38 hl (k := 3) rfl rfl (by decide) rfl (fun ls hl => ?_)
        refine lv_goto (tgt := 21) hx hb dX8_meanMinutesOut_41 (by decide) ?_
        exact ih _ _ _ _ _ _ hf hP hD hS (lv_sub hl [2, 3, 1, 0] rfl)
  unfold F_X8_meanMinutesOut at hf
  refine lv_aload_n hx hb dX8_meanMinutesOut_0 rfl (lv_at hl 0 rfl) ?_
  refine gf_X8_31 hx hb hg hown hK hP 0 rfl rfl dX8_meanMinutesOut_1 ?_
  refine gf_X8_85 hx hb hg hown hK hP 1 rfl rfl dX8_meanMinutesOut_4 ?_
  refine gf_X8_89 hx hb hg hown hK hP 2 rfl rfl dX8_meanMinutesOut_7 ?_
  refine lv_istore_n (lv' := [(1, .int (vG 0 0)), (0, .ref aX)]) hx hb dX8_meanMinutesOut_10 rfl hl (by decide) rfl (fun ls hl => ?_)
  refine lv_iload_n hx hb dX8_meanMinutesOut_11 rfl (lv_at hl 0 rfl) ?_
  refine lv_if_ne (tgt := 17) hx hb dX8_meanMinutesOut_12 (by decide) (fun cq => ?_) (fun cq => ?_)
  · have hf := ie cq hf
    refine lv_iconst (v := 0) hx hb dX8_meanMinutesOut_17 (by decide) ?_
    refine lv_istore_n (lv' := [(2, .int 0), (1, .int (vG 0 0)), (0, .ref aX)]) hx hb dX8_meanMinutesOut_18 rfl hl (by decide) rfl (fun ls hl => ?_)
    refine lv_iconst (v := 0) hx hb dX8_meanMinutesOut_19 (by decide) ?_
    refine lv_istore_n (lv' := [(3, .int 0), (2, .int 0), (1, .int (vG 0 0)), (0, .ref aX)]) hx hb dX8_meanMinutesOut_20 rfl hl (by decide) rfl (fun ls hl => ?_)
    exact lp_21 FU _ _ _ _ _ _ hf hP hD hS (lv_sub hl [3, 2, 1, 0] rfl)
  · have hf := it cq hf
    refine lv_dconst0 hx hb dX8_meanMinutesOut_15 ?_
    obtain rfl := Option.some.inj hf
    exact cm_dret (v := FP.dconst0) hx hb hr hlocks hP hS dX8_meanMinutesOut_16
def F_X8_shareOut (vX : Nat → Int32) (vN : Nat → Int32) (vG : Nat → Nat → Int32) : Option (UInt32) := (if (vG 0 0) = 0 then (some FP.fconst0) else (F_X1_countAway vG).bind (fun u1 => cn ((FP.fdiv (FP.i2f u1) (FP.i2f (vG 0 0))) &&& 0x7fffffff ≤ 0x7f800000) ((some (FP.fdiv (FP.i2f u1) (FP.i2f (vG 0 0)))))))
abbrev rm_X8_shareOut : Room := { frames := 2, cells := 0, slots := 0, locals := 43 }
set_option maxHeartbeats 4000000 in
set_option maxRecDepth 100000 in
theorem c_X8_shareOut (E : Ev) (l : Launch) (aX : Nat) (aB : Nat → Nat) (aBw : Nat → Nat) (aP : Nat) (aN : Nat) (aNd : Nat) (aH : Nat) (aQ : Nat) (aG : Nat → Nat) (aU : Nat → Nat) (aR : Nat → Nat) (vX : Nat → Int32) (vN : Nat → Int32) (vG : Nat → Nat → Int32) (r : UInt32) (hf : F_X8_shareOut vX vN vG = some r) : CM E l yX8_shareOut (.code yX8_shareOut cX8_shareOut 2 (some .float) :: GA) rm_X8_shareOut [.ref aX] (W_X aX aB aBw aP aN aNd aH aQ vX ++ (W_N aN aG aU aR vN ++ (W_G E aG vG))) (some (.float r)) (W_X aX aB aBw aP aN aNd aH aQ vX ++ (W_N aN aG aU aR vN ++ (W_G E aG vG))) := by
  refine CM.of (own := RX8) rfl (by decide) (Nat.le_of_ble_eq_true rfl) ?_
  intro p e s m below meth c A ls hx hb hr hml hown hg hlocks hK hE hA hP hD hS hl
  have hl : lv_has ls 2 [(0, .ref aX)] := hl
  unfold F_X8_shareOut at hf
  refine lv_aload_n hx hb dX8_shareOut_0 rfl (lv_at hl 0 rfl) ?_
  refine gf_X8_31 hx hb hg hown hK hP 0 rfl rfl dX8_shareOut_1 ?_
  refine gf_X8_85 hx hb hg hown hK hP 1 rfl rfl dX8_shareOut_4 ?_
  refine gf_X8_89 hx hb hg hown hK hP 2 rfl rfl dX8_shareOut_7 ?_
  refine lv_istore_n (lv' := [(1, .int (vG 0 0)), (0, .ref aX)]) hx hb dX8_shareOut_10 rfl hl (by decide) rfl (fun ls hl => ?_)
  refine lv_iload_n hx hb dX8_shareOut_11 rfl (lv_at hl 0 rfl) ?_
  refine lv_if_ne (tgt := 17) hx hb dX8_shareOut_12 (by decide) (fun cq => ?_) (fun cq => ?_)
  · have hf := ie cq hf
    refine lv_aload_n hx hb dX8_shareOut_17 rfl (lv_at hl 1 rfl) ?_
    refine gf_X8_31 hx hb hg hown hK hP 0 rfl rfl dX8_shareOut_18 ?_
    refine gf_X8_85 hx hb hg hown hK hP 1 rfl rfl dX8_shareOut_21 ?_
    obtain ⟨u1, hu1, hf⟩ := bn hf
    refine cm_V (As := []) (rest := []) (w2 := (W_X aX aB aBw aP aN aNd aH aQ vX ++ (W_N aN aG aU aR vN ++ (W_G E aG vG)))) hx hb hml hown hg (c_X1_countAway E l aG vG u1 hu1) cy_X1_countAway ml_X8_164 ⟨⟨rfl, rfl⟩, Nat.le_of_ble_eq_true rfl, Nat.le_of_ble_eq_true rfl⟩ hK hE hP hD hS hA [false, false, true, true, true, true, true, true, true, true, true] rfl rfl rfl 2 rfl rfl rfl hl.1 rfl (Nat.le_of_ble_eq_true rfl) dX8_shareOut_24 ⟨Nat.le_of_ble_eq_true rfl, Nat.le_of_ble_eq_true rfl⟩ [.int u1] rfl (fun H locs hP hD hS => ?_)
    refine lv_i2f hx hb dX8_shareOut_27 ?_
    refine lv_iload_n hx hb dX8_shareOut_28 rfl (lv_at hl 0 rfl) ?_
    refine lv_i2f hx hb dX8_shareOut_29 ?_
    obtain ⟨hnn, hf⟩ := cn_o hf
    refine lv_fdiv hx hb dX8_shareOut_30 hnn ?_
    obtain rfl := Option.some.inj hf
    exact cm_fret (v := (FP.fdiv (FP.i2f u1) (FP.i2f (vG 0 0)))) hx hb hr hlocks hP hS dX8_shareOut_31
  · have hf := it cq hf
    refine lv_fconst0 hx hb dX8_shareOut_15 ?_
    obtain rfl := Option.some.inj hf
    exact cm_fret (v := FP.fconst0) hx hb hr hlocks hP hS dX8_shareOut_16
def F_X8_undo (vX : Nat → Int32) (vN : Nat → Int32) (vG : Nat → Nat → Int32) (vU : Nat → Nat → Int32) (vR : Nat → Nat → Int32) (vH : Nat → Int32) (vHV : Nat → NV) : Option (Nat × Int32 × (Nat → Int32) × (Nat → Nat → Int32) × (Nat → Nat → Int32) × (Nat → Nat → Int32) × (Nat → Int32)) := (if (vH 1) = 0 then (some (1, 0, vN, vG, vU, vR, vH)) else (F_X2_takeBack vN vG vU vR vH vHV).bind (fun u1 => (some (0, (u1.2.2.2.2 1), u1.1, u1.2.1, u1.2.2.1, u1.2.2.2.1, u1.2.2.2.2))))
abbrev rm_X8_undo : Room := { frames := 6, cells := 1, slots := 6, locals := 123 }
set_option maxHeartbeats 4000000 in
set_option maxRecDepth 100000 in
theorem c_X8_undo (E : Ev) (l : Launch) (hst : l.stackTraces = false) (aX : Nat) (aB : Nat → Nat) (aBw : Nat → Nat) (aP : Nat) (aN : Nat) (aNd : Nat) (aH : Nat) (aQ : Nat) (aG : Nat → Nat) (aU : Nat → Nat) (aR : Nat → Nat) (aHA : Nat) (kn : Nat → Nat) (kg : Nat → Nat → Nat) (ku : Nat → Nat → Nat) (kr : Nat → Nat → Nat) (vX : Nat → Int32) (vN : Nat → Int32) (vG : Nat → Nat → Int32) (vU : Nat → Nat → Int32) (vR : Nat → Nat → Int32) (vH : Nat → Int32) (vHV : Nat → NV) (r : Nat × Int32 × (Nat → Int32) × (Nat → Nat → Int32) × (Nat → Nat → Int32) × (Nat → Nat → Int32) × (Nat → Int32)) (hf : F_X8_undo vX vN vG vU vR vH vHV = some r) : XM E l yX8_undo (.code yX8_undo cX8_undo 1 (some .int) :: GA) rm_X8_undo [.ref aX] (W_X aX aB aBw aP aN aNd aH aQ vX ++ (W_N aN aG aU aR vN ++ (W_G E aG vG ++ (W_U E aU vU ++ (W_R E aR vR ++ (W_H aH aHA vH ++ (W_NA E aHA 8 kn ++ (W_V8 E kn kg ku kr vHV)))))))) r.1 (some (.int r.2.1)) (W_X aX aB aBw aP aN aNd aH aQ vX ++ (W_N aN aG aU aR r.2.2.1 ++ (W_G E aG r.2.2.2.1 ++ (W_U E aU r.2.2.2.2.1 ++ (W_R E aR r.2.2.2.2.2.1 ++ (W_H aH aHA r.2.2.2.2.2.2 ++ (W_NA E aHA 8 kn ++ (W_V8 E kn kg ku kr vHV)))))))) 1 := by
  refine XM.of (own := RX8) rfl (by decide) (Nat.le_of_ble_eq_true rfl) ?_
  intro p e s m below meth c A ls hx hb hr hml hown hg hlocks hK hE hA hout hP hD hS hl
  have hl : lv_has ls 1 [(0, .ref aX)] := hl
  unfold F_X8_undo at hf
  refine lv_aload_n hx hb dX8_undo_0 rfl (lv_at hl 0 rfl) ?_
  refine gf_X8_41 hx hb hg hown hK hP 0 rfl rfl dX8_undo_1 ?_
  refine gf_X8_305 hx hb hg hown hK hP 19 rfl rfl dX8_undo_4 ?_
  refine lv_if_ne (tgt := 21) hx hb dX8_undo_7 (by decide) (fun cq => ?_) (fun cq => ?_)
  · have hf := ie cq hf
    refine lv_aload_n hx hb dX8_undo_21 rfl (lv_at hl 0 rfl) ?_
    refine gf_X8_41 hx hb hg hown hK hP 0 rfl rfl dX8_undo_22 ?_
    refine lv_aload_n hx hb dX8_undo_25 rfl (lv_at hl 0 rfl) ?_
    refine gf_X8_31 hx hb hg hown hK hP 0 rfl rfl dX8_undo_26 ?_
    obtain ⟨u1, hu1, hf⟩ := bn hf
    refine cm_V (As := [.ref aN]) (rest := []) (w2 := (W_X aX aB aBw aP aN aNd aH aQ vX ++ (W_N aN aG aU aR u1.1 ++ (W_G E aG u1.2.1 ++ (W_U E aU u1.2.2.1 ++ (W_R E aR u1.2.2.2.1 ++ (W_H aH aHA u1.2.2.2.2 ++ (W_NA E aHA 8 kn ++ (W_V8 E kn kg ku kr vHV))))))))) hx hb hml hown hg (c_X2_takeBack E l aN aG aU aR aH aHA kn kg ku kr vN vG vU vR vH vHV u1 hu1) cy_X2_takeBack ml_X8_308 ⟨⟨rfl, rfl⟩, Nat.le_of_ble_eq_true rfl, Nat.le_of_ble_eq_true rfl⟩ hK hE hP hD hS hA [false, true, true, true, true, true, true, true, true, true, true, true, true, true, true, true, true, true, true, true, true, true, true, true, true, true, true, true, true, true, true, true, true, true, true, true, true, true, true, true, true, true, true, true, true, true, true, true, true, true, true, true, true, true, true, true, true, true, true, true, true, true, true, true, true, true, true, true, true, true, true, true, true, true, true, true, true, true, true, true, true, true, true, true, true, true, true, true, true, true, true, true, true, true, true, true, true, true, true, true, true, true, true, true, true, true, true, true, true, true, true, true, true, true, true, true, true, true, true, true, true, true, true, true, true, true, true, true, true, true, true, true, true, true, true, true, true, true, true, true, true, true, true, true, true, true, true, true, true, true, true, true, true, true, true, true, true, true, true, true, true, true, true, true, true] rfl rfl rfl 19 rfl rfl rfl hl.1 rfl (Nat.le_of_ble_eq_true rfl) dX8_undo_29 ⟨Nat.le_of_ble_eq_true rfl, Nat.le_of_ble_eq_true rfl⟩ [] rfl (fun H locs hP hD hS => ?_)
    refine lv_aload_n hx hb dX8_undo_32 rfl (lv_at hl 0 rfl) ?_
    refine gf_X8_41 hx hb hg hown hK hP 0 rfl rfl dX8_undo_33 ?_
    refine gf_X8_305 hx hb hg hown hK hP 19 rfl rfl dX8_undo_36 ?_
    obtain rfl := Option.some.inj hf
    exact xm_yret (v := (u1.2.2.2.2 1)) rfl hx hb hr hlocks hP hS rfl dX8_undo_39 (Nat.le_of_ble_eq_true rfl) (Nat.le_of_ble_eq_true rfl)
  · have hf := it cq hf
    obtain rfl := Option.some.inj hf
    exact xm_throw1W (is := 306) (i := 27) (text := "there is nothing to undo") rfl hx hb hml hl.1 hst hown hg hE (List.mem_of_getElem? (i := 27) rfl) hout hlocks hP hS dX8_undo_10 dX8_undo_13 dX8_undo_14 dX8_undo_17 dX8_undo_20 (Nat.le_of_ble_eq_true rfl) (Nat.le_of_ble_eq_true rfl) (Nat.le_of_ble_eq_true rfl) (Nat.le_of_ble_eq_true rfl) (Nat.le_of_ble_eq_true rfl) (Nat.le_of_ble_eq_true rfl)
def F_X8_writtenByte (vX : Nat → Int32) (vBw : Nat → Nat → Int32) (x1 : Int32) : Option (Nat × Int32) := (if x1 < 0 then (some (4, 0)) else (if x1 < (vBw 0 0) then ck x1 600 ((some (0, (vBw 1 (Int32.toNatClampNeg x1))))) else (some (4, 0))))
abbrev rm_X8_writtenByte : Room := { frames := 6, cells := 1, slots := 6, locals := 90 }
set_option maxHeartbeats 4000000 in
set_option maxRecDepth 100000 in
theorem c_X8_writtenByte (E : Ev) (l : Launch) (hst : l.stackTraces = false) (aX : Nat) (aB : Nat → Nat) (aBw : Nat → Nat) (aP : Nat) (aN : Nat) (aNd : Nat) (aH : Nat) (aQ : Nat) (vX : Nat → Int32) (vBw : Nat → Nat → Int32) (x1 : Int32) (r : Nat × Int32) (hf : F_X8_writtenByte vX vBw x1 = some r) : XM E l yX8_writtenByte (.code yX8_writtenByte cX8_writtenByte 2 (some .int) :: GA) rm_X8_writtenByte [.ref aX, .int x1] (W_X aX aB aBw aP aN aNd aH aQ vX ++ (W_B E aBw vBw)) r.1 (some (.int r.2)) (W_X aX aB aBw aP aN aNd aH aQ vX ++ (W_B E aBw vBw)) 1 := by
  refine XM.of (own := RX8) rfl (by decide) (Nat.le_of_ble_eq_true rfl) ?_
  intro p e s m below meth c A ls hx hb hr hml hown hg hlocks hK hE hA hout hP hD hS hl
  have hl : lv_has ls 2 [(0, .ref aX), (1, .int x1)] := hl
  unfold F_X8_writtenByte at hf
  refine lv_iload_n hx hb dX8_writtenByte_0 rfl (lv_at hl 1 rfl) ?_
  refine lv_if_lt (tgt := 15) hx hb dX8_writtenByte_1 (by decide) (fun cq => ?_) (fun cq => ?_)
  · have hf := it cq hf
    obtain rfl := Option.some.inj hf
    exact xm_throw4W (is := 335) (i := 43) (text := "no such byte") rfl hx hb hml hl.1 hst hown hg hE (List.mem_of_getElem? (i := 43) rfl) hout hlocks hP hS dX8_writtenByte_15 dX8_writtenByte_18 dX8_writtenByte_19 dX8_writtenByte_22 dX8_writtenByte_25 (Nat.le_of_ble_eq_true rfl) (Nat.le_of_ble_eq_true rfl) (Nat.le_of_ble_eq_true rfl) (Nat.le_of_ble_eq_true rfl) (Nat.le_of_ble_eq_true rfl) (Nat.le_of_ble_eq_true rfl)
  · have hf := ie cq hf
    refine lv_iload_n hx hb dX8_writtenByte_4 rfl (lv_at hl 1 rfl) ?_
    refine lv_aload_n hx hb dX8_writtenByte_5 rfl (lv_at hl 0 rfl) ?_
    refine gf_X8_16 hx hb hg hown hK hP 0 rfl rfl dX8_writtenByte_6 ?_
    refine gf_X8_65 hx hb hg hown hK hP 1 rfl rfl dX8_writtenByte_9 ?_
    refine lv_icmp_lt (tgt := 26) hx hb dX8_writtenByte_12 (by decide) (fun cq => ?_) (fun cq => ?_)
    · have hf := it cq hf
      refine lv_aload_n hx hb dX8_writtenByte_26 rfl (lv_at hl 0 rfl) ?_
      refine gf_X8_16 hx hb hg hown hK hP 0 rfl rfl dX8_writtenByte_27 ?_
      refine gf_X8_337 hx hb hg hown hK hP 1 rfl rfl dX8_writtenByte_30 ?_
      refine lv_iload_n hx hb dX8_writtenByte_33 rfl (lv_at hl 1 rfl) ?_
      obtain ⟨hi, hf⟩ := ck_o hf
      refine ar_ld hx hb hK hP 2 rfl hi dX8_writtenByte_34 ?_
      obtain rfl := Option.some.inj hf
      exact xm_yret (v := (vBw 1 (Int32.toNatClampNeg x1))) rfl hx hb hr hlocks hP hS rfl dX8_writtenByte_35 (Nat.le_of_ble_eq_true rfl) (Nat.le_of_ble_eq_true rfl)
    · have hf := ie cq hf
      obtain rfl := Option.some.inj hf
      exact xm_throw4W (is := 335) (i := 43) (text := "no such byte") rfl hx hb hml hl.1 hst hown hg hE (List.mem_of_getElem? (i := 43) rfl) hout hlocks hP hS dX8_writtenByte_15 dX8_writtenByte_18 dX8_writtenByte_19 dX8_writtenByte_22 dX8_writtenByte_25 (Nat.le_of_ble_eq_true rfl) (Nat.le_of_ble_eq_true rfl) (Nat.le_of_ble_eq_true rfl) (Nat.le_of_ble_eq_true rfl) (Nat.le_of_ble_eq_true rfl) (Nat.le_of_ble_eq_true rfl)
def F_X8_readInput (vX : Nat → Int32) (vP : Nat → Int32) (vN : Nat → Int32) (vG : Nat → Nat → Int32) (vU : Nat → Nat → Int32) (vR : Nat → Nat → Int32) (vNd : Nat → Int32) (vGd : Nat → Nat → Int32) (vUd : Nat → Nat → Int32) (vRd : Nat → Nat → Int32) (vH : Nat → Int32) (vQF : Nat → Int32) (vB : Nat → Nat → Int32) : Option ((Nat → Int32) × (Nat → Int32) × (Nat → Int32) × (Nat → Nat → Int32) × (Nat → Nat → Int32) × (Nat → Nat → Int32) × (Nat → Int32) × (Nat → Nat → Int32) × (Nat → Nat → Int32) × (Nat → Nat → Int32) × (Nat → Int32) × (Nat → Int32) × (Nat → Nat → Int32)) := (F_X4_readText vP vNd vGd vUd vRd vB).bind (fun u1 => lt (va_up vX 0 u1.1) (fun vX_7 => lt (va_up vB 0 (fun _ => 0)) (fun vB_8 => (if (vX_7 0) = (-1) then (F_X3_copyFrom vN vG vU vR u1.2.2.1 u1.2.2.2.1 u1.2.2.2.2.1 u1.2.2.2.2.2).bind (fun u2 => lt (va_up vH 1 0) (fun vH_9 => (F_X6_empty vQF).bind (fun u3 => (some (vX_7, u1.2.1, u2.1, u2.2.1, u2.2.2.1, u2.2.2.2, u1.2.2.1, u1.2.2.2.1, u1.2.2.2.2.1, u1.2.2.2.2.2, vH_9, u3, vB_8))))) else (some (vX_7, u1.2.1, vN, vG, vU, vR, u1.2.2.1, u1.2.2.2.1, u1.2.2.2.2.1, u1.2.2.2.2.2, vH, vQF, vB_8))))))
abbrev rm_X8_readInput : Room := { frames := 7, cells := 0, slots := 0, locals := 155 }
set_option maxHeartbeats 4000000 in
set_option maxRecDepth 100000 in
theorem c_X8_readInput (E : Ev) (l : Launch) (aX : Nat) (aB : Nat → Nat) (aBw : Nat → Nat) (aP : Nat) (aN : Nat) (aNd : Nat) (aH : Nat) (aQ : Nat) (aG : Nat → Nat) (aU : Nat → Nat) (aR : Nat → Nat) (aGd : Nat → Nat) (aUd : Nat → Nat) (aRd : Nat → Nat) (aHA : Nat) (aQA : Nat) (aQF : Nat) (vX : Nat → Int32) (vP : Nat → Int32) (vN : Nat → Int32) (vG : Nat → Nat → Int32) (vU : Nat → Nat → Int32) (vR : Nat → Nat → Int32) (vNd : Nat → Int32) (vGd : Nat → Nat → Int32) (vUd : Nat → Nat → Int32) (vRd : Nat → Nat → Int32) (vH : Nat → Int32) (vQF : Nat → Int32) (vB : Nat → Nat → Int32) (r : (Nat → Int32) × (Nat → Int32) × (Nat → Int32) × (Nat → Nat → Int32) × (Nat → Nat → Int32) × (Nat → Nat → Int32) × (Nat → Int32) × (Nat → Nat → Int32) × (Nat → Nat → Int32) × (Nat → Nat → Int32) × (Nat → Int32) × (Nat → Int32) × (Nat → Nat → Int32)) (hf : F_X8_readInput vX vP vN vG vU vR vNd vGd vUd vRd vH vQF vB = some r) : CM E l yX8_readInput (.code yX8_readInput cX8_readInput 1 none :: GA) rm_X8_readInput [.ref aX] (W_X aX aB aBw aP aN aNd aH aQ vX ++ (W_P aP aB vP ++ (W_N aN aG aU aR vN ++ (W_G E aG vG ++ (W_U E aU vU ++ (W_R E aR vR ++ (W_N aNd aGd aUd aRd vNd ++ (W_G E aGd vGd ++ (W_U E aUd vUd ++ (W_R E aRd vRd ++ (W_H aH aHA vH ++ (W_Q aQ aQA aQF ++ (W_Z E aQF 2 vQF ++ (W_B E aB vB)))))))))))))) none (W_X aX aB aBw aP aN aNd aH aQ r.1 ++ (W_P aP aB r.2.1 ++ (W_N aN aG aU aR r.2.2.1 ++ (W_G E aG r.2.2.2.1 ++ (W_U E aU r.2.2.2.2.1 ++ (W_R E aR r.2.2.2.2.2.1 ++ (W_N aNd aGd aUd aRd r.2.2.2.2.2.2.1 ++ (W_G E aGd r.2.2.2.2.2.2.2.1 ++ (W_U E aUd r.2.2.2.2.2.2.2.2.1 ++ (W_R E aRd r.2.2.2.2.2.2.2.2.2.1 ++ (W_H aH aHA r.2.2.2.2.2.2.2.2.2.2.1 ++ (W_Q aQ aQA aQF ++ (W_Z E aQF 2 r.2.2.2.2.2.2.2.2.2.2.2.1 ++ (W_B E aB r.2.2.2.2.2.2.2.2.2.2.2.2)))))))))))))) := by
  refine CM.of (own := RX8) rfl (by decide) (Nat.le_of_ble_eq_true rfl) ?_
  intro p e s m below meth c A ls hx hb hr hml hown hg hlocks hK hE hA hP hD hS hl
  have hl : lv_has ls 1 [(0, .ref aX)] := hl
  unfold F_X8_readInput at hf
  refine lv_aload_n hx hb dX8_readInput_0 rfl (lv_at hl 0 rfl) ?_
  refine lv_aload_n hx hb dX8_readInput_1 rfl (lv_at hl 0 rfl) ?_
  refine gf_X8_24 hx hb hg hown hK hP 0 rfl rfl dX8_readInput_2 ?_
  refine lv_aload_n hx hb dX8_readInput_5 rfl (lv_at hl 0 rfl) ?_
  refine gf_X8_35 hx hb hg hown hK hP 0 rfl rfl dX8_readInput_6 ?_
  obtain ⟨u1, hu1, hf⟩ := bn hf
  refine cm_V (As := [.ref aNd]) (rest := [.ref aX]) (w2 := (W_X aX aB aBw aP aN aNd aH aQ vX ++ (W_P aP aB u1.2.1 ++ (W_N aN aG aU aR vN ++ (W_G E aG vG ++ (W_U E aU vU ++ (W_R E aR vR ++ (W_N aNd aGd aUd aRd u1.2.2.1 ++ (W_G E aGd u1.2.2.2.1 ++ (W_U E aUd u1.2.2.2.2.1 ++ (W_R E aRd u1.2.2.2.2.2 ++ (W_H aH aHA vH ++ (W_Q aQ aQA aQF ++ (W_Z E aQF 2 vQF ++ (W_B E aB vB))))))))))))))) hx hb hml hown hg (c_X4_readText E l aP aB aNd aGd aUd aRd vP vNd vGd vUd vRd vB u1 hu1) cy_X4_readText ml_X8_340 ⟨⟨rfl, rfl⟩, Nat.le_of_ble_eq_true rfl, Nat.le_of_ble_eq_true rfl⟩ hK hE hP hD hS hA [false, true, false, false, false, false, false, false, false, false, false, false, false, false, false, false, false, false, false, false, true, true, true, true, true, true, true, true, true, true, true, true, true, true, true, true, true, true, false, false, false, true, true] rfl rfl rfl 1 rfl rfl rfl hl.1 rfl (Nat.le_of_ble_eq_true rfl) dX8_readInput_9 ⟨Nat.le_of_ble_eq_true rfl, Nat.le_of_ble_eq_true rfl⟩ [.int u1.1, .ref aX] rfl (fun H locs hP hD hS => ?_)
  refine pf_X8_52 (w2 := (W_X aX aB aBw aP aN aNd aH aQ (va_up vX 0 u1.1) ++ (W_P aP aB u1.2.1 ++ (W_N aN aG aU aR vN ++ (W_G E aG vG ++ (W_U E aU vU ++ (W_R E aR vR ++ (W_N aNd aGd aUd aRd u1.2.2.1 ++ (W_G E aGd u1.2.2.2.1 ++ (W_U E aUd u1.2.2.2.2.1 ++ (W_R E aRd u1.2.2.2.2.2 ++ (W_H aH aHA vH ++ (W_Q aQ aQA aQF ++ (W_Z E aQF 2 vQF ++ (W_B E aB vB))))))))))))))) hx hb hg hown hK hP hD hS 0 rfl (Nat.le_of_ble_eq_true rfl) rfl dX8_readInput_12 (fun H locs hP hD hS => ?_)
  obtain ⟨vX_7, hv, hf⟩ := lt_o hf
  rw [← hv] at hP hD
  clear hv
  refine lv_aload_n hx hb dX8_readInput_15 rfl (lv_at hl 0 rfl) ?_
  refine gf_X8_10 hx hb hg hown hK hP 0 rfl rfl dX8_readInput_16 ?_
  refine lv_iconst (v := 0) hx hb dX8_readInput_19 (by decide) ?_
  refine pf_X8_65 (w2 := (W_X aX aB aBw aP aN aNd aH aQ vX_7 ++ (W_P aP aB u1.2.1 ++ (W_N aN aG aU aR vN ++ (W_G E aG vG ++ (W_U E aU vU ++ (W_R E aR vR ++ (W_N aNd aGd aUd aRd u1.2.2.1 ++ (W_G E aGd u1.2.2.2.1 ++ (W_U E aUd u1.2.2.2.2.1 ++ (W_R E aRd u1.2.2.2.2.2 ++ (W_H aH aHA vH ++ (W_Q aQ aQA aQF ++ (W_Z E aQF 2 vQF ++ (W_B E aB (va_up vB 0 (fun _ => 0))))))))))))))))) hx hb hg hown hK hP hD hS 41 rfl (Nat.le_of_ble_eq_true rfl) rfl dX8_readInput_20 (fun H locs hP hD hS => ?_)
  obtain ⟨vB_8, hv, hf⟩ := lt_o hf
  rw [← hv] at hP hD
  clear hv
  refine lv_aload_n hx hb dX8_readInput_23 rfl (lv_at hl 0 rfl) ?_
  refine gf_X8_52 hx hb hg hown hK hP 0 rfl rfl dX8_readInput_24 ?_
  refine lv_iconst (v := (-1)) hx hb dX8_readInput_27 (by decide) ?_
  refine lv_icmp_ne (tgt := 57) hx hb dX8_readInput_28 (by decide) (fun cq => ?_) (fun cq => ?_)
  · have hf := ie cq hf
    obtain rfl := Option.some.inj hf
    exact cm_vret hx hb hr hlocks hP hS dX8_readInput_57
  · have hf := it cq hf
    refine lv_aload_n hx hb dX8_readInput_31 rfl (lv_at hl 0 rfl) ?_
    refine gf_X8_31 hx hb hg hown hK hP 0 rfl rfl dX8_readInput_32 ?_
    refine lv_aload_n hx hb dX8_readInput_35 rfl (lv_at hl 0 rfl) ?_
    refine gf_X8_35 hx hb hg hown hK hP 0 rfl rfl dX8_readInput_36 ?_
    obtain ⟨u2, hu2, hf⟩ := bn hf
    refine cm_V (As := [.ref aNd]) (rest := []) (w2 := (W_X aX aB aBw aP aN aNd aH aQ vX_7 ++ (W_P aP aB u1.2.1 ++ (W_N aN aG aU aR u2.1 ++ (W_G E aG u2.2.1 ++ (W_U E aU u2.2.2.1 ++ (W_R E aR u2.2.2.2 ++ (W_N aNd aGd aUd aRd u1.2.2.1 ++ (W_G E aGd u1.2.2.2.1 ++ (W_U E aUd u1.2.2.2.2.1 ++ (W_R E aRd u1.2.2.2.2.2 ++ (W_H aH aHA vH ++ (W_Q aQ aQA aQF ++ (W_Z E aQF 2 vQF ++ (W_B E aB vB_8))))))))))))))) hx hb hml hown hg (c_X3_copyFrom E l aN aG aU aR aNd aGd aUd aRd vN vG vU vR u1.2.2.1 u1.2.2.2.1 u1.2.2.2.2.1 u1.2.2.2.2.2 u2 hu2) cy_X3_copyFrom ml_X8_328 ⟨⟨rfl, rfl⟩, Nat.le_of_ble_eq_true rfl, Nat.le_of_ble_eq_true rfl⟩ hK hE hP hD hS hA [false, false, true, true, true, true, true, true, true, true, true, true, true, true, true, true, true, true, true, true, true, true, true, true, true, true, true, true, true, true, true, true, true, true, true, true, true, true] rfl rfl rfl 2 rfl rfl rfl hl.1 rfl (Nat.le_of_ble_eq_true rfl) dX8_readInput_39 ⟨Nat.le_of_ble_eq_true rfl, Nat.le_of_ble_eq_true rfl⟩ [] rfl (fun H locs hP hD hS => ?_)
    refine lv_aload_n hx hb dX8_readInput_42 rfl (lv_at hl 0 rfl) ?_
    refine gf_X8_41 hx hb hg hown hK hP 0 rfl rfl dX8_readInput_43 ?_
    refine lv_iconst (v := 0) hx hb dX8_readInput_46 (by decide) ?_
    refine pf_X8_305 (w2 := (W_X aX aB aBw aP aN aNd aH aQ vX_7 ++ (W_P aP aB u1.2.1 ++ (W_N aN aG aU aR u2.1 ++ (W_G E aG u2.2.1 ++ (W_U E aU u2.2.2.1 ++ (W_R E aR u2.2.2.2 ++ (W_N aNd aGd aUd aRd u1.2.2.1 ++ (W_G E aGd u1.2.2.2.1 ++ (W_U E aUd u1.2.2.2.2.1 ++ (W_R E aRd u1.2.2.2.2.2 ++ (W_H aH aHA (va_up vH 1 0) ++ (W_Q aQ aQA aQF ++ (W_Z E aQF 2 vQF ++ (W_B E aB vB_8))))))))))))))) hx hb hg hown hK hP hD hS 38 rfl (Nat.le_of_ble_eq_true rfl) rfl dX8_readInput_47 (fun H locs hP hD hS => ?_)
    obtain ⟨vH_9, hv, hf⟩ := lt_o hf
    rw [← hv] at hP hD
    clear hv
    refine lv_aload_n hx hb dX8_readInput_50 rfl (lv_at hl 0 rfl) ?_
    refine gf_X8_48 hx hb hg hown hK hP 0 rfl rfl dX8_readInput_51 ?_
    obtain ⟨u3, hu3, hf⟩ := bn hf
    refine cm_V (As := []) (rest := []) (w2 := (W_X aX aB aBw aP aN aNd aH aQ vX_7 ++ (W_P aP aB u1.2.1 ++ (W_N aN aG aU aR u2.1 ++ (W_G E aG u2.2.1 ++ (W_U E aU u2.2.2.1 ++ (W_R E aR u2.2.2.2 ++ (W_N aNd aGd aUd aRd u1.2.2.1 ++ (W_G E aGd u1.2.2.2.1 ++ (W_U E aUd u1.2.2.2.2.1 ++ (W_R E aRd u1.2.2.2.2.2 ++ (W_H aH aHA vH_9 ++ (W_Q aQ aQA aQF ++ (W_Z E aQF 2 u3 ++ (W_B E aB vB_8))))))))))))))) hx hb hml hown hg (c_X6_empty E l aQ aQA aQF vQF u3 hu3) cy_X6_empty ml_X8_344 ⟨⟨rfl, rfl⟩, Nat.le_of_ble_eq_true rfl, Nat.le_of_ble_eq_true rfl⟩ hK hE hP hD hS hA [false, false, false, false, false, false, false, false, false, false, false, false, false, false, false, false, false, false, false, false, false, false, false, false, false, false, false, false, false, false, false, false, false, false, false, false, false, false, false, true, true] rfl rfl rfl 39 rfl rfl rfl hl.1 rfl (Nat.le_of_ble_eq_true rfl) dX8_readInput_54 ⟨Nat.le_of_ble_eq_true rfl, Nat.le_of_ble_eq_true rfl⟩ [] rfl (fun H locs hP hD hS => ?_)
    obtain rfl := Option.some.inj hf
    exact cm_vret hx hb hr hlocks hP hS dX8_readInput_57
def F_X8_requireGuest (vX : Nat → Int32) (vN : Nat → Int32) (vG : Nat → Nat → Int32) (x1 : Int32) : Option (Nat) := (if x1 < 0 then (some 4) else (if x1 < (vG 0 0) then (some 0) else (some 4)))
abbrev rm_X8_requireGuest : Room := { frames := 6, cells := 1, slots := 6, locals := 90 }
set_option maxHeartbeats 4000000 in
set_option maxRecDepth 100000 in
theorem c_X8_requireGuest (E : Ev) (l : Launch) (hst : l.stackTraces = false) (aX : Nat) (aB : Nat → Nat) (aBw : Nat → Nat) (aP : Nat) (aN : Nat) (aNd : Nat) (aH : Nat) (aQ : Nat) (aG : Nat → Nat) (aU : Nat → Nat) (aR : Nat → Nat) (vX : Nat → Int32) (vN : Nat → Int32) (vG : Nat → Nat → Int32) (x1 : Int32) (r : Nat) (hf : F_X8_requireGuest vX vN vG x1 = some r) : XM E l yX8_requireGuest (.code yX8_requireGuest cX8_requireGuest 2 none :: GA) rm_X8_requireGuest [.ref aX, .int x1] (W_X aX aB aBw aP aN aNd aH aQ vX ++ (W_N aN aG aU aR vN ++ (W_G E aG vG))) r none (W_X aX aB aBw aP aN aNd aH aQ vX ++ (W_N aN aG aU aR vN ++ (W_G E aG vG))) 1 := by
  refine XM.of (own := RX8) rfl (by decide) (Nat.le_of_ble_eq_true rfl) ?_
  intro p e s m below meth c A ls hx hb hr hml hown hg hlocks hK hE hA hout hP hD hS hl
  have hl : lv_has ls 2 [(0, .ref aX), (1, .int x1)] := hl
  unfold F_X8_requireGuest at hf
  refine lv_iload_n hx hb dX8_requireGuest_0 rfl (lv_at hl 1 rfl) ?_
  refine lv_if_lt (tgt := 18) hx hb dX8_requireGuest_1 (by decide) (fun cq => ?_) (fun cq => ?_)
  · have hf := it cq hf
    obtain rfl := Option.some.inj hf
    exact xm_throw4W (is := 347) (i := 20) (text := "no such guest") rfl hx hb hml hl.1 hst hown hg hE (List.mem_of_getElem? (i := 20) rfl) hout hlocks hP hS dX8_requireGuest_18 dX8_requireGuest_21 dX8_requireGuest_22 dX8_requireGuest_25 dX8_requireGuest_28 (Nat.le_of_ble_eq_true rfl) (Nat.le_of_ble_eq_true rfl) (Nat.le_of_ble_eq_true rfl) (Nat.le_of_ble_eq_true rfl) (Nat.le_of_ble_eq_true rfl) (Nat.le_of_ble_eq_true rfl)
  · have hf := ie cq hf
    refine lv_iload_n hx hb dX8_requireGuest_4 rfl (lv_at hl 1 rfl) ?_
    refine lv_aload_n hx hb dX8_requireGuest_5 rfl (lv_at hl 0 rfl) ?_
    refine gf_X8_31 hx hb hg hown hK hP 0 rfl rfl dX8_requireGuest_6 ?_
    refine gf_X8_85 hx hb hg hown hK hP 1 rfl rfl dX8_requireGuest_9 ?_
    refine gf_X8_89 hx hb hg hown hK hP 2 rfl rfl dX8_requireGuest_12 ?_
    refine lv_icmp_lt (tgt := 29) hx hb dX8_requireGuest_15 (by decide) (fun cq => ?_) (fun cq => ?_)
    · have hf := it cq hf
      obtain rfl := Option.some.inj hf
      exact xm_vret rfl hx hb hr hlocks hP hS dX8_requireGuest_29 (Nat.le_of_ble_eq_true rfl) (Nat.le_of_ble_eq_true rfl)
    · have hf := ie cq hf
      obtain rfl := Option.some.inj hf
      exact xm_throw4W (is := 347) (i := 20) (text := "no such guest") rfl hx hb hml hl.1 hst hown hg hE (List.mem_of_getElem? (i := 20) rfl) hout hlocks hP hS dX8_requireGuest_18 dX8_requireGuest_21 dX8_requireGuest_22 dX8_requireGuest_25 dX8_requireGuest_28 (Nat.le_of_ble_eq_true rfl) (Nat.le_of_ble_eq_true rfl) (Nat.le_of_ble_eq_true rfl) (Nat.le_of_ble_eq_true rfl) (Nat.le_of_ble_eq_true rfl) (Nat.le_of_ble_eq_true rfl)
def F_X8_requireUmbrella (vX : Nat → Int32) (vN : Nat → Int32) (vU : Nat → Nat → Int32) (x1 : Int32) : Option (Nat) := (if x1 < 0 then (some 4) else (if x1 < (vU 0 0) then (some 0) else (some 4)))
abbrev rm_X8_requireUmbrella : Room := { frames := 6, cells := 1, slots := 6, locals := 90 }
set_option maxHeartbeats 4000000 in
set_option maxRecDepth 100000 in
theorem c_X8_requireUmbrella (E : Ev) (l : Launch) (hst : l.stackTraces = false) (aX : Nat) (aB : Nat → Nat) (aBw : Nat → Nat) (aP : Nat) (aN : Nat) (aNd : Nat) (aH : Nat) (aQ : Nat) (aG : Nat → Nat) (aU : Nat → Nat) (aR : Nat → Nat) (vX : Nat → Int32) (vN : Nat → Int32) (vU : Nat → Nat → Int32) (x1 : Int32) (r : Nat) (hf : F_X8_requireUmbrella vX vN vU x1 = some r) : XM E l yX8_requireUmbrella (.code yX8_requireUmbrella cX8_requireUmbrella 2 none :: GA) rm_X8_requireUmbrella [.ref aX, .int x1] (W_X aX aB aBw aP aN aNd aH aQ vX ++ (W_N aN aG aU aR vN ++ (W_U E aU vU))) r none (W_X aX aB aBw aP aN aNd aH aQ vX ++ (W_N aN aG aU aR vN ++ (W_U E aU vU))) 1 := by
  refine XM.of (own := RX8) rfl (by decide) (Nat.le_of_ble_eq_true rfl) ?_
  intro p e s m below meth c A ls hx hb hr hml hown hg hlocks hK hE hA hout hP hD hS hl
  have hl : lv_has ls 2 [(0, .ref aX), (1, .int x1)] := hl
  unfold F_X8_requireUmbrella at hf
  refine lv_iload_n hx hb dX8_requireUmbrella_0 rfl (lv_at hl 1 rfl) ?_
  refine lv_if_lt (tgt := 18) hx hb dX8_requireUmbrella_1 (by decide) (fun cq => ?_) (fun cq => ?_)
  · have hf := it cq hf
    obtain rfl := Option.some.inj hf
    exact xm_throw4W (is := 349) (i := 36) (text := "no such umbrella") rfl hx hb hml hl.1 hst hown hg hE (List.mem_of_getElem? (i := 36) rfl) hout hlocks hP hS dX8_requireUmbrella_18 dX8_requireUmbrella_21 dX8_requireUmbrella_22 dX8_requireUmbrella_25 dX8_requireUmbrella_28 (Nat.le_of_ble_eq_true rfl) (Nat.le_of_ble_eq_true rfl) (Nat.le_of_ble_eq_true rfl) (Nat.le_of_ble_eq_true rfl) (Nat.le_of_ble_eq_true rfl) (Nat.le_of_ble_eq_true rfl)
  · have hf := ie cq hf
    refine lv_iload_n hx hb dX8_requireUmbrella_4 rfl (lv_at hl 1 rfl) ?_
    refine lv_aload_n hx hb dX8_requireUmbrella_5 rfl (lv_at hl 0 rfl) ?_
    refine gf_X8_31 hx hb hg hown hK hP 0 rfl rfl dX8_requireUmbrella_6 ?_
    refine gf_X8_171 hx hb hg hown hK hP 1 rfl rfl dX8_requireUmbrella_9 ?_
    refine gf_X8_175 hx hb hg hown hK hP 2 rfl rfl dX8_requireUmbrella_12 ?_
    refine lv_icmp_lt (tgt := 29) hx hb dX8_requireUmbrella_15 (by decide) (fun cq => ?_) (fun cq => ?_)
    · have hf := it cq hf
      obtain rfl := Option.some.inj hf
      exact xm_vret rfl hx hb hr hlocks hP hS dX8_requireUmbrella_29 (Nat.le_of_ble_eq_true rfl) (Nat.le_of_ble_eq_true rfl)
    · have hf := ie cq hf
      obtain rfl := Option.some.inj hf
      exact xm_throw4W (is := 349) (i := 36) (text := "no such umbrella") rfl hx hb hml hl.1 hst hown hg hE (List.mem_of_getElem? (i := 36) rfl) hout hlocks hP hS dX8_requireUmbrella_18 dX8_requireUmbrella_21 dX8_requireUmbrella_22 dX8_requireUmbrella_25 dX8_requireUmbrella_28 (Nat.le_of_ble_eq_true rfl) (Nat.le_of_ble_eq_true rfl) (Nat.le_of_ble_eq_true rfl) (Nat.le_of_ble_eq_true rfl) (Nat.le_of_ble_eq_true rfl) (Nat.le_of_ble_eq_true rfl)
def F_X8_requireEntry (vX : Nat → Int32) (vN : Nat → Int32) (vR : Nat → Nat → Int32) (x1 : Int32) : Option (Nat) := (if x1 < 0 then (some 4) else (if x1 < (vR 0 0) then (some 0) else (some 4)))
abbrev rm_X8_requireEntry : Room := { frames := 6, cells := 1, slots := 6, locals := 90 }
set_option maxHeartbeats 4000000 in
set_option maxRecDepth 100000 in
theorem c_X8_requireEntry (E : Ev) (l : Launch) (hst : l.stackTraces = false) (aX : Nat) (aB : Nat → Nat) (aBw : Nat → Nat) (aP : Nat) (aN : Nat) (aNd : Nat) (aH : Nat) (aQ : Nat) (aG : Nat → Nat) (aU : Nat → Nat) (aR : Nat → Nat) (vX : Nat → Int32) (vN : Nat → Int32) (vR : Nat → Nat → Int32) (x1 : Int32) (r : Nat) (hf : F_X8_requireEntry vX vN vR x1 = some r) : XM E l yX8_requireEntry (.code yX8_requireEntry cX8_requireEntry 2 none :: GA) rm_X8_requireEntry [.ref aX, .int x1] (W_X aX aB aBw aP aN aNd aH aQ vX ++ (W_N aN aG aU aR vN ++ (W_R E aR vR))) r none (W_X aX aB aBw aP aN aNd aH aQ vX ++ (W_N aN aG aU aR vN ++ (W_R E aR vR))) 1 := by
  refine XM.of (own := RX8) rfl (by decide) (Nat.le_of_ble_eq_true rfl) ?_
  intro p e s m below meth c A ls hx hb hr hml hown hg hlocks hK hE hA hout hP hD hS hl
  have hl : lv_has ls 2 [(0, .ref aX), (1, .int x1)] := hl
  unfold F_X8_requireEntry at hf
  refine lv_iload_n hx hb dX8_requireEntry_0 rfl (lv_at hl 1 rfl) ?_
  refine lv_if_lt (tgt := 18) hx hb dX8_requireEntry_1 (by decide) (fun cq => ?_) (fun cq => ?_)
  · have hf := it cq hf
    obtain rfl := Option.some.inj hf
    exact xm_throw4W (is := 351) (i := 39) (text := "no such entry") rfl hx hb hml hl.1 hst hown hg hE (List.mem_of_getElem? (i := 39) rfl) hout hlocks hP hS dX8_requireEntry_18 dX8_requireEntry_21 dX8_requireEntry_22 dX8_requireEntry_25 dX8_requireEntry_28 (Nat.le_of_ble_eq_true rfl) (Nat.le_of_ble_eq_true rfl) (Nat.le_of_ble_eq_true rfl) (Nat.le_of_ble_eq_true rfl) (Nat.le_of_ble_eq_true rfl) (Nat.le_of_ble_eq_true rfl)
  · have hf := ie cq hf
    refine lv_iload_n hx hb dX8_requireEntry_4 rfl (lv_at hl 1 rfl) ?_
    refine lv_aload_n hx hb dX8_requireEntry_5 rfl (lv_at hl 0 rfl) ?_
    refine gf_X8_31 hx hb hg hown hK hP 0 rfl rfl dX8_requireEntry_6 ?_
    refine gf_X8_210 hx hb hg hown hK hP 1 rfl rfl dX8_requireEntry_9 ?_
    refine gf_X8_214 hx hb hg hown hK hP 2 rfl rfl dX8_requireEntry_12 ?_
    refine lv_icmp_lt (tgt := 29) hx hb dX8_requireEntry_15 (by decide) (fun cq => ?_) (fun cq => ?_)
    · have hf := it cq hf
      obtain rfl := Option.some.inj hf
      exact xm_vret rfl hx hb hr hlocks hP hS dX8_requireEntry_29 (Nat.le_of_ble_eq_true rfl) (Nat.le_of_ble_eq_true rfl)
    · have hf := ie cq hf
      obtain rfl := Option.some.inj hf
      exact xm_throw4W (is := 351) (i := 39) (text := "no such entry") rfl hx hb hml hl.1 hst hown hg hE (List.mem_of_getElem? (i := 39) rfl) hout hlocks hP hS dX8_requireEntry_18 dX8_requireEntry_21 dX8_requireEntry_22 dX8_requireEntry_25 dX8_requireEntry_28 (Nat.le_of_ble_eq_true rfl) (Nat.le_of_ble_eq_true rfl) (Nat.le_of_ble_eq_true rfl) (Nat.le_of_ble_eq_true rfl) (Nat.le_of_ble_eq_true rfl) (Nat.le_of_ble_eq_true rfl)
def F_X8_requireSlot (x1 : Int32) : Option (Nat) := (if x1 < 0 then (some 4) else (if x1 < 2 then (some 0) else (some 4)))
abbrev rm_X8_requireSlot : Room := { frames := 6, cells := 1, slots := 6, locals := 90 }
set_option maxHeartbeats 4000000 in
set_option maxRecDepth 100000 in
theorem c_X8_requireSlot (E : Ev) (l : Launch) (hst : l.stackTraces = false) (aX : Nat) (x1 : Int32) (r : Nat) (hf : F_X8_requireSlot x1 = some r) : XM E l yX8_requireSlot (.code yX8_requireSlot cX8_requireSlot 2 none :: GA) rm_X8_requireSlot [.ref aX, .int x1] [] r none [] 1 := by
  refine XM.of (own := RX8) rfl (by decide) (Nat.le_of_ble_eq_true rfl) ?_
  intro p e s m below meth c A ls hx hb hr hml hown hg hlocks hK hE hA hout hP hD hS hl
  have hl : lv_has ls 2 [(0, .ref aX), (1, .int x1)] := hl
  unfold F_X8_requireSlot at hf
  refine lv_iload_n hx hb dX8_requireSlot_0 rfl (lv_at hl 1 rfl) ?_
  refine lv_if_lt (tgt := 9) hx hb dX8_requireSlot_1 (by decide) (fun cq => ?_) (fun cq => ?_)
  · have hf := it cq hf
    obtain rfl := Option.some.inj hf
    exact xm_throw4W (is := 353) (i := 28) (text := "no such slot") rfl hx hb hml hl.1 hst hown hg hE (List.mem_of_getElem? (i := 28) rfl) hout hlocks hP hS dX8_requireSlot_9 dX8_requireSlot_12 dX8_requireSlot_13 dX8_requireSlot_16 dX8_requireSlot_19 (Nat.le_of_ble_eq_true rfl) (Nat.le_of_ble_eq_true rfl) (Nat.le_of_ble_eq_true rfl) (Nat.le_of_ble_eq_true rfl) (Nat.le_of_ble_eq_true rfl) (Nat.le_of_ble_eq_true rfl)
  · have hf := ie cq hf
    refine lv_iload_n hx hb dX8_requireSlot_4 rfl (lv_at hl 1 rfl) ?_
    refine lv_iconst (v := 2) hx hb dX8_requireSlot_5 (by decide) ?_
    refine lv_icmp_lt (tgt := 20) hx hb dX8_requireSlot_6 (by decide) (fun cq => ?_) (fun cq => ?_)
    · have hf := it cq hf
      obtain rfl := Option.some.inj hf
      exact xm_vret rfl hx hb hr hlocks hP hS dX8_requireSlot_20 (Nat.le_of_ble_eq_true rfl) (Nat.le_of_ble_eq_true rfl)
    · have hf := ie cq hf
      obtain rfl := Option.some.inj hf
      exact xm_throw4W (is := 353) (i := 28) (text := "no such slot") rfl hx hb hml hl.1 hst hown hg hE (List.mem_of_getElem? (i := 28) rfl) hout hlocks hP hS dX8_requireSlot_9 dX8_requireSlot_12 dX8_requireSlot_13 dX8_requireSlot_16 dX8_requireSlot_19 (Nat.le_of_ble_eq_true rfl) (Nat.le_of_ble_eq_true rfl) (Nat.le_of_ble_eq_true rfl) (Nat.le_of_ble_eq_true rfl) (Nat.le_of_ble_eq_true rfl) (Nat.le_of_ble_eq_true rfl)
def F_X8_requirePassed (vX : Nat → Int32) (vN : Nat → Int32) (x1 : Int32) (x2 : Int32) : Option (Nat) := (if x1 < 0 then (some 2) else (if x2 < x1 then (some 2) else (if x2 < (vN 0) then (some 0) else (some 2))))
abbrev rm_X8_requirePassed : Room := { frames := 6, cells := 1, slots := 6, locals := 90 }
set_option maxHeartbeats 4000000 in
set_option maxRecDepth 100000 in
theorem c_X8_requirePassed (E : Ev) (l : Launch) (hst : l.stackTraces = false) (aX : Nat) (aB : Nat → Nat) (aBw : Nat → Nat) (aP : Nat) (aN : Nat) (aNd : Nat) (aH : Nat) (aQ : Nat) (aG : Nat → Nat) (aU : Nat → Nat) (aR : Nat → Nat) (vX : Nat → Int32) (vN : Nat → Int32) (x1 : Int32) (x2 : Int32) (r : Nat) (hf : F_X8_requirePassed vX vN x1 x2 = some r) : XM E l yX8_requirePassed (.code yX8_requirePassed cX8_requirePassed 3 none :: GA) rm_X8_requirePassed [.ref aX, .int x1, .int x2] (W_X aX aB aBw aP aN aNd aH aQ vX ++ (W_N aN aG aU aR vN)) r none (W_X aX aB aBw aP aN aNd aH aQ vX ++ (W_N aN aG aU aR vN)) 1 := by
  refine XM.of (own := RX8) rfl (by decide) (Nat.le_of_ble_eq_true rfl) ?_
  intro p e s m below meth c A ls hx hb hr hml hown hg hlocks hK hE hA hout hP hD hS hl
  have hl : lv_has ls 3 [(0, .ref aX), (1, .int x1), (2, .int x2)] := hl
  unfold F_X8_requirePassed at hf
  refine lv_iload_n hx hb dX8_requirePassed_0 rfl (lv_at hl 1 rfl) ?_
  refine lv_if_lt (tgt := 20) hx hb dX8_requirePassed_1 (by decide) (fun cq => ?_) (fun cq => ?_)
  · have hf := it cq hf
    obtain rfl := Option.some.inj hf
    exact xm_throw2W (is := 355) (i := 40) (text := "these minutes have not all passed") rfl hx hb hml hl.1 hst hown hg hE (List.mem_of_getElem? (i := 40) rfl) hout hlocks hP hS dX8_requirePassed_20 dX8_requirePassed_23 dX8_requirePassed_24 dX8_requirePassed_27 dX8_requirePassed_30 (Nat.le_of_ble_eq_true rfl) (Nat.le_of_ble_eq_true rfl) (Nat.le_of_ble_eq_true rfl) (Nat.le_of_ble_eq_true rfl) (Nat.le_of_ble_eq_true rfl) (Nat.le_of_ble_eq_true rfl)
  · have hf := ie cq hf
    refine lv_iload_n hx hb dX8_requirePassed_4 rfl (lv_at hl 2 rfl) ?_
    refine lv_iload_n hx hb dX8_requirePassed_5 rfl (lv_at hl 1 rfl) ?_
    refine lv_icmp_lt (tgt := 20) hx hb dX8_requirePassed_6 (by decide) (fun cq => ?_) (fun cq => ?_)
    · have hf := it cq hf
      obtain rfl := Option.some.inj hf
      exact xm_throw2W (is := 355) (i := 40) (text := "these minutes have not all passed") rfl hx hb hml hl.1 hst hown hg hE (List.mem_of_getElem? (i := 40) rfl) hout hlocks hP hS dX8_requirePassed_20 dX8_requirePassed_23 dX8_requirePassed_24 dX8_requirePassed_27 dX8_requirePassed_30 (Nat.le_of_ble_eq_true rfl) (Nat.le_of_ble_eq_true rfl) (Nat.le_of_ble_eq_true rfl) (Nat.le_of_ble_eq_true rfl) (Nat.le_of_ble_eq_true rfl) (Nat.le_of_ble_eq_true rfl)
    · have hf := ie cq hf
      refine lv_iload_n hx hb dX8_requirePassed_9 rfl (lv_at hl 2 rfl) ?_
      refine lv_aload_n hx hb dX8_requirePassed_10 rfl (lv_at hl 0 rfl) ?_
      refine gf_X8_31 hx hb hg hown hK hP 0 rfl rfl dX8_requirePassed_11 ?_
      refine gf_X8_99 hx hb hg hown hK hP 1 rfl rfl dX8_requirePassed_14 ?_
      refine lv_icmp_lt (tgt := 31) hx hb dX8_requirePassed_17 (by decide) (fun cq => ?_) (fun cq => ?_)
      · have hf := it cq hf
        obtain rfl := Option.some.inj hf
        exact xm_vret rfl hx hb hr hlocks hP hS dX8_requirePassed_31 (Nat.le_of_ble_eq_true rfl) (Nat.le_of_ble_eq_true rfl)
      · have hf := ie cq hf
        obtain rfl := Option.some.inj hf
        exact xm_throw2W (is := 355) (i := 40) (text := "these minutes have not all passed") rfl hx hb hml hl.1 hst hown hg hE (List.mem_of_getElem? (i := 40) rfl) hout hlocks hP hS dX8_requirePassed_20 dX8_requirePassed_23 dX8_requirePassed_24 dX8_requirePassed_27 dX8_requirePassed_30 (Nat.le_of_ble_eq_true rfl) (Nat.le_of_ble_eq_true rfl) (Nat.le_of_ble_eq_true rfl) (Nat.le_of_ble_eq_true rfl) (Nat.le_of_ble_eq_true rfl) (Nat.le_of_ble_eq_true rfl)
def F_X8_requireRange (x1 : Int32) (x2 : Int32) (x3 : Int32) : Option (Nat) := (if x1 < x2 then (some 2) else (if x1 ≤ x3 then (some 0) else (some 2)))
abbrev rm_X8_requireRange : Room := { frames := 6, cells := 1, slots := 6, locals := 90 }
set_option maxHeartbeats 4000000 in
set_option maxRecDepth 100000 in
theorem c_X8_requireRange (E : Ev) (l : Launch) (hst : l.stackTraces = false) (aX : Nat) (x1 : Int32) (x2 : Int32) (x3 : Int32) (r : Nat) (hf : F_X8_requireRange x1 x2 x3 = some r) : XM E l yX8_requireRange (.code yX8_requireRange cX8_requireRange 4 none :: GA) rm_X8_requireRange [.ref aX, .int x1, .int x2, .int x3] [] r none [] 1 := by
  refine XM.of (own := RX8) rfl (by decide) (Nat.le_of_ble_eq_true rfl) ?_
  intro p e s m below meth c A ls hx hb hr hml hown hg hlocks hK hE hA hout hP hD hS hl
  have hl : lv_has ls 4 [(0, .ref aX), (1, .int x1), (2, .int x2), (3, .int x3)] := hl
  unfold F_X8_requireRange at hf
  refine lv_iload_n hx hb dX8_requireRange_0 rfl (lv_at hl 1 rfl) ?_
  refine lv_iload_n hx hb dX8_requireRange_1 rfl (lv_at hl 2 rfl) ?_
  refine lv_icmp_lt (tgt := 10) hx hb dX8_requireRange_2 (by decide) (fun cq => ?_) (fun cq => ?_)
  · have hf := it cq hf
    obtain rfl := Option.some.inj hf
    exact xm_throw2W (is := 357) (i := 16) (text := "the number is out of its range") rfl hx hb hml hl.1 hst hown hg hE (List.mem_of_getElem? (i := 16) rfl) hout hlocks hP hS dX8_requireRange_10 dX8_requireRange_13 dX8_requireRange_14 dX8_requireRange_17 dX8_requireRange_20 (Nat.le_of_ble_eq_true rfl) (Nat.le_of_ble_eq_true rfl) (Nat.le_of_ble_eq_true rfl) (Nat.le_of_ble_eq_true rfl) (Nat.le_of_ble_eq_true rfl) (Nat.le_of_ble_eq_true rfl)
  · have hf := ie cq hf
    refine lv_iload_n hx hb dX8_requireRange_5 rfl (lv_at hl 1 rfl) ?_
    refine lv_iload_n hx hb dX8_requireRange_6 rfl (lv_at hl 3 rfl) ?_
    refine lv_icmp_le (tgt := 21) hx hb dX8_requireRange_7 (by decide) (fun cq => ?_) (fun cq => ?_)
    · have hf := it cq hf
      obtain rfl := Option.some.inj hf
      exact xm_vret rfl hx hb hr hlocks hP hS dX8_requireRange_21 (Nat.le_of_ble_eq_true rfl) (Nat.le_of_ble_eq_true rfl)
    · have hf := ie cq hf
      obtain rfl := Option.some.inj hf
      exact xm_throw2W (is := 357) (i := 16) (text := "the number is out of its range") rfl hx hb hml hl.1 hst hown hg hE (List.mem_of_getElem? (i := 16) rfl) hout hlocks hP hS dX8_requireRange_10 dX8_requireRange_13 dX8_requireRange_14 dX8_requireRange_17 dX8_requireRange_20 (Nat.le_of_ble_eq_true rfl) (Nat.le_of_ble_eq_true rfl) (Nat.le_of_ble_eq_true rfl) (Nat.le_of_ble_eq_true rfl) (Nat.le_of_ble_eq_true rfl) (Nat.le_of_ble_eq_true rfl)
def F_X8_requireRoomForEntry (vX : Nat → Int32) (vN : Nat → Int32) (vR : Nat → Nat → Int32) : Option (Nat) := (if (vR 0 0) < 60 then (some 0) else (some 1))
abbrev rm_X8_requireRoomForEntry : Room := { frames := 6, cells := 1, slots := 6, locals := 90 }
set_option maxHeartbeats 4000000 in
set_option maxRecDepth 100000 in
theorem c_X8_requireRoomForEntry (E : Ev) (l : Launch) (hst : l.stackTraces = false) (aX : Nat) (aB : Nat → Nat) (aBw : Nat → Nat) (aP : Nat) (aN : Nat) (aNd : Nat) (aH : Nat) (aQ : Nat) (aG : Nat → Nat) (aU : Nat → Nat) (aR : Nat → Nat) (vX : Nat → Int32) (vN : Nat → Int32) (vR : Nat → Nat → Int32) (r : Nat) (hf : F_X8_requireRoomForEntry vX vN vR = some r) : XM E l yX8_requireRoomForEntry (.code yX8_requireRoomForEntry cX8_requireRoomForEntry 1 none :: GA) rm_X8_requireRoomForEntry [.ref aX] (W_X aX aB aBw aP aN aNd aH aQ vX ++ (W_N aN aG aU aR vN ++ (W_R E aR vR))) r none (W_X aX aB aBw aP aN aNd aH aQ vX ++ (W_N aN aG aU aR vN ++ (W_R E aR vR))) 1 := by
  refine XM.of (own := RX8) rfl (by decide) (Nat.le_of_ble_eq_true rfl) ?_
  intro p e s m below meth c A ls hx hb hr hml hown hg hlocks hK hE hA hout hP hD hS hl
  have hl : lv_has ls 1 [(0, .ref aX)] := hl
  unfold F_X8_requireRoomForEntry at hf
  refine lv_aload_n hx hb dX8_requireRoomForEntry_0 rfl (lv_at hl 0 rfl) ?_
  refine gf_X8_31 hx hb hg hown hK hP 0 rfl rfl dX8_requireRoomForEntry_1 ?_
  refine gf_X8_210 hx hb hg hown hK hP 1 rfl rfl dX8_requireRoomForEntry_4 ?_
  refine gf_X8_214 hx hb hg hown hK hP 2 rfl rfl dX8_requireRoomForEntry_7 ?_
  refine lv_bipush (v := 60) hx hb dX8_requireRoomForEntry_10 (by decide) ?_
  refine lv_icmp_lt (tgt := 26) hx hb dX8_requireRoomForEntry_12 (by decide) (fun cq => ?_) (fun cq => ?_)
  · have hf := it cq hf
    obtain rfl := Option.some.inj hf
    exact xm_vret rfl hx hb hr hlocks hP hS dX8_requireRoomForEntry_26 (Nat.le_of_ble_eq_true rfl) (Nat.le_of_ble_eq_true rfl)
  · have hf := ie cq hf
    obtain rfl := Option.some.inj hf
    exact xm_throw1W (is := 359) (i := 23) (text := "the register is full") rfl hx hb hml hl.1 hst hown hg hE (List.mem_of_getElem? (i := 23) rfl) hout hlocks hP hS dX8_requireRoomForEntry_15 dX8_requireRoomForEntry_18 dX8_requireRoomForEntry_19 dX8_requireRoomForEntry_22 dX8_requireRoomForEntry_25 (Nat.le_of_ble_eq_true rfl) (Nat.le_of_ble_eq_true rfl) (Nat.le_of_ble_eq_true rfl) (Nat.le_of_ble_eq_true rfl) (Nat.le_of_ble_eq_true rfl) (Nat.le_of_ble_eq_true rfl)
def F_X8_load (vX : Nat → Int32) (vP : Nat → Int32) (vN : Nat → Int32) (vG : Nat → Nat → Int32) (vU : Nat → Nat → Int32) (vR : Nat → Nat → Int32) (vNd : Nat → Int32) (vGd : Nat → Nat → Int32) (vUd : Nat → Nat → Int32) (vRd : Nat → Nat → Int32) (vH : Nat → Int32) (vQF : Nat → Int32) (vB : Nat → Nat → Int32) : Option (Nat × Int32 × (Nat → Int32) × (Nat → Int32) × (Nat → Int32) × (Nat → Nat → Int32) × (Nat → Nat → Int32) × (Nat → Nat → Int32) × (Nat → Int32) × (Nat → Nat → Int32) × (Nat → Nat → Int32) × (Nat → Nat → Int32) × (Nat → Int32) × (Nat → Int32) × (Nat → Nat → Int32)) := (F_X8_readInput vX vP vN vG vU vR vNd vGd vUd vRd vH vQF vB).bind (fun u1 => (if (u1.1 0) = (-1) then (some (0, (u1.2.2.2.1 0 0), u1.1, u1.2.1, u1.2.2.1, u1.2.2.2.1, u1.2.2.2.2.1, u1.2.2.2.2.2.1, u1.2.2.2.2.2.2.1, u1.2.2.2.2.2.2.2.1, u1.2.2.2.2.2.2.2.2.1, u1.2.2.2.2.2.2.2.2.2.1, u1.2.2.2.2.2.2.2.2.2.2.1, u1.2.2.2.2.2.2.2.2.2.2.2.1, u1.2.2.2.2.2.2.2.2.2.2.2.2)) else (some (2, 0, u1.1, u1.2.1, u1.2.2.1, u1.2.2.2.1, u1.2.2.2.2.1, u1.2.2.2.2.2.1, u1.2.2.2.2.2.2.1, u1.2.2.2.2.2.2.2.1, u1.2.2.2.2.2.2.2.2.1, u1.2.2.2.2.2.2.2.2.2.1, u1.2.2.2.2.2.2.2.2.2.2.1, u1.2.2.2.2.2.2.2.2.2.2.2.1, u1.2.2.2.2.2.2.2.2.2.2.2.2))))
abbrev rm_X8_load : Room := { frames := 8, cells := 1, slots := 6, locals := 175 }
set_option maxHeartbeats 4000000 in
set_option maxRecDepth 100000 in
theorem c_X8_load (E : Ev) (l : Launch) (hst : l.stackTraces = false) (aX : Nat) (aB : Nat → Nat) (aBw : Nat → Nat) (aP : Nat) (aN : Nat) (aNd : Nat) (aH : Nat) (aQ : Nat) (aG : Nat → Nat) (aU : Nat → Nat) (aR : Nat → Nat) (aGd : Nat → Nat) (aUd : Nat → Nat) (aRd : Nat → Nat) (aHA : Nat) (aQA : Nat) (aQF : Nat) (vX : Nat → Int32) (vP : Nat → Int32) (vN : Nat → Int32) (vG : Nat → Nat → Int32) (vU : Nat → Nat → Int32) (vR : Nat → Nat → Int32) (vNd : Nat → Int32) (vGd : Nat → Nat → Int32) (vUd : Nat → Nat → Int32) (vRd : Nat → Nat → Int32) (vH : Nat → Int32) (vQF : Nat → Int32) (vB : Nat → Nat → Int32) (r : Nat × Int32 × (Nat → Int32) × (Nat → Int32) × (Nat → Int32) × (Nat → Nat → Int32) × (Nat → Nat → Int32) × (Nat → Nat → Int32) × (Nat → Int32) × (Nat → Nat → Int32) × (Nat → Nat → Int32) × (Nat → Nat → Int32) × (Nat → Int32) × (Nat → Int32) × (Nat → Nat → Int32)) (hf : F_X8_load vX vP vN vG vU vR vNd vGd vUd vRd vH vQF vB = some r) : XM E l yX8_load (.code yX8_load cX8_load 1 (some .int) :: GA) rm_X8_load [.ref aX] (W_X aX aB aBw aP aN aNd aH aQ vX ++ (W_P aP aB vP ++ (W_N aN aG aU aR vN ++ (W_G E aG vG ++ (W_U E aU vU ++ (W_R E aR vR ++ (W_N aNd aGd aUd aRd vNd ++ (W_G E aGd vGd ++ (W_U E aUd vUd ++ (W_R E aRd vRd ++ (W_H aH aHA vH ++ (W_Q aQ aQA aQF ++ (W_Z E aQF 2 vQF ++ (W_B E aB vB)))))))))))))) r.1 (some (.int r.2.1)) (W_X aX aB aBw aP aN aNd aH aQ r.2.2.1 ++ (W_P aP aB r.2.2.2.1 ++ (W_N aN aG aU aR r.2.2.2.2.1 ++ (W_G E aG r.2.2.2.2.2.1 ++ (W_U E aU r.2.2.2.2.2.2.1 ++ (W_R E aR r.2.2.2.2.2.2.2.1 ++ (W_N aNd aGd aUd aRd r.2.2.2.2.2.2.2.2.1 ++ (W_G E aGd r.2.2.2.2.2.2.2.2.2.1 ++ (W_U E aUd r.2.2.2.2.2.2.2.2.2.2.1 ++ (W_R E aRd r.2.2.2.2.2.2.2.2.2.2.2.1 ++ (W_H aH aHA r.2.2.2.2.2.2.2.2.2.2.2.2.1 ++ (W_Q aQ aQA aQF ++ (W_Z E aQF 2 r.2.2.2.2.2.2.2.2.2.2.2.2.2.1 ++ (W_B E aB r.2.2.2.2.2.2.2.2.2.2.2.2.2.2)))))))))))))) 1 := by
  refine XM.of (own := RX8) rfl (by decide) (Nat.le_of_ble_eq_true rfl) ?_
  intro p e s m below meth c A ls hx hb hr hml hown hg hlocks hK hE hA hout hP hD hS hl
  have hl : lv_has ls 1 [(0, .ref aX)] := hl
  unfold F_X8_load at hf
  refine lv_aload_n hx hb dX8_load_0 rfl (lv_at hl 0 rfl) ?_
  obtain ⟨u1, hu1, hf⟩ := bn hf
  refine cm_V (As := []) (rest := []) (w2 := (W_X aX aB aBw aP aN aNd aH aQ u1.1 ++ (W_P aP aB u1.2.1 ++ (W_N aN aG aU aR u1.2.2.1 ++ (W_G E aG u1.2.2.2.1 ++ (W_U E aU u1.2.2.2.2.1 ++ (W_R E aR u1.2.2.2.2.2.1 ++ (W_N aNd aGd aUd aRd u1.2.2.2.2.2.2.1 ++ (W_G E aGd u1.2.2.2.2.2.2.2.1 ++ (W_U E aUd u1.2.2.2.2.2.2.2.2.1 ++ (W_R E aRd u1.2.2.2.2.2.2.2.2.2.1 ++ (W_H aH aHA u1.2.2.2.2.2.2.2.2.2.2.1 ++ (W_Q aQ aQA aQF ++ (W_Z E aQF 2 u1.2.2.2.2.2.2.2.2.2.2.2.1 ++ (W_B E aB u1.2.2.2.2.2.2.2.2.2.2.2.2))))))))))))))) hx hb hml hown hg (c_X8_readInput E l aX aB aBw aP aN aNd aH aQ aG aU aR aGd aUd aRd aHA aQA aQF vX vP vN vG vU vR vNd vGd vUd vRd vH vQF vB u1 hu1) cy_X8_readInput ml_X8_62 ⟨⟨rfl, rfl⟩, Nat.le_of_ble_eq_true rfl, Nat.le_of_ble_eq_true rfl⟩ hK hE hP hD hS hA [true, true, true, true, true, true, true, true, true, true, true, true, true, true, true, true, true, true, true, true, true, true, true, true, true, true, true, true, true, true, true, true, true, true, true, true, true, true, true, true, true, true, true] rfl rfl rfl 0 rfl rfl rfl hl.1 rfl (Nat.le_of_ble_eq_true rfl) dX8_load_1 ⟨Nat.le_of_ble_eq_true rfl, Nat.le_of_ble_eq_true rfl⟩ [] rfl (fun H locs hP hD hS => ?_)
  refine lv_aload_n hx hb dX8_load_4 rfl (lv_at hl 0 rfl) ?_
  refine gf_X8_52 hx hb hg hown hK hP 0 rfl rfl dX8_load_5 ?_
  refine lv_iconst (v := (-1)) hx hb dX8_load_8 (by decide) ?_
  refine lv_icmp_eq (tgt := 22) hx hb dX8_load_9 (by decide) (fun cq => ?_) (fun cq => ?_)
  · have hf := it cq hf
    refine lv_aload_n hx hb dX8_load_22 rfl (lv_at hl 0 rfl) ?_
    refine gf_X8_31 hx hb hg hown hK hP 0 rfl rfl dX8_load_23 ?_
    refine gf_X8_85 hx hb hg hown hK hP 2 rfl rfl dX8_load_26 ?_
    refine gf_X8_89 hx hb hg hown hK hP 3 rfl rfl dX8_load_29 ?_
    obtain rfl := Option.some.inj hf
    exact xm_yret (v := (u1.2.2.2.1 0 0)) rfl hx hb hr hlocks hP hS rfl dX8_load_32 (Nat.le_of_ble_eq_true rfl) (Nat.le_of_ble_eq_true rfl)
  · have hf := ie cq hf
    obtain rfl := Option.some.inj hf
    exact xm_throw2 (is := 83) (i := 30) (text := "the text has an error") rfl hx hb hml hl.1 hst hown hg hE (List.mem_of_getElem? (i := 30) rfl) hout hlocks hP hS dX8_load_12 dX8_load_15 dX8_load_16 dX8_load_18 dX8_load_21 (Nat.le_of_ble_eq_true rfl) (Nat.le_of_ble_eq_true rfl) (Nat.le_of_ble_eq_true rfl) (Nat.le_of_ble_eq_true rfl) (Nat.le_of_ble_eq_true rfl) (Nat.le_of_ble_eq_true rfl)
def F_X8_nameLength (vX : Nat → Int32) (vN : Nat → Int32) (vG : Nat → Nat → Int32) (x1 : Int32) : Option (Nat × Int32) := (F_X8_requireGuest vX vN vG x1).bind (fun u1 => if u1 = 0 then (ck x1 10 ((some (0, (vG 2 (Int32.toNatClampNeg x1)))))) else some (u1, 0))
abbrev rm_X8_nameLength : Room := { frames := 7, cells := 1, slots := 6, locals := 111 }
set_option maxHeartbeats 4000000 in
set_option maxRecDepth 100000 in
theorem c_X8_nameLength (E : Ev) (l : Launch) (hst : l.stackTraces = false) (aX : Nat) (aB : Nat → Nat) (aBw : Nat → Nat) (aP : Nat) (aN : Nat) (aNd : Nat) (aH : Nat) (aQ : Nat) (aG : Nat → Nat) (aU : Nat → Nat) (aR : Nat → Nat) (vX : Nat → Int32) (vN : Nat → Int32) (vG : Nat → Nat → Int32) (x1 : Int32) (r : Nat × Int32) (hf : F_X8_nameLength vX vN vG x1 = some r) : XM E l yX8_nameLength (.code yX8_nameLength cX8_nameLength 2 (some .int) :: GA) rm_X8_nameLength [.ref aX, .int x1] (W_X aX aB aBw aP aN aNd aH aQ vX ++ (W_N aN aG aU aR vN ++ (W_G E aG vG))) r.1 (some (.int r.2)) (W_X aX aB aBw aP aN aNd aH aQ vX ++ (W_N aN aG aU aR vN ++ (W_G E aG vG))) 1 := by
  refine XM.of (own := RX8) rfl (by decide) (Nat.le_of_ble_eq_true rfl) ?_
  intro p e s m below meth c A ls hx hb hr hml hown hg hlocks hK hE hA hout hP hD hS hl
  have hl : lv_has ls 2 [(0, .ref aX), (1, .int x1)] := hl
  unfold F_X8_nameLength at hf
  refine lv_aload_n hx hb dX8_nameLength_0 rfl (lv_at hl 0 rfl) ?_
  refine lv_iload_n hx hb dX8_nameLength_1 rfl (lv_at hl 1 rfl) ?_
  obtain ⟨u1, hu1, hf⟩ := bn hf
  refine xm_V (As := [.int x1]) (rest := []) (w2 := (W_X aX aB aBw aP aN aNd aH aQ vX ++ (W_N aN aG aU aR vN ++ (W_G E aG vG)))) hx hb hml hown hg (c_X8_requireGuest E l hst aX aB aBw aP aN aNd aH aQ aG aU aR vX vN vG x1 u1 hu1) cy_X8_requireGuest ml_X8_124 ⟨⟨rfl, rfl⟩, Nat.le_of_ble_eq_true rfl, Nat.le_of_ble_eq_true rfl⟩ hK hE hP hD hS hA [true, true, true, true, true, true, true, true, true, true, true] rfl rfl rfl 0 rfl rfl rfl hl.1 rfl (Nat.le_of_ble_eq_true rfl) dX8_nameLength_2 ⟨Nat.le_of_ble_eq_true rfl, Nat.le_of_ble_eq_true rfl⟩ [] rfl (fun h0 H locs hP hD hS => ?_) (fun h0 H locs ce q9 hP hD hS hce hcv hcl => ?_)
  rotate_left
  · have hf := ie (Nat.pos_iff_ne_zero.mp h0) hf
    obtain rfl := Option.some.inj hf
    exact xm_out hout hlocks h0 hce hcv hcl hP hS (Nat.le_of_ble_eq_true rfl) (Nat.le_of_ble_eq_true rfl)
  have hf := it h0 hf
  refine lv_aload_n hx hb dX8_nameLength_5 rfl (lv_at hl 0 rfl) ?_
  refine gf_X8_31 hx hb hg hown hK hP 0 rfl rfl dX8_nameLength_6 ?_
  refine gf_X8_85 hx hb hg hown hK hP 1 rfl rfl dX8_nameLength_9 ?_
  refine gf_X8_127 hx hb hg hown hK hP 2 rfl rfl dX8_nameLength_12 ?_
  refine lv_iload_n hx hb dX8_nameLength_15 rfl (lv_at hl 1 rfl) ?_
  obtain ⟨hi, hf⟩ := ck_o hf
  refine ar_ld hx hb hK hP 4 rfl hi dX8_nameLength_16 ?_
  obtain rfl := Option.some.inj hf
  exact xm_yret (v := (vG 2 (Int32.toNatClampNeg x1))) rfl hx hb hr hlocks hP hS rfl dX8_nameLength_17 (Nat.le_of_ble_eq_true rfl) (Nat.le_of_ble_eq_true rfl)
def F_X8_nameByte (vX : Nat → Int32) (vN : Nat → Int32) (vG : Nat → Nat → Int32) (x1 : Int32) (x2 : Int32) : Option (Nat × Int32) := (F_X8_requireGuest vX vN vG x1).bind (fun u1 => if u1 = 0 then ((if x2 < 0 then (some (4, 0)) else ck x1 10 ((if x2 < (vG 2 (Int32.toNatClampNeg x1)) then (F_X1_letterOf vG x1 x2).bind (fun u2 => (some (0, u2))) else (some (4, 0)))))) else some (u1, 0))
abbrev rm_X8_nameByte : Room := { frames := 7, cells := 2, slots := 12, locals := 111 }
set_option maxHeartbeats 4000000 in
set_option maxRecDepth 100000 in
theorem c_X8_nameByte (E : Ev) (l : Launch) (hst : l.stackTraces = false) (aX : Nat) (aB : Nat → Nat) (aBw : Nat → Nat) (aP : Nat) (aN : Nat) (aNd : Nat) (aH : Nat) (aQ : Nat) (aG : Nat → Nat) (aU : Nat → Nat) (aR : Nat → Nat) (vX : Nat → Int32) (vN : Nat → Int32) (vG : Nat → Nat → Int32) (x1 : Int32) (x2 : Int32) (r : Nat × Int32) (hf : F_X8_nameByte vX vN vG x1 x2 = some r) : XM E l yX8_nameByte (.code yX8_nameByte cX8_nameByte 3 (some .int) :: GA) rm_X8_nameByte [.ref aX, .int x1, .int x2] (W_X aX aB aBw aP aN aNd aH aQ vX ++ (W_N aN aG aU aR vN ++ (W_G E aG vG))) r.1 (some (.int r.2)) (W_X aX aB aBw aP aN aNd aH aQ vX ++ (W_N aN aG aU aR vN ++ (W_G E aG vG))) 2 := by
  refine XM.of (own := RX8) rfl (by decide) (Nat.le_of_ble_eq_true rfl) ?_
  intro p e s m below meth c A ls hx hb hr hml hown hg hlocks hK hE hA hout hP hD hS hl
  have hl : lv_has ls 3 [(0, .ref aX), (1, .int x1), (2, .int x2)] := hl
  unfold F_X8_nameByte at hf
  refine lv_aload_n hx hb dX8_nameByte_0 rfl (lv_at hl 0 rfl) ?_
  refine lv_iload_n hx hb dX8_nameByte_1 rfl (lv_at hl 1 rfl) ?_
  obtain ⟨u1, hu1, hf⟩ := bn hf
  refine xm_V (As := [.int x1]) (rest := []) (w2 := (W_X aX aB aBw aP aN aNd aH aQ vX ++ (W_N aN aG aU aR vN ++ (W_G E aG vG)))) hx hb hml hown hg (c_X8_requireGuest E l hst aX aB aBw aP aN aNd aH aQ aG aU aR vX vN vG x1 u1 hu1) cy_X8_requireGuest ml_X8_124 ⟨⟨rfl, rfl⟩, Nat.le_of_ble_eq_true rfl, Nat.le_of_ble_eq_true rfl⟩ hK hE hP hD hS hA [true, true, true, true, true, true, true, true, true, true, true] rfl rfl rfl 0 rfl rfl rfl hl.1 rfl (Nat.le_of_ble_eq_true rfl) dX8_nameByte_2 ⟨Nat.le_of_ble_eq_true rfl, Nat.le_of_ble_eq_true rfl⟩ [] rfl (fun h0 H locs hP hD hS => ?_) (fun h0 H locs ce q9 hP hD hS hce hcv hcl => ?_)
  rotate_left
  · have hf := ie (Nat.pos_iff_ne_zero.mp h0) hf
    obtain rfl := Option.some.inj hf
    exact xm_out hout hlocks h0 hce hcv hcl hP hS (Nat.le_of_ble_eq_true rfl) (Nat.le_of_ble_eq_true rfl)
  have hf := it h0 hf
  refine lv_iload_n hx hb dX8_nameByte_5 rfl (lv_at hl 2 rfl) ?_
  refine lv_if_lt (tgt := 25) hx hb dX8_nameByte_6 (by decide) (fun cq => ?_) (fun cq => ?_)
  · have hf := it cq hf
    obtain rfl := Option.some.inj hf
    exact xm_throw4 (is := 133) (i := 34) (text := "no such letter") rfl hx hb hml hl.1 hst hown hg hE (List.mem_of_getElem? (i := 34) rfl) hout hlocks hP hS dX8_nameByte_25 dX8_nameByte_28 dX8_nameByte_29 dX8_nameByte_31 dX8_nameByte_34 (Nat.le_of_ble_eq_true rfl) (Nat.le_of_ble_eq_true rfl) (Nat.le_of_ble_eq_true rfl) (Nat.le_of_ble_eq_true rfl) (Nat.le_of_ble_eq_true rfl) (Nat.le_of_ble_eq_true rfl)
  · have hf := ie cq hf
    refine lv_iload_n hx hb dX8_nameByte_9 rfl (lv_at hl 2 rfl) ?_
    refine lv_aload_n hx hb dX8_nameByte_10 rfl (lv_at hl 0 rfl) ?_
    refine gf_X8_31 hx hb hg hown hK hP 0 rfl rfl dX8_nameByte_11 ?_
    refine gf_X8_85 hx hb hg hown hK hP 1 rfl rfl dX8_nameByte_14 ?_
    refine gf_X8_127 hx hb hg hown hK hP 2 rfl rfl dX8_nameByte_17 ?_
    refine lv_iload_n hx hb dX8_nameByte_20 rfl (lv_at hl 1 rfl) ?_
    obtain ⟨hi, hf⟩ := ck_o hf
    refine ar_ld hx hb hK hP 4 rfl hi dX8_nameByte_21 ?_
    refine lv_icmp_lt (tgt := 35) hx hb dX8_nameByte_22 (by decide) (fun cq => ?_) (fun cq => ?_)
    · have hf := it cq hf
      refine lv_aload_n hx hb dX8_nameByte_35 rfl (lv_at hl 0 rfl) ?_
      refine gf_X8_31 hx hb hg hown hK hP 0 rfl rfl dX8_nameByte_36 ?_
      refine gf_X8_85 hx hb hg hown hK hP 1 rfl rfl dX8_nameByte_39 ?_
      refine lv_iload_n hx hb dX8_nameByte_42 rfl (lv_at hl 1 rfl) ?_
      refine lv_iload_n hx hb dX8_nameByte_43 rfl (lv_at hl 2 rfl) ?_
      obtain ⟨u2, hu2, hf⟩ := bn hf
      refine cm_V (As := [.int x1, .int x2]) (rest := []) (w2 := (W_X aX aB aBw aP aN aNd aH aQ vX ++ (W_N aN aG aU aR vN ++ (W_G E aG vG)))) hx hb hml hown hg (c_X1_letterOf E l aG vG x1 x2 u2 hu2) cy_X1_letterOf ml_X8_136 ⟨⟨rfl, rfl⟩, Nat.le_of_ble_eq_true rfl, Nat.le_of_ble_eq_true rfl⟩ hK hE hP hD hS hA [false, false, true, true, true, true, true, true, true, true, true] rfl rfl rfl 2 rfl rfl rfl hl.1 rfl (Nat.le_of_ble_eq_true rfl) dX8_nameByte_44 ⟨Nat.le_of_ble_eq_true rfl, Nat.le_of_ble_eq_true rfl⟩ [.int u2] rfl (fun H locs hP hD hS => ?_)
      obtain rfl := Option.some.inj hf
      exact xm_yret (v := u2) rfl hx hb hr hlocks hP hS rfl dX8_nameByte_47 (Nat.le_of_ble_eq_true rfl) (Nat.le_of_ble_eq_true rfl)
    · have hf := ie cq hf
      obtain rfl := Option.some.inj hf
      exact xm_throw4 (is := 133) (i := 34) (text := "no such letter") rfl hx hb hml hl.1 hst hown hg hE (List.mem_of_getElem? (i := 34) rfl) hout hlocks hP hS dX8_nameByte_25 dX8_nameByte_28 dX8_nameByte_29 dX8_nameByte_31 dX8_nameByte_34 (Nat.le_of_ble_eq_true rfl) (Nat.le_of_ble_eq_true rfl) (Nat.le_of_ble_eq_true rfl) (Nat.le_of_ble_eq_true rfl) (Nat.le_of_ble_eq_true rfl) (Nat.le_of_ble_eq_true rfl)
def F_X8_generosity (vX : Nat → Int32) (vN : Nat → Int32) (vG : Nat → Nat → Int32) (x1 : Int32) : Option (Nat × Int32) := (F_X8_requireGuest vX vN vG x1).bind (fun u1 => if u1 = 0 then (ck x1 10 ((some (0, (vG 3 (Int32.toNatClampNeg x1)))))) else some (u1, 0))
abbrev rm_X8_generosity : Room := { frames := 7, cells := 1, slots := 6, locals := 111 }
set_option maxHeartbeats 4000000 in
set_option maxRecDepth 100000 in
theorem c_X8_generosity (E : Ev) (l : Launch) (hst : l.stackTraces = false) (aX : Nat) (aB : Nat → Nat) (aBw : Nat → Nat) (aP : Nat) (aN : Nat) (aNd : Nat) (aH : Nat) (aQ : Nat) (aG : Nat → Nat) (aU : Nat → Nat) (aR : Nat → Nat) (vX : Nat → Int32) (vN : Nat → Int32) (vG : Nat → Nat → Int32) (x1 : Int32) (r : Nat × Int32) (hf : F_X8_generosity vX vN vG x1 = some r) : XM E l yX8_generosity (.code yX8_generosity cX8_generosity 2 (some .int) :: GA) rm_X8_generosity [.ref aX, .int x1] (W_X aX aB aBw aP aN aNd aH aQ vX ++ (W_N aN aG aU aR vN ++ (W_G E aG vG))) r.1 (some (.int r.2)) (W_X aX aB aBw aP aN aNd aH aQ vX ++ (W_N aN aG aU aR vN ++ (W_G E aG vG))) 1 := by
  refine XM.of (own := RX8) rfl (by decide) (Nat.le_of_ble_eq_true rfl) ?_
  intro p e s m below meth c A ls hx hb hr hml hown hg hlocks hK hE hA hout hP hD hS hl
  have hl : lv_has ls 2 [(0, .ref aX), (1, .int x1)] := hl
  unfold F_X8_generosity at hf
  refine lv_aload_n hx hb dX8_generosity_0 rfl (lv_at hl 0 rfl) ?_
  refine lv_iload_n hx hb dX8_generosity_1 rfl (lv_at hl 1 rfl) ?_
  obtain ⟨u1, hu1, hf⟩ := bn hf
  refine xm_V (As := [.int x1]) (rest := []) (w2 := (W_X aX aB aBw aP aN aNd aH aQ vX ++ (W_N aN aG aU aR vN ++ (W_G E aG vG)))) hx hb hml hown hg (c_X8_requireGuest E l hst aX aB aBw aP aN aNd aH aQ aG aU aR vX vN vG x1 u1 hu1) cy_X8_requireGuest ml_X8_124 ⟨⟨rfl, rfl⟩, Nat.le_of_ble_eq_true rfl, Nat.le_of_ble_eq_true rfl⟩ hK hE hP hD hS hA [true, true, true, true, true, true, true, true, true, true, true] rfl rfl rfl 0 rfl rfl rfl hl.1 rfl (Nat.le_of_ble_eq_true rfl) dX8_generosity_2 ⟨Nat.le_of_ble_eq_true rfl, Nat.le_of_ble_eq_true rfl⟩ [] rfl (fun h0 H locs hP hD hS => ?_) (fun h0 H locs ce q9 hP hD hS hce hcv hcl => ?_)
  rotate_left
  · have hf := ie (Nat.pos_iff_ne_zero.mp h0) hf
    obtain rfl := Option.some.inj hf
    exact xm_out hout hlocks h0 hce hcv hcl hP hS (Nat.le_of_ble_eq_true rfl) (Nat.le_of_ble_eq_true rfl)
  have hf := it h0 hf
  refine lv_aload_n hx hb dX8_generosity_5 rfl (lv_at hl 0 rfl) ?_
  refine gf_X8_31 hx hb hg hown hK hP 0 rfl rfl dX8_generosity_6 ?_
  refine gf_X8_85 hx hb hg hown hK hP 1 rfl rfl dX8_generosity_9 ?_
  refine gf_X8_146 hx hb hg hown hK hP 2 rfl rfl dX8_generosity_12 ?_
  refine lv_iload_n hx hb dX8_generosity_15 rfl (lv_at hl 1 rfl) ?_
  obtain ⟨hi, hf⟩ := ck_o hf
  refine ar_ld hx hb hK hP 5 rfl hi dX8_generosity_16 ?_
  obtain rfl := Option.some.inj hf
  exact xm_yret (v := (vG 3 (Int32.toNatClampNeg x1))) rfl hx hb hr hlocks hP hS rfl dX8_generosity_17 (Nat.le_of_ble_eq_true rfl) (Nat.le_of_ble_eq_true rfl)
def F_X8_bark (vX : Nat → Int32) (vN : Nat → Int32) (vG : Nat → Nat → Int32) (x1 : Int32) : Option (Nat × Int32) := (F_X8_requireGuest vX vN vG x1).bind (fun u1 => if u1 = 0 then (ck x1 10 ((some (0, (vG 4 (Int32.toNatClampNeg x1)))))) else some (u1, 0))
abbrev rm_X8_bark : Room := { frames := 7, cells := 1, slots := 6, locals := 111 }
set_option maxHeartbeats 4000000 in
set_option maxRecDepth 100000 in
theorem c_X8_bark (E : Ev) (l : Launch) (hst : l.stackTraces = false) (aX : Nat) (aB : Nat → Nat) (aBw : Nat → Nat) (aP : Nat) (aN : Nat) (aNd : Nat) (aH : Nat) (aQ : Nat) (aG : Nat → Nat) (aU : Nat → Nat) (aR : Nat → Nat) (vX : Nat → Int32) (vN : Nat → Int32) (vG : Nat → Nat → Int32) (x1 : Int32) (r : Nat × Int32) (hf : F_X8_bark vX vN vG x1 = some r) : XM E l yX8_bark (.code yX8_bark cX8_bark 2 (some .int) :: GA) rm_X8_bark [.ref aX, .int x1] (W_X aX aB aBw aP aN aNd aH aQ vX ++ (W_N aN aG aU aR vN ++ (W_G E aG vG))) r.1 (some (.int r.2)) (W_X aX aB aBw aP aN aNd aH aQ vX ++ (W_N aN aG aU aR vN ++ (W_G E aG vG))) 1 := by
  refine XM.of (own := RX8) rfl (by decide) (Nat.le_of_ble_eq_true rfl) ?_
  intro p e s m below meth c A ls hx hb hr hml hown hg hlocks hK hE hA hout hP hD hS hl
  have hl : lv_has ls 2 [(0, .ref aX), (1, .int x1)] := hl
  unfold F_X8_bark at hf
  refine lv_aload_n hx hb dX8_bark_0 rfl (lv_at hl 0 rfl) ?_
  refine lv_iload_n hx hb dX8_bark_1 rfl (lv_at hl 1 rfl) ?_
  obtain ⟨u1, hu1, hf⟩ := bn hf
  refine xm_V (As := [.int x1]) (rest := []) (w2 := (W_X aX aB aBw aP aN aNd aH aQ vX ++ (W_N aN aG aU aR vN ++ (W_G E aG vG)))) hx hb hml hown hg (c_X8_requireGuest E l hst aX aB aBw aP aN aNd aH aQ aG aU aR vX vN vG x1 u1 hu1) cy_X8_requireGuest ml_X8_124 ⟨⟨rfl, rfl⟩, Nat.le_of_ble_eq_true rfl, Nat.le_of_ble_eq_true rfl⟩ hK hE hP hD hS hA [true, true, true, true, true, true, true, true, true, true, true] rfl rfl rfl 0 rfl rfl rfl hl.1 rfl (Nat.le_of_ble_eq_true rfl) dX8_bark_2 ⟨Nat.le_of_ble_eq_true rfl, Nat.le_of_ble_eq_true rfl⟩ [] rfl (fun h0 H locs hP hD hS => ?_) (fun h0 H locs ce q9 hP hD hS hce hcv hcl => ?_)
  rotate_left
  · have hf := ie (Nat.pos_iff_ne_zero.mp h0) hf
    obtain rfl := Option.some.inj hf
    exact xm_out hout hlocks h0 hce hcv hcl hP hS (Nat.le_of_ble_eq_true rfl) (Nat.le_of_ble_eq_true rfl)
  have hf := it h0 hf
  refine lv_aload_n hx hb dX8_bark_5 rfl (lv_at hl 0 rfl) ?_
  refine gf_X8_31 hx hb hg hown hK hP 0 rfl rfl dX8_bark_6 ?_
  refine gf_X8_85 hx hb hg hown hK hP 1 rfl rfl dX8_bark_9 ?_
  refine gf_X8_149 hx hb hg hown hK hP 2 rfl rfl dX8_bark_12 ?_
  refine lv_iload_n hx hb dX8_bark_15 rfl (lv_at hl 1 rfl) ?_
  obtain ⟨hi, hf⟩ := ck_o hf
  refine ar_ld hx hb hK hP 6 rfl hi dX8_bark_16 ?_
  obtain rfl := Option.some.inj hf
  exact xm_yret (v := (vG 4 (Int32.toNatClampNeg x1))) rfl hx hb hr hlocks hP hS rfl dX8_bark_17 (Nat.le_of_ble_eq_true rfl) (Nat.le_of_ble_eq_true rfl)
def F_X8_isOut (vX : Nat → Int32) (vN : Nat → Int32) (vG : Nat → Nat → Int32) (x1 : Int32) : Option (Nat × Int32) := (F_X8_requireGuest vX vN vG x1).bind (fun u1 => if u1 = 0 then ((F_X1_isAway vG x1).bind (fun u2 => (cn (u2 = 0 ∨ u2 = 1) (some (0, u2))))) else some (u1, 0))
abbrev rm_X8_isOut : Room := { frames := 7, cells := 1, slots := 6, locals := 111 }
set_option maxHeartbeats 4000000 in
set_option maxRecDepth 100000 in
theorem c_X8_isOut (E : Ev) (l : Launch) (hst : l.stackTraces = false) (aX : Nat) (aB : Nat → Nat) (aBw : Nat → Nat) (aP : Nat) (aN : Nat) (aNd : Nat) (aH : Nat) (aQ : Nat) (aG : Nat → Nat) (aU : Nat → Nat) (aR : Nat → Nat) (vX : Nat → Int32) (vN : Nat → Int32) (vG : Nat → Nat → Int32) (x1 : Int32) (r : Nat × Int32) (hf : F_X8_isOut vX vN vG x1 = some r) : XM E l yX8_isOut (.code yX8_isOut cX8_isOut 2 (some .boolean) :: GA) rm_X8_isOut [.ref aX, .int x1] (W_X aX aB aBw aP aN aNd aH aQ vX ++ (W_N aN aG aU aR vN ++ (W_G E aG vG))) r.1 (some (.int r.2)) (W_X aX aB aBw aP aN aNd aH aQ vX ++ (W_N aN aG aU aR vN ++ (W_G E aG vG))) 1 := by
  refine XM.of (own := RX8) rfl (by decide) (Nat.le_of_ble_eq_true rfl) ?_
  intro p e s m below meth c A ls hx hb hr hml hown hg hlocks hK hE hA hout hP hD hS hl
  have hl : lv_has ls 2 [(0, .ref aX), (1, .int x1)] := hl
  unfold F_X8_isOut at hf
  refine lv_aload_n hx hb dX8_isOut_0 rfl (lv_at hl 0 rfl) ?_
  refine lv_iload_n hx hb dX8_isOut_1 rfl (lv_at hl 1 rfl) ?_
  obtain ⟨u1, hu1, hf⟩ := bn hf
  refine xm_V (As := [.int x1]) (rest := []) (w2 := (W_X aX aB aBw aP aN aNd aH aQ vX ++ (W_N aN aG aU aR vN ++ (W_G E aG vG)))) hx hb hml hown hg (c_X8_requireGuest E l hst aX aB aBw aP aN aNd aH aQ aG aU aR vX vN vG x1 u1 hu1) cy_X8_requireGuest ml_X8_124 ⟨⟨rfl, rfl⟩, Nat.le_of_ble_eq_true rfl, Nat.le_of_ble_eq_true rfl⟩ hK hE hP hD hS hA [true, true, true, true, true, true, true, true, true, true, true] rfl rfl rfl 0 rfl rfl rfl hl.1 rfl (Nat.le_of_ble_eq_true rfl) dX8_isOut_2 ⟨Nat.le_of_ble_eq_true rfl, Nat.le_of_ble_eq_true rfl⟩ [] rfl (fun h0 H locs hP hD hS => ?_) (fun h0 H locs ce q9 hP hD hS hce hcv hcl => ?_)
  rotate_left
  · have hf := ie (Nat.pos_iff_ne_zero.mp h0) hf
    obtain rfl := Option.some.inj hf
    exact xm_out hout hlocks h0 hce hcv hcl hP hS (Nat.le_of_ble_eq_true rfl) (Nat.le_of_ble_eq_true rfl)
  have hf := it h0 hf
  refine lv_aload_n hx hb dX8_isOut_5 rfl (lv_at hl 0 rfl) ?_
  refine gf_X8_31 hx hb hg hown hK hP 0 rfl rfl dX8_isOut_6 ?_
  refine gf_X8_85 hx hb hg hown hK hP 1 rfl rfl dX8_isOut_9 ?_
  refine lv_iload_n hx hb dX8_isOut_12 rfl (lv_at hl 1 rfl) ?_
  obtain ⟨u2, hu2, hf⟩ := bn hf
  refine cm_V (As := [.int x1]) (rest := []) (w2 := (W_X aX aB aBw aP aN aNd aH aQ vX ++ (W_N aN aG aU aR vN ++ (W_G E aG vG)))) hx hb hml hown hg (c_X1_isAway E l aG vG x1 u2 hu2) cy_X1_isAway ml_X8_152 ⟨⟨rfl, rfl⟩, Nat.le_of_ble_eq_true rfl, Nat.le_of_ble_eq_true rfl⟩ hK hE hP hD hS hA [false, false, true, true, true, true, true, true, true, true, true] rfl rfl rfl 2 rfl rfl rfl hl.1 rfl (Nat.le_of_ble_eq_true rfl) dX8_isOut_13 ⟨Nat.le_of_ble_eq_true rfl, Nat.le_of_ble_eq_true rfl⟩ [.int u2] rfl (fun H locs hP hD hS => ?_)
  obtain ⟨hz, hf⟩ := cn_o hf
  obtain rfl := Option.some.inj hf
  exact xm_yret (v := u2) rfl hx hb hr hlocks hP hS (nar01 hz) dX8_isOut_16 (Nat.le_of_ble_eq_true rfl) (Nat.le_of_ble_eq_true rfl)
def F_X8_outSince (vX : Nat → Int32) (vN : Nat → Int32) (vG : Nat → Nat → Int32) (x1 : Int32) : Option (Nat × Int32) := (F_X8_requireGuest vX vN vG x1).bind (fun u1 => if u1 = 0 then ((F_X1_isAway vG x1).bind (fun u2 => (if u2 = 0 then (some (3, 0)) else ck x1 10 ((some (0, (vG 5 (Int32.toNatClampNeg x1)))))))) else some (u1, 0))
abbrev rm_X8_outSince : Room := { frames := 7, cells := 2, slots := 12, locals := 111 }
set_option maxHeartbeats 4000000 in
set_option maxRecDepth 100000 in
theorem c_X8_outSince (E : Ev) (l : Launch) (hst : l.stackTraces = false) (aX : Nat) (aB : Nat → Nat) (aBw : Nat → Nat) (aP : Nat) (aN : Nat) (aNd : Nat) (aH : Nat) (aQ : Nat) (aG : Nat → Nat) (aU : Nat → Nat) (aR : Nat → Nat) (vX : Nat → Int32) (vN : Nat → Int32) (vG : Nat → Nat → Int32) (x1 : Int32) (r : Nat × Int32) (hf : F_X8_outSince vX vN vG x1 = some r) : XM E l yX8_outSince (.code yX8_outSince cX8_outSince 2 (some .int) :: GA) rm_X8_outSince [.ref aX, .int x1] (W_X aX aB aBw aP aN aNd aH aQ vX ++ (W_N aN aG aU aR vN ++ (W_G E aG vG))) r.1 (some (.int r.2)) (W_X aX aB aBw aP aN aNd aH aQ vX ++ (W_N aN aG aU aR vN ++ (W_G E aG vG))) 2 := by
  refine XM.of (own := RX8) rfl (by decide) (Nat.le_of_ble_eq_true rfl) ?_
  intro p e s m below meth c A ls hx hb hr hml hown hg hlocks hK hE hA hout hP hD hS hl
  have hl : lv_has ls 2 [(0, .ref aX), (1, .int x1)] := hl
  unfold F_X8_outSince at hf
  refine lv_aload_n hx hb dX8_outSince_0 rfl (lv_at hl 0 rfl) ?_
  refine lv_iload_n hx hb dX8_outSince_1 rfl (lv_at hl 1 rfl) ?_
  obtain ⟨u1, hu1, hf⟩ := bn hf
  refine xm_V (As := [.int x1]) (rest := []) (w2 := (W_X aX aB aBw aP aN aNd aH aQ vX ++ (W_N aN aG aU aR vN ++ (W_G E aG vG)))) hx hb hml hown hg (c_X8_requireGuest E l hst aX aB aBw aP aN aNd aH aQ aG aU aR vX vN vG x1 u1 hu1) cy_X8_requireGuest ml_X8_124 ⟨⟨rfl, rfl⟩, Nat.le_of_ble_eq_true rfl, Nat.le_of_ble_eq_true rfl⟩ hK hE hP hD hS hA [true, true, true, true, true, true, true, true, true, true, true] rfl rfl rfl 0 rfl rfl rfl hl.1 rfl (Nat.le_of_ble_eq_true rfl) dX8_outSince_2 ⟨Nat.le_of_ble_eq_true rfl, Nat.le_of_ble_eq_true rfl⟩ [] rfl (fun h0 H locs hP hD hS => ?_) (fun h0 H locs ce q9 hP hD hS hce hcv hcl => ?_)
  rotate_left
  · have hf := ie (Nat.pos_iff_ne_zero.mp h0) hf
    obtain rfl := Option.some.inj hf
    exact xm_out hout hlocks h0 hce hcv hcl hP hS (Nat.le_of_ble_eq_true rfl) (Nat.le_of_ble_eq_true rfl)
  have hf := it h0 hf
  refine lv_aload_n hx hb dX8_outSince_5 rfl (lv_at hl 0 rfl) ?_
  refine gf_X8_31 hx hb hg hown hK hP 0 rfl rfl dX8_outSince_6 ?_
  refine gf_X8_85 hx hb hg hown hK hP 1 rfl rfl dX8_outSince_9 ?_
  refine lv_iload_n hx hb dX8_outSince_12 rfl (lv_at hl 1 rfl) ?_
  obtain ⟨u2, hu2, hf⟩ := bn hf
  refine cm_V (As := [.int x1]) (rest := []) (w2 := (W_X aX aB aBw aP aN aNd aH aQ vX ++ (W_N aN aG aU aR vN ++ (W_G E aG vG)))) hx hb hml hown hg (c_X1_isAway E l aG vG x1 u2 hu2) cy_X1_isAway ml_X8_152 ⟨⟨rfl, rfl⟩, Nat.le_of_ble_eq_true rfl, Nat.le_of_ble_eq_true rfl⟩ hK hE hP hD hS hA [false, false, true, true, true, true, true, true, true, true, true] rfl rfl rfl 2 rfl rfl rfl hl.1 rfl (Nat.le_of_ble_eq_true rfl) dX8_outSince_13 ⟨Nat.le_of_ble_eq_true rfl, Nat.le_of_ble_eq_true rfl⟩ [.int u2] rfl (fun H locs hP hD hS => ?_)
  refine lv_if_ne (tgt := 29) hx hb dX8_outSince_16 (by decide) (fun cq => ?_) (fun cq => ?_)
  · have hf := ie cq hf
    refine lv_aload_n hx hb dX8_outSince_29 rfl (lv_at hl 0 rfl) ?_
    refine gf_X8_31 hx hb hg hown hK hP 0 rfl rfl dX8_outSince_30 ?_
    refine gf_X8_85 hx hb hg hown hK hP 1 rfl rfl dX8_outSince_33 ?_
    refine gf_X8_158 hx hb hg hown hK hP 2 rfl rfl dX8_outSince_36 ?_
    refine lv_iload_n hx hb dX8_outSince_39 rfl (lv_at hl 1 rfl) ?_
    obtain ⟨hi, hf⟩ := ck_o hf
    refine ar_ld hx hb hK hP 7 rfl hi dX8_outSince_40 ?_
    obtain rfl := Option.some.inj hf
    exact xm_yret (v := (vG 5 (Int32.toNatClampNeg x1))) rfl hx hb hr hlocks hP hS rfl dX8_outSince_41 (Nat.le_of_ble_eq_true rfl) (Nat.le_of_ble_eq_true rfl)
  · have hf := it cq hf
    obtain rfl := Option.some.inj hf
    exact xm_throw3 (is := 156) (i := 24) (text := "the guest is in") rfl hx hb hml hl.1 hst hown hg hE (List.mem_of_getElem? (i := 24) rfl) hout hlocks hP hS dX8_outSince_19 dX8_outSince_22 dX8_outSince_23 dX8_outSince_25 dX8_outSince_28 (Nat.le_of_ble_eq_true rfl) (Nat.le_of_ble_eq_true rfl) (Nat.le_of_ble_eq_true rfl) (Nat.le_of_ble_eq_true rfl) (Nat.le_of_ble_eq_true rfl) (Nat.le_of_ble_eq_true rfl)
def F_X8_soak (vX : Nat → Int32) (vN : Nat → Int32) (vG : Nat → Nat → Int32) (x1 : Int32) : Option (Nat × Int32) := (F_X8_requireGuest vX vN vG x1).bind (fun u1 => if u1 = 0 then (ck x1 10 ((some (0, (vG 6 (Int32.toNatClampNeg x1)))))) else some (u1, 0))
abbrev rm_X8_soak : Room := { frames := 7, cells := 1, slots := 6, locals := 111 }
set_option maxHeartbeats 4000000 in
set_option maxRecDepth 100000 in
theorem c_X8_soak (E : Ev) (l : Launch) (hst : l.stackTraces = false) (aX : Nat) (aB : Nat → Nat) (aBw : Nat → Nat) (aP : Nat) (aN : Nat) (aNd : Nat) (aH : Nat) (aQ : Nat) (aG : Nat → Nat) (aU : Nat → Nat) (aR : Nat → Nat) (vX : Nat → Int32) (vN : Nat → Int32) (vG : Nat → Nat → Int32) (x1 : Int32) (r : Nat × Int32) (hf : F_X8_soak vX vN vG x1 = some r) : XM E l yX8_soak (.code yX8_soak cX8_soak 2 (some .int) :: GA) rm_X8_soak [.ref aX, .int x1] (W_X aX aB aBw aP aN aNd aH aQ vX ++ (W_N aN aG aU aR vN ++ (W_G E aG vG))) r.1 (some (.int r.2)) (W_X aX aB aBw aP aN aNd aH aQ vX ++ (W_N aN aG aU aR vN ++ (W_G E aG vG))) 1 := by
  refine XM.of (own := RX8) rfl (by decide) (Nat.le_of_ble_eq_true rfl) ?_
  intro p e s m below meth c A ls hx hb hr hml hown hg hlocks hK hE hA hout hP hD hS hl
  have hl : lv_has ls 2 [(0, .ref aX), (1, .int x1)] := hl
  unfold F_X8_soak at hf
  refine lv_aload_n hx hb dX8_soak_0 rfl (lv_at hl 0 rfl) ?_
  refine lv_iload_n hx hb dX8_soak_1 rfl (lv_at hl 1 rfl) ?_
  obtain ⟨u1, hu1, hf⟩ := bn hf
  refine xm_V (As := [.int x1]) (rest := []) (w2 := (W_X aX aB aBw aP aN aNd aH aQ vX ++ (W_N aN aG aU aR vN ++ (W_G E aG vG)))) hx hb hml hown hg (c_X8_requireGuest E l hst aX aB aBw aP aN aNd aH aQ aG aU aR vX vN vG x1 u1 hu1) cy_X8_requireGuest ml_X8_124 ⟨⟨rfl, rfl⟩, Nat.le_of_ble_eq_true rfl, Nat.le_of_ble_eq_true rfl⟩ hK hE hP hD hS hA [true, true, true, true, true, true, true, true, true, true, true] rfl rfl rfl 0 rfl rfl rfl hl.1 rfl (Nat.le_of_ble_eq_true rfl) dX8_soak_2 ⟨Nat.le_of_ble_eq_true rfl, Nat.le_of_ble_eq_true rfl⟩ [] rfl (fun h0 H locs hP hD hS => ?_) (fun h0 H locs ce q9 hP hD hS hce hcv hcl => ?_)
  rotate_left
  · have hf := ie (Nat.pos_iff_ne_zero.mp h0) hf
    obtain rfl := Option.some.inj hf
    exact xm_out hout hlocks h0 hce hcv hcl hP hS (Nat.le_of_ble_eq_true rfl) (Nat.le_of_ble_eq_true rfl)
  have hf := it h0 hf
  refine lv_aload_n hx hb dX8_soak_5 rfl (lv_at hl 0 rfl) ?_
  refine gf_X8_31 hx hb hg hown hK hP 0 rfl rfl dX8_soak_6 ?_
  refine gf_X8_85 hx hb hg hown hK hP 1 rfl rfl dX8_soak_9 ?_
  refine gf_X8_161 hx hb hg hown hK hP 2 rfl rfl dX8_soak_12 ?_
  refine lv_iload_n hx hb dX8_soak_15 rfl (lv_at hl 1 rfl) ?_
  obtain ⟨hi, hf⟩ := ck_o hf
  refine ar_ld hx hb hK hP 8 rfl hi dX8_soak_16 ?_
  obtain rfl := Option.some.inj hf
  exact xm_yret (v := (vG 6 (Int32.toNatClampNeg x1))) rfl hx hb hr hlocks hP hS rfl dX8_soak_17 (Nat.le_of_ble_eq_true rfl) (Nat.le_of_ble_eq_true rfl)
def F_X8_wouldBark (vX : Nat → Int32) (vN : Nat → Int32) (vG : Nat → Nat → Int32) (x1 : Int32) : Option (Nat × Int32) := (F_X8_requireGuest vX vN vG x1).bind (fun u1 => if u1 = 0 then ((F_X1_barksAt vG x1 ((vN 0) + 1)).bind (fun u2 => (cn (u2 = 0 ∨ u2 = 1) (some (0, u2))))) else some (u1, 0))
abbrev rm_X8_wouldBark : Room := { frames := 7, cells := 1, slots := 6, locals := 111 }
set_option maxHeartbeats 4000000 in
set_option maxRecDepth 100000 in
theorem c_X8_wouldBark (E : Ev) (l : Launch) (hst : l.stackTraces = false) (aX : Nat) (aB : Nat → Nat) (aBw : Nat → Nat) (aP : Nat) (aN : Nat) (aNd : Nat) (aH : Nat) (aQ : Nat) (aG : Nat → Nat) (aU : Nat → Nat) (aR : Nat → Nat) (vX : Nat → Int32) (vN : Nat → Int32) (vG : Nat → Nat → Int32) (x1 : Int32) (r : Nat × Int32) (hf : F_X8_wouldBark vX vN vG x1 = some r) : XM E l yX8_wouldBark (.code yX8_wouldBark cX8_wouldBark 2 (some .boolean) :: GA) rm_X8_wouldBark [.ref aX, .int x1] (W_X aX aB aBw aP aN aNd aH aQ vX ++ (W_N aN aG aU aR vN ++ (W_G E aG vG))) r.1 (some (.int r.2)) (W_X aX aB aBw aP aN aNd aH aQ vX ++ (W_N aN aG aU aR vN ++ (W_G E aG vG))) 1 := by
  refine XM.of (own := RX8) rfl (by decide) (Nat.le_of_ble_eq_true rfl) ?_
  intro p e s m below meth c A ls hx hb hr hml hown hg hlocks hK hE hA hout hP hD hS hl
  have hl : lv_has ls 2 [(0, .ref aX), (1, .int x1)] := hl
  unfold F_X8_wouldBark at hf
  refine lv_aload_n hx hb dX8_wouldBark_0 rfl (lv_at hl 0 rfl) ?_
  refine lv_iload_n hx hb dX8_wouldBark_1 rfl (lv_at hl 1 rfl) ?_
  obtain ⟨u1, hu1, hf⟩ := bn hf
  refine xm_V (As := [.int x1]) (rest := []) (w2 := (W_X aX aB aBw aP aN aNd aH aQ vX ++ (W_N aN aG aU aR vN ++ (W_G E aG vG)))) hx hb hml hown hg (c_X8_requireGuest E l hst aX aB aBw aP aN aNd aH aQ aG aU aR vX vN vG x1 u1 hu1) cy_X8_requireGuest ml_X8_124 ⟨⟨rfl, rfl⟩, Nat.le_of_ble_eq_true rfl, Nat.le_of_ble_eq_true rfl⟩ hK hE hP hD hS hA [true, true, true, true, true, true, true, true, true, true, true] rfl rfl rfl 0 rfl rfl rfl hl.1 rfl (Nat.le_of_ble_eq_true rfl) dX8_wouldBark_2 ⟨Nat.le_of_ble_eq_true rfl, Nat.le_of_ble_eq_true rfl⟩ [] rfl (fun h0 H locs hP hD hS => ?_) (fun h0 H locs ce q9 hP hD hS hce hcv hcl => ?_)
  rotate_left
  · have hf := ie (Nat.pos_iff_ne_zero.mp h0) hf
    obtain rfl := Option.some.inj hf
    exact xm_out hout hlocks h0 hce hcv hcl hP hS (Nat.le_of_ble_eq_true rfl) (Nat.le_of_ble_eq_true rfl)
  have hf := it h0 hf
  refine lv_aload_n hx hb dX8_wouldBark_5 rfl (lv_at hl 0 rfl) ?_
  refine gf_X8_31 hx hb hg hown hK hP 0 rfl rfl dX8_wouldBark_6 ?_
  refine gf_X8_85 hx hb hg hown hK hP 1 rfl rfl dX8_wouldBark_9 ?_
  refine lv_iload_n hx hb dX8_wouldBark_12 rfl (lv_at hl 1 rfl) ?_
  refine lv_aload_n hx hb dX8_wouldBark_13 rfl (lv_at hl 0 rfl) ?_
  refine gf_X8_31 hx hb hg hown hK hP 0 rfl rfl dX8_wouldBark_14 ?_
  refine gf_X8_99 hx hb hg hown hK hP 1 rfl rfl dX8_wouldBark_17 ?_
  refine lv_iconst (v := 1) hx hb dX8_wouldBark_20 (by decide) ?_
  refine lv_iadd hx hb dX8_wouldBark_21 ?_
  obtain ⟨u2, hu2, hf⟩ := bn hf
  refine cm_V (As := [.int x1, .int ((vN 0) + 1)]) (rest := []) (w2 := (W_X aX aB aBw aP aN aNd aH aQ vX ++ (W_N aN aG aU aR vN ++ (W_G E aG vG)))) hx hb hml hown hg (c_X1_barksAt E l aG vG x1 ((vN 0) + 1) u2 hu2) cy_X1_barksAt ml_X8_167 ⟨⟨rfl, rfl⟩, Nat.le_of_ble_eq_true rfl, Nat.le_of_ble_eq_true rfl⟩ hK hE hP hD hS hA [false, false, true, true, true, true, true, true, true, true, true] rfl rfl rfl 2 rfl rfl rfl hl.1 rfl (Nat.le_of_ble_eq_true rfl) dX8_wouldBark_22 ⟨Nat.le_of_ble_eq_true rfl, Nat.le_of_ble_eq_true rfl⟩ [.int u2] rfl (fun H locs hP hD hS => ?_)
  obtain ⟨hz, hf⟩ := cn_o hf
  obtain rfl := Option.some.inj hf
  exact xm_yret (v := u2) rfl hx hb hr hlocks hP hS (nar01 hz) dX8_wouldBark_25 (Nat.le_of_ble_eq_true rfl) (Nat.le_of_ble_eq_true rfl)
def F_X8_ownerOf (vX : Nat → Int32) (vN : Nat → Int32) (vU : Nat → Nat → Int32) (x1 : Int32) : Option (Nat × Int32) := (F_X8_requireUmbrella vX vN vU x1).bind (fun u1 => if u1 = 0 then (ck x1 12 ((some (0, (vU 1 (Int32.toNatClampNeg x1)))))) else some (u1, 0))
abbrev rm_X8_ownerOf : Room := { frames := 7, cells := 1, slots := 6, locals := 111 }
set_option maxHeartbeats 4000000 in
set_option maxRecDepth 100000 in
theorem c_X8_ownerOf (E : Ev) (l : Launch) (hst : l.stackTraces = false) (aX : Nat) (aB : Nat → Nat) (aBw : Nat → Nat) (aP : Nat) (aN : Nat) (aNd : Nat) (aH : Nat) (aQ : Nat) (aG : Nat → Nat) (aU : Nat → Nat) (aR : Nat → Nat) (vX : Nat → Int32) (vN : Nat → Int32) (vU : Nat → Nat → Int32) (x1 : Int32) (r : Nat × Int32) (hf : F_X8_ownerOf vX vN vU x1 = some r) : XM E l yX8_ownerOf (.code yX8_ownerOf cX8_ownerOf 2 (some .int) :: GA) rm_X8_ownerOf [.ref aX, .int x1] (W_X aX aB aBw aP aN aNd aH aQ vX ++ (W_N aN aG aU aR vN ++ (W_U E aU vU))) r.1 (some (.int r.2)) (W_X aX aB aBw aP aN aNd aH aQ vX ++ (W_N aN aG aU aR vN ++ (W_U E aU vU))) 1 := by
  refine XM.of (own := RX8) rfl (by decide) (Nat.le_of_ble_eq_true rfl) ?_
  intro p e s m below meth c A ls hx hb hr hml hown hg hlocks hK hE hA hout hP hD hS hl
  have hl : lv_has ls 2 [(0, .ref aX), (1, .int x1)] := hl
  unfold F_X8_ownerOf at hf
  refine lv_aload_n hx hb dX8_ownerOf_0 rfl (lv_at hl 0 rfl) ?_
  refine lv_iload_n hx hb dX8_ownerOf_1 rfl (lv_at hl 1 rfl) ?_
  obtain ⟨u1, hu1, hf⟩ := bn hf
  refine xm_V (As := [.int x1]) (rest := []) (w2 := (W_X aX aB aBw aP aN aNd aH aQ vX ++ (W_N aN aG aU aR vN ++ (W_U E aU vU)))) hx hb hml hown hg (c_X8_requireUmbrella E l hst aX aB aBw aP aN aNd aH aQ aG aU aR vX vN vU x1 u1 hu1) cy_X8_requireUmbrella ml_X8_178 ⟨⟨rfl, rfl⟩, Nat.le_of_ble_eq_true rfl, Nat.le_of_ble_eq_true rfl⟩ hK hE hP hD hS hA [true, true, true, true, true, true] rfl rfl rfl 0 rfl rfl rfl hl.1 rfl (Nat.le_of_ble_eq_true rfl) dX8_ownerOf_2 ⟨Nat.le_of_ble_eq_true rfl, Nat.le_of_ble_eq_true rfl⟩ [] rfl (fun h0 H locs hP hD hS => ?_) (fun h0 H locs ce q9 hP hD hS hce hcv hcl => ?_)
  rotate_left
  · have hf := ie (Nat.pos_iff_ne_zero.mp h0) hf
    obtain rfl := Option.some.inj hf
    exact xm_out hout hlocks h0 hce hcv hcl hP hS (Nat.le_of_ble_eq_true rfl) (Nat.le_of_ble_eq_true rfl)
  have hf := it h0 hf
  refine lv_aload_n hx hb dX8_ownerOf_5 rfl (lv_at hl 0 rfl) ?_
  refine gf_X8_31 hx hb hg hown hK hP 0 rfl rfl dX8_ownerOf_6 ?_
  refine gf_X8_171 hx hb hg hown hK hP 1 rfl rfl dX8_ownerOf_9 ?_
  refine gf_X8_181 hx hb hg hown hK hP 2 rfl rfl dX8_ownerOf_12 ?_
  refine lv_iload_n hx hb dX8_ownerOf_15 rfl (lv_at hl 1 rfl) ?_
  obtain ⟨hi, hf⟩ := ck_o hf
  refine ar_ld hx hb hK hP 3 rfl hi dX8_ownerOf_16 ?_
  obtain rfl := Option.some.inj hf
  exact xm_yret (v := (vU 1 (Int32.toNatClampNeg x1))) rfl hx hb hr hlocks hP hS rfl dX8_ownerOf_17 (Nat.le_of_ble_eq_true rfl) (Nat.le_of_ble_eq_true rfl)
def F_X8_wetness (vX : Nat → Int32) (vN : Nat → Int32) (vU : Nat → Nat → Int32) (x1 : Int32) : Option (Nat × Int32) := (F_X8_requireUmbrella vX vN vU x1).bind (fun u1 => if u1 = 0 then (ck x1 12 ((some (0, (vU 2 (Int32.toNatClampNeg x1)))))) else some (u1, 0))
abbrev rm_X8_wetness : Room := { frames := 7, cells := 1, slots := 6, locals := 111 }
set_option maxHeartbeats 4000000 in
set_option maxRecDepth 100000 in
theorem c_X8_wetness (E : Ev) (l : Launch) (hst : l.stackTraces = false) (aX : Nat) (aB : Nat → Nat) (aBw : Nat → Nat) (aP : Nat) (aN : Nat) (aNd : Nat) (aH : Nat) (aQ : Nat) (aG : Nat → Nat) (aU : Nat → Nat) (aR : Nat → Nat) (vX : Nat → Int32) (vN : Nat → Int32) (vU : Nat → Nat → Int32) (x1 : Int32) (r : Nat × Int32) (hf : F_X8_wetness vX vN vU x1 = some r) : XM E l yX8_wetness (.code yX8_wetness cX8_wetness 2 (some .int) :: GA) rm_X8_wetness [.ref aX, .int x1] (W_X aX aB aBw aP aN aNd aH aQ vX ++ (W_N aN aG aU aR vN ++ (W_U E aU vU))) r.1 (some (.int r.2)) (W_X aX aB aBw aP aN aNd aH aQ vX ++ (W_N aN aG aU aR vN ++ (W_U E aU vU))) 1 := by
  refine XM.of (own := RX8) rfl (by decide) (Nat.le_of_ble_eq_true rfl) ?_
  intro p e s m below meth c A ls hx hb hr hml hown hg hlocks hK hE hA hout hP hD hS hl
  have hl : lv_has ls 2 [(0, .ref aX), (1, .int x1)] := hl
  unfold F_X8_wetness at hf
  refine lv_aload_n hx hb dX8_wetness_0 rfl (lv_at hl 0 rfl) ?_
  refine lv_iload_n hx hb dX8_wetness_1 rfl (lv_at hl 1 rfl) ?_
  obtain ⟨u1, hu1, hf⟩ := bn hf
  refine xm_V (As := [.int x1]) (rest := []) (w2 := (W_X aX aB aBw aP aN aNd aH aQ vX ++ (W_N aN aG aU aR vN ++ (W_U E aU vU)))) hx hb hml hown hg (c_X8_requireUmbrella E l hst aX aB aBw aP aN aNd aH aQ aG aU aR vX vN vU x1 u1 hu1) cy_X8_requireUmbrella ml_X8_178 ⟨⟨rfl, rfl⟩, Nat.le_of_ble_eq_true rfl, Nat.le_of_ble_eq_true rfl⟩ hK hE hP hD hS hA [true, true, true, true, true, true] rfl rfl rfl 0 rfl rfl rfl hl.1 rfl (Nat.le_of_ble_eq_true rfl) dX8_wetness_2 ⟨Nat.le_of_ble_eq_true rfl, Nat.le_of_ble_eq_true rfl⟩ [] rfl (fun h0 H locs hP hD hS => ?_) (fun h0 H locs ce q9 hP hD hS hce hcv hcl => ?_)
  rotate_left
  · have hf := ie (Nat.pos_iff_ne_zero.mp h0) hf
    obtain rfl := Option.some.inj hf
    exact xm_out hout hlocks h0 hce hcv hcl hP hS (Nat.le_of_ble_eq_true rfl) (Nat.le_of_ble_eq_true rfl)
  have hf := it h0 hf
  refine lv_aload_n hx hb dX8_wetness_5 rfl (lv_at hl 0 rfl) ?_
  refine gf_X8_31 hx hb hg hown hK hP 0 rfl rfl dX8_wetness_6 ?_
  refine gf_X8_171 hx hb hg hown hK hP 1 rfl rfl dX8_wetness_9 ?_
  refine gf_X8_184 hx hb hg hown hK hP 2 rfl rfl dX8_wetness_12 ?_
  refine lv_iload_n hx hb dX8_wetness_15 rfl (lv_at hl 1 rfl) ?_
  obtain ⟨hi, hf⟩ := ck_o hf
  refine ar_ld hx hb hK hP 4 rfl hi dX8_wetness_16 ?_
  obtain rfl := Option.some.inj hf
  exact xm_yret (v := (vU 2 (Int32.toNatClampNeg x1))) rfl hx hb hr hlocks hP hS rfl dX8_wetness_17 (Nat.le_of_ble_eq_true rfl) (Nat.le_of_ble_eq_true rfl)
def F_X8_isInStand (vX : Nat → Int32) (vN : Nat → Int32) (vU : Nat → Nat → Int32) (x1 : Int32) : Option (Nat × Int32) := (F_X8_requireUmbrella vX vN vU x1).bind (fun u1 => if u1 = 0 then ((F_X7_stands vU x1).bind (fun u2 => (cn (u2 = 0 ∨ u2 = 1) (some (0, u2))))) else some (u1, 0))
abbrev rm_X8_isInStand : Room := { frames := 7, cells := 1, slots := 6, locals := 111 }
set_option maxHeartbeats 4000000 in
set_option maxRecDepth 100000 in
theorem c_X8_isInStand (E : Ev) (l : Launch) (hst : l.stackTraces = false) (aX : Nat) (aB : Nat → Nat) (aBw : Nat → Nat) (aP : Nat) (aN : Nat) (aNd : Nat) (aH : Nat) (aQ : Nat) (aG : Nat → Nat) (aU : Nat → Nat) (aR : Nat → Nat) (vX : Nat → Int32) (vN : Nat → Int32) (vU : Nat → Nat → Int32) (x1 : Int32) (r : Nat × Int32) (hf : F_X8_isInStand vX vN vU x1 = some r) : XM E l yX8_isInStand (.code yX8_isInStand cX8_isInStand 2 (some .boolean) :: GA) rm_X8_isInStand [.ref aX, .int x1] (W_X aX aB aBw aP aN aNd aH aQ vX ++ (W_N aN aG aU aR vN ++ (W_U E aU vU))) r.1 (some (.int r.2)) (W_X aX aB aBw aP aN aNd aH aQ vX ++ (W_N aN aG aU aR vN ++ (W_U E aU vU))) 1 := by
  refine XM.of (own := RX8) rfl (by decide) (Nat.le_of_ble_eq_true rfl) ?_
  intro p e s m below meth c A ls hx hb hr hml hown hg hlocks hK hE hA hout hP hD hS hl
  have hl : lv_has ls 2 [(0, .ref aX), (1, .int x1)] := hl
  unfold F_X8_isInStand at hf
  refine lv_aload_n hx hb dX8_isInStand_0 rfl (lv_at hl 0 rfl) ?_
  refine lv_iload_n hx hb dX8_isInStand_1 rfl (lv_at hl 1 rfl) ?_
  obtain ⟨u1, hu1, hf⟩ := bn hf
  refine xm_V (As := [.int x1]) (rest := []) (w2 := (W_X aX aB aBw aP aN aNd aH aQ vX ++ (W_N aN aG aU aR vN ++ (W_U E aU vU)))) hx hb hml hown hg (c_X8_requireUmbrella E l hst aX aB aBw aP aN aNd aH aQ aG aU aR vX vN vU x1 u1 hu1) cy_X8_requireUmbrella ml_X8_178 ⟨⟨rfl, rfl⟩, Nat.le_of_ble_eq_true rfl, Nat.le_of_ble_eq_true rfl⟩ hK hE hP hD hS hA [true, true, true, true, true, true] rfl rfl rfl 0 rfl rfl rfl hl.1 rfl (Nat.le_of_ble_eq_true rfl) dX8_isInStand_2 ⟨Nat.le_of_ble_eq_true rfl, Nat.le_of_ble_eq_true rfl⟩ [] rfl (fun h0 H locs hP hD hS => ?_) (fun h0 H locs ce q9 hP hD hS hce hcv hcl => ?_)
  rotate_left
  · have hf := ie (Nat.pos_iff_ne_zero.mp h0) hf
    obtain rfl := Option.some.inj hf
    exact xm_out hout hlocks h0 hce hcv hcl hP hS (Nat.le_of_ble_eq_true rfl) (Nat.le_of_ble_eq_true rfl)
  have hf := it h0 hf
  refine lv_aload_n hx hb dX8_isInStand_5 rfl (lv_at hl 0 rfl) ?_
  refine gf_X8_31 hx hb hg hown hK hP 0 rfl rfl dX8_isInStand_6 ?_
  refine gf_X8_171 hx hb hg hown hK hP 1 rfl rfl dX8_isInStand_9 ?_
  refine lv_iload_n hx hb dX8_isInStand_12 rfl (lv_at hl 1 rfl) ?_
  obtain ⟨u2, hu2, hf⟩ := bn hf
  refine cm_V (As := [.int x1]) (rest := []) (w2 := (W_X aX aB aBw aP aN aNd aH aQ vX ++ (W_N aN aG aU aR vN ++ (W_U E aU vU)))) hx hb hml hown hg (c_X7_stands E l aU vU x1 u2 hu2) cy_X7_stands ml_X8_187 ⟨⟨rfl, rfl⟩, Nat.le_of_ble_eq_true rfl, Nat.le_of_ble_eq_true rfl⟩ hK hE hP hD hS hA [false, false, true, true, true, true] rfl rfl rfl 2 rfl rfl rfl hl.1 rfl (Nat.le_of_ble_eq_true rfl) dX8_isInStand_13 ⟨Nat.le_of_ble_eq_true rfl, Nat.le_of_ble_eq_true rfl⟩ [.int u2] rfl (fun H locs hP hD hS => ?_)
  obtain ⟨hz, hf⟩ := cn_o hf
  obtain rfl := Option.some.inj hf
  exact xm_yret (v := u2) rfl hx hb hr hlocks hP hS (nar01 hz) dX8_isInStand_16 (Nat.le_of_ble_eq_true rfl) (Nat.le_of_ble_eq_true rfl)
def F_X8_isUsable (vX : Nat → Int32) (vN : Nat → Int32) (vU : Nat → Nat → Int32) (x1 : Int32) : Option (Nat × Int32) := (F_X8_requireUmbrella vX vN vU x1).bind (fun u1 => if u1 = 0 then ((F_X7_canBeTaken vU x1).bind (fun u2 => (cn (u2 = 0 ∨ u2 = 1) (some (0, u2))))) else some (u1, 0))
abbrev rm_X8_isUsable : Room := { frames := 7, cells := 1, slots := 6, locals := 111 }
set_option maxHeartbeats 4000000 in
set_option maxRecDepth 100000 in
theorem c_X8_isUsable (E : Ev) (l : Launch) (hst : l.stackTraces = false) (aX : Nat) (aB : Nat → Nat) (aBw : Nat → Nat) (aP : Nat) (aN : Nat) (aNd : Nat) (aH : Nat) (aQ : Nat) (aG : Nat → Nat) (aU : Nat → Nat) (aR : Nat → Nat) (vX : Nat → Int32) (vN : Nat → Int32) (vU : Nat → Nat → Int32) (x1 : Int32) (r : Nat × Int32) (hf : F_X8_isUsable vX vN vU x1 = some r) : XM E l yX8_isUsable (.code yX8_isUsable cX8_isUsable 2 (some .boolean) :: GA) rm_X8_isUsable [.ref aX, .int x1] (W_X aX aB aBw aP aN aNd aH aQ vX ++ (W_N aN aG aU aR vN ++ (W_U E aU vU))) r.1 (some (.int r.2)) (W_X aX aB aBw aP aN aNd aH aQ vX ++ (W_N aN aG aU aR vN ++ (W_U E aU vU))) 1 := by
  refine XM.of (own := RX8) rfl (by decide) (Nat.le_of_ble_eq_true rfl) ?_
  intro p e s m below meth c A ls hx hb hr hml hown hg hlocks hK hE hA hout hP hD hS hl
  have hl : lv_has ls 2 [(0, .ref aX), (1, .int x1)] := hl
  unfold F_X8_isUsable at hf
  refine lv_aload_n hx hb dX8_isUsable_0 rfl (lv_at hl 0 rfl) ?_
  refine lv_iload_n hx hb dX8_isUsable_1 rfl (lv_at hl 1 rfl) ?_
  obtain ⟨u1, hu1, hf⟩ := bn hf
  refine xm_V (As := [.int x1]) (rest := []) (w2 := (W_X aX aB aBw aP aN aNd aH aQ vX ++ (W_N aN aG aU aR vN ++ (W_U E aU vU)))) hx hb hml hown hg (c_X8_requireUmbrella E l hst aX aB aBw aP aN aNd aH aQ aG aU aR vX vN vU x1 u1 hu1) cy_X8_requireUmbrella ml_X8_178 ⟨⟨rfl, rfl⟩, Nat.le_of_ble_eq_true rfl, Nat.le_of_ble_eq_true rfl⟩ hK hE hP hD hS hA [true, true, true, true, true, true] rfl rfl rfl 0 rfl rfl rfl hl.1 rfl (Nat.le_of_ble_eq_true rfl) dX8_isUsable_2 ⟨Nat.le_of_ble_eq_true rfl, Nat.le_of_ble_eq_true rfl⟩ [] rfl (fun h0 H locs hP hD hS => ?_) (fun h0 H locs ce q9 hP hD hS hce hcv hcl => ?_)
  rotate_left
  · have hf := ie (Nat.pos_iff_ne_zero.mp h0) hf
    obtain rfl := Option.some.inj hf
    exact xm_out hout hlocks h0 hce hcv hcl hP hS (Nat.le_of_ble_eq_true rfl) (Nat.le_of_ble_eq_true rfl)
  have hf := it h0 hf
  refine lv_aload_n hx hb dX8_isUsable_5 rfl (lv_at hl 0 rfl) ?_
  refine gf_X8_31 hx hb hg hown hK hP 0 rfl rfl dX8_isUsable_6 ?_
  refine gf_X8_171 hx hb hg hown hK hP 1 rfl rfl dX8_isUsable_9 ?_
  refine lv_iload_n hx hb dX8_isUsable_12 rfl (lv_at hl 1 rfl) ?_
  obtain ⟨u2, hu2, hf⟩ := bn hf
  refine cm_V (As := [.int x1]) (rest := []) (w2 := (W_X aX aB aBw aP aN aNd aH aQ vX ++ (W_N aN aG aU aR vN ++ (W_U E aU vU)))) hx hb hml hown hg (c_X7_canBeTaken E l aU vU x1 u2 hu2) cy_X7_canBeTaken ml_X8_190 ⟨⟨rfl, rfl⟩, Nat.le_of_ble_eq_true rfl, Nat.le_of_ble_eq_true rfl⟩ hK hE hP hD hS hA [false, false, true, true, true, true] rfl rfl rfl 2 rfl rfl rfl hl.1 rfl (Nat.le_of_ble_eq_true rfl) dX8_isUsable_13 ⟨Nat.le_of_ble_eq_true rfl, Nat.le_of_ble_eq_true rfl⟩ [.int u2] rfl (fun H locs hP hD hS => ?_)
  obtain ⟨hz, hf⟩ := cn_o hf
  obtain rfl := Option.some.inj hf
  exact xm_yret (v := u2) rfl hx hb hr hlocks hP hS (nar01 hz) dX8_isUsable_16 (Nat.le_of_ble_eq_true rfl) (Nat.le_of_ble_eq_true rfl)
def F_X8_carrierOf (vX : Nat → Int32) (vN : Nat → Int32) (vU : Nat → Nat → Int32) (x1 : Int32) : Option (Nat × Int32) := (F_X8_requireUmbrella vX vN vU x1).bind (fun u1 => if u1 = 0 then ((F_X7_stands vU x1).bind (fun u2 => (if u2 = 0 then ck x1 12 ((some (0, (vU 3 (Int32.toNatClampNeg x1))))) else (some (3, 0))))) else some (u1, 0))
abbrev rm_X8_carrierOf : Room := { frames := 7, cells := 2, slots := 12, locals := 111 }
set_option maxHeartbeats 4000000 in
set_option maxRecDepth 100000 in
theorem c_X8_carrierOf (E : Ev) (l : Launch) (hst : l.stackTraces = false) (aX : Nat) (aB : Nat → Nat) (aBw : Nat → Nat) (aP : Nat) (aN : Nat) (aNd : Nat) (aH : Nat) (aQ : Nat) (aG : Nat → Nat) (aU : Nat → Nat) (aR : Nat → Nat) (vX : Nat → Int32) (vN : Nat → Int32) (vU : Nat → Nat → Int32) (x1 : Int32) (r : Nat × Int32) (hf : F_X8_carrierOf vX vN vU x1 = some r) : XM E l yX8_carrierOf (.code yX8_carrierOf cX8_carrierOf 2 (some .int) :: GA) rm_X8_carrierOf [.ref aX, .int x1] (W_X aX aB aBw aP aN aNd aH aQ vX ++ (W_N aN aG aU aR vN ++ (W_U E aU vU))) r.1 (some (.int r.2)) (W_X aX aB aBw aP aN aNd aH aQ vX ++ (W_N aN aG aU aR vN ++ (W_U E aU vU))) 2 := by
  refine XM.of (own := RX8) rfl (by decide) (Nat.le_of_ble_eq_true rfl) ?_
  intro p e s m below meth c A ls hx hb hr hml hown hg hlocks hK hE hA hout hP hD hS hl
  have hl : lv_has ls 2 [(0, .ref aX), (1, .int x1)] := hl
  unfold F_X8_carrierOf at hf
  refine lv_aload_n hx hb dX8_carrierOf_0 rfl (lv_at hl 0 rfl) ?_
  refine lv_iload_n hx hb dX8_carrierOf_1 rfl (lv_at hl 1 rfl) ?_
  obtain ⟨u1, hu1, hf⟩ := bn hf
  refine xm_V (As := [.int x1]) (rest := []) (w2 := (W_X aX aB aBw aP aN aNd aH aQ vX ++ (W_N aN aG aU aR vN ++ (W_U E aU vU)))) hx hb hml hown hg (c_X8_requireUmbrella E l hst aX aB aBw aP aN aNd aH aQ aG aU aR vX vN vU x1 u1 hu1) cy_X8_requireUmbrella ml_X8_178 ⟨⟨rfl, rfl⟩, Nat.le_of_ble_eq_true rfl, Nat.le_of_ble_eq_true rfl⟩ hK hE hP hD hS hA [true, true, true, true, true, true] rfl rfl rfl 0 rfl rfl rfl hl.1 rfl (Nat.le_of_ble_eq_true rfl) dX8_carrierOf_2 ⟨Nat.le_of_ble_eq_true rfl, Nat.le_of_ble_eq_true rfl⟩ [] rfl (fun h0 H locs hP hD hS => ?_) (fun h0 H locs ce q9 hP hD hS hce hcv hcl => ?_)
  rotate_left
  · have hf := ie (Nat.pos_iff_ne_zero.mp h0) hf
    obtain rfl := Option.some.inj hf
    exact xm_out hout hlocks h0 hce hcv hcl hP hS (Nat.le_of_ble_eq_true rfl) (Nat.le_of_ble_eq_true rfl)
  have hf := it h0 hf
  refine lv_aload_n hx hb dX8_carrierOf_5 rfl (lv_at hl 0 rfl) ?_
  refine gf_X8_31 hx hb hg hown hK hP 0 rfl rfl dX8_carrierOf_6 ?_
  refine gf_X8_171 hx hb hg hown hK hP 1 rfl rfl dX8_carrierOf_9 ?_
  refine lv_iload_n hx hb dX8_carrierOf_12 rfl (lv_at hl 1 rfl) ?_
  obtain ⟨u2, hu2, hf⟩ := bn hf
  refine cm_V (As := [.int x1]) (rest := []) (w2 := (W_X aX aB aBw aP aN aNd aH aQ vX ++ (W_N aN aG aU aR vN ++ (W_U E aU vU)))) hx hb hml hown hg (c_X7_stands E l aU vU x1 u2 hu2) cy_X7_stands ml_X8_187 ⟨⟨rfl, rfl⟩, Nat.le_of_ble_eq_true rfl, Nat.le_of_ble_eq_true rfl⟩ hK hE hP hD hS hA [false, false, true, true, true, true] rfl rfl rfl 2 rfl rfl rfl hl.1 rfl (Nat.le_of_ble_eq_true rfl) dX8_carrierOf_13 ⟨Nat.le_of_ble_eq_true rfl, Nat.le_of_ble_eq_true rfl⟩ [.int u2] rfl (fun H locs hP hD hS => ?_)
  refine lv_if_eq (tgt := 29) hx hb dX8_carrierOf_16 (by decide) (fun cq => ?_) (fun cq => ?_)
  · have hf := it cq hf
    refine lv_aload_n hx hb dX8_carrierOf_29 rfl (lv_at hl 0 rfl) ?_
    refine gf_X8_31 hx hb hg hown hK hP 0 rfl rfl dX8_carrierOf_30 ?_
    refine gf_X8_171 hx hb hg hown hK hP 1 rfl rfl dX8_carrierOf_33 ?_
    refine gf_X8_195 hx hb hg hown hK hP 2 rfl rfl dX8_carrierOf_36 ?_
    refine lv_iload_n hx hb dX8_carrierOf_39 rfl (lv_at hl 1 rfl) ?_
    obtain ⟨hi, hf⟩ := ck_o hf
    refine ar_ld hx hb hK hP 5 rfl hi dX8_carrierOf_40 ?_
    obtain rfl := Option.some.inj hf
    exact xm_yret (v := (vU 3 (Int32.toNatClampNeg x1))) rfl hx hb hr hlocks hP hS rfl dX8_carrierOf_41 (Nat.le_of_ble_eq_true rfl) (Nat.le_of_ble_eq_true rfl)
  · have hf := ie cq hf
    obtain rfl := Option.some.inj hf
    exact xm_throw3 (is := 193) (i := 37) (text := "the umbrella is in the stand") rfl hx hb hml hl.1 hst hown hg hE (List.mem_of_getElem? (i := 37) rfl) hout hlocks hP hS dX8_carrierOf_19 dX8_carrierOf_22 dX8_carrierOf_23 dX8_carrierOf_25 dX8_carrierOf_28 (Nat.le_of_ble_eq_true rfl) (Nat.le_of_ble_eq_true rfl) (Nat.le_of_ble_eq_true rfl) (Nat.le_of_ble_eq_true rfl) (Nat.le_of_ble_eq_true rfl) (Nat.le_of_ble_eq_true rfl)
