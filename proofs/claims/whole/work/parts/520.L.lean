def F_L_append (vX : Nat → Int32) (vB : Nat → Nat → Int32) (vO : Nat → Int64) (x1 : Int32) (x2 : Int32) (x3 : Int32) (x4 : Int32) (x5 : Int32) : Option (Int32 × (Nat → Nat → Int32) × (Nat → Int64)) := (F_X8_append vX vB x1 x2 x3 x4 x5).bind (fun u1 => if u1.1 = 0 then (ck 0 1 (lt (vp_updL vO (Int32.toNatClampNeg 0) (Int32.toInt64 u1.2.1)) (fun vO_3 => (some (0, u1.2.2, vO_3))))) else (if u1.1 = 1 then ((some (1, u1.2.2, vO))) else (none)))
abbrev rm_L_append : Room := { frames := 7, cells := 1, slots := 6, locals := 115 }
set_option maxHeartbeats 4000000 in
set_option maxRecDepth 100000 in
theorem c_L_append (E : Ev) (l : Launch) (hst : l.stackTraces = false) (aX : Nat) (aB : Nat → Nat) (aBw : Nat → Nat) (aP : Nat) (aN : Nat) (aNd : Nat) (aH : Nat) (aQ : Nat) (aO : Nat) (vX : Nat → Int32) (vB : Nat → Nat → Int32) (vO : Nat → Int64) (x1 : Int32) (x2 : Int32) (x3 : Int32) (x4 : Int32) (x5 : Int32) (r : Int32 × (Nat → Nat → Int32) × (Nat → Int64)) (hf : F_L_append vX vB vO x1 x2 x3 x4 x5 = some r) : LM E l yL_append (.codeWith yL_append cL_append 8 (some .int) [(0, 16, 19, 13)] :: GA) rm_L_append [.ref aX, .int x1, .int x2, .int x3, .int x4, .int x5, .ref aO] (W_X aX aB aBw aP aN aNd aH aQ vX ++ (W_B E aB vB ++ (W_J E aO 1 vO))) (some (.int r.1)) (W_X aX aB aBw aP aN aNd aH aQ vX ++ (W_B E aB r.2.1 ++ (W_J E aO 1 r.2.2))) 1 := by
  refine LM.of (own := RL) rfl (by decide) (Nat.le_of_ble_eq_true rfl) ?_
  intro p e s m below meth c A ls hx hb hr hml hown hg hlocks hK hE hN hA htb hP hD hS hl
  have hl : lv_has ls 8 [(0, .ref aX), (1, .int x1), (2, .int x2), (3, .int x3), (4, .int x4), (5, .int x5), (6, .ref aO)] := hl
  unfold F_L_append at hf
  refine lv_aload hx hb dL_append_0 (lv_at hl 6 rfl) ?_
  refine lv_iconst (v := 0) hx hb dL_append_2 (by decide) ?_
  refine lv_aload_n hx hb dL_append_3 rfl (lv_at hl 0 rfl) ?_
  refine lv_iload_n hx hb dL_append_4 rfl (lv_at hl 1 rfl) ?_
  refine lv_iload_n hx hb dL_append_5 rfl (lv_at hl 2 rfl) ?_
  refine lv_iload_n hx hb dL_append_6 rfl (lv_at hl 3 rfl) ?_
  refine lv_iload hx hb dL_append_7 (lv_at hl 4 rfl) ?_
  refine lv_iload hx hb dL_append_9 (lv_at hl 5 rfl) ?_
  obtain ⟨u1, hu1, hf⟩ := bn hf
  refine xm_V (As := [.int x1, .int x2, .int x3, .int x4, .int x5]) (rest := [.int 0, .ref aO]) (w2 := (W_X aX aB aBw aP aN aNd aH aQ vX ++ (W_B E aB u1.2.2 ++ (W_J E aO 1 vO)))) hx hb hml hown hg (c_X8_append E l hst aX aB aBw aP aN aNd aH aQ vX vB x1 x2 x3 x4 x5 u1 hu1) cy_X8_append ml_L_7 ⟨⟨rfl, rfl⟩, Nat.le_of_ble_eq_true rfl, Nat.le_of_ble_eq_true rfl⟩ hK hE hP hD hS hA [true, true, true] rfl rfl rfl 0 rfl rfl rfl hl.1 rfl (Nat.le_of_ble_eq_true rfl) dL_append_11 ⟨Nat.le_of_ble_eq_true rfl, Nat.le_of_ble_eq_true rfl⟩ [.int u1.2.1, .int 0, .ref aO] rfl (fun h0 H locs hP hD hS => ?_) (fun h0 H locs ce q9 hP hD hS hce hcv hcl => ?_)
  rotate_left
  · have hf := ie (Nat.pos_iff_ne_zero.mp h0) hf
    by_cases ho : u1.1 = 1
    · have hf := it ho hf
      rw [ho] at hcl
      refine vx_catch (E := XK 1) hown [] ⟨0, 16, 19, 13⟩ [] htb (fun z hz => absurd hz List.not_mem_nil) rfl (by decide) (hg _ cl_L_13) (va_Nw.use rfl (hE.2.2.2.2.2.2.1 "java/lang/IllegalStateException" (by decide))) hce hcv hcl ?_
      refine lv_astore (lv' := [(7, .ref q9), (0, .ref aX), (1, .int x1), (2, .int x2), (3, .int x3), (4, .int x4), (5, .int x5), (6, .ref aO)]) hx hb dL_append_19 hl (by decide) rfl (fun ls hl => ?_)
      refine lv_iconst (v := 1) hx hb dL_append_21 (by decide) ?_
      obtain rfl := Option.some.inj hf
      exact lm_iret (v := 1) hx hb hr hlocks hP hS dL_append_22 (Nat.le_of_ble_eq_true rfl) (Nat.le_of_ble_eq_true rfl)
    · have hf := ie ho hf
      cases hf
  have hf := it h0 hf
  refine lv_i2l (v := (Int32.toInt64 u1.2.1)) hx hb dL_append_14 rfl ?_
  obtain ⟨hi, hf⟩ := ck_o hf
  refine al_st (w2 := (W_X aX aB aBw aP aN aNd aH aQ vX ++ (W_B E aB u1.2.2 ++ (W_J E aO 1 (vp_updL vO (Int32.toNatClampNeg 0) (Int32.toInt64 u1.2.1)))))) hx hb hK hP hD hS 3 rfl hi rfl dL_append_15 (fun H locs hP hD hS => ?_)
  obtain ⟨vO_3, hv, hf⟩ := lt_o hf
  rw [← hv] at hP hD
  clear hv
  refine lv_goto (tgt := 23) hx hb dL_append_16 (by decide) ?_
  refine lv_iconst (v := 0) hx hb dL_append_23 (by decide) ?_
  obtain rfl := Option.some.inj hf
  exact lm_iret (v := 0) hx hb hr hlocks hP hS dL_append_24 (Nat.le_of_ble_eq_true rfl) (Nat.le_of_ble_eq_true rfl)
def F_L_shorten (vX : Nat → Int32) (vB : Nat → Nat → Int32) (vO : Nat → Int64) (x1 : Int32) : Option (Int32 × (Nat → Nat → Int32) × (Nat → Int64)) := (F_X8_shorten vX vB x1).bind (fun u1 => if u1.1 = 0 then (ck 0 1 (lt (vp_updL vO (Int32.toNatClampNeg 0) (Int32.toInt64 u1.2.1)) (fun vO_3 => (some (0, u1.2.2, vO_3))))) else (if u1.1 = 2 then ((some (1, u1.2.2, vO))) else (none)))
abbrev rm_L_shorten : Room := { frames := 7, cells := 1, slots := 6, locals := 111 }
set_option maxHeartbeats 4000000 in
set_option maxRecDepth 100000 in
theorem c_L_shorten (E : Ev) (l : Launch) (hst : l.stackTraces = false) (aX : Nat) (aB : Nat → Nat) (aBw : Nat → Nat) (aP : Nat) (aN : Nat) (aNd : Nat) (aH : Nat) (aQ : Nat) (aO : Nat) (vX : Nat → Int32) (vB : Nat → Nat → Int32) (vO : Nat → Int64) (x1 : Int32) (r : Int32 × (Nat → Nat → Int32) × (Nat → Int64)) (hf : F_L_shorten vX vB vO x1 = some r) : LM E l yL_shorten (.codeWith yL_shorten cL_shorten 4 (some .int) [(0, 9, 12, 19)] :: GA) rm_L_shorten [.ref aX, .int x1, .ref aO] (W_X aX aB aBw aP aN aNd aH aQ vX ++ (W_B E aB vB ++ (W_J E aO 1 vO))) (some (.int r.1)) (W_X aX aB aBw aP aN aNd aH aQ vX ++ (W_B E aB r.2.1 ++ (W_J E aO 1 r.2.2))) 1 := by
  refine LM.of (own := RL) rfl (by decide) (Nat.le_of_ble_eq_true rfl) ?_
  intro p e s m below meth c A ls hx hb hr hml hown hg hlocks hK hE hN hA htb hP hD hS hl
  have hl : lv_has ls 4 [(0, .ref aX), (1, .int x1), (2, .ref aO)] := hl
  unfold F_L_shorten at hf
  refine lv_aload_n hx hb dL_shorten_0 rfl (lv_at hl 2 rfl) ?_
  refine lv_iconst (v := 0) hx hb dL_shorten_1 (by decide) ?_
  refine lv_aload_n hx hb dL_shorten_2 rfl (lv_at hl 0 rfl) ?_
  refine lv_iload_n hx hb dL_shorten_3 rfl (lv_at hl 1 rfl) ?_
  obtain ⟨u1, hu1, hf⟩ := bn hf
  refine xm_V (As := [.int x1]) (rest := [.int 0, .ref aO]) (w2 := (W_X aX aB aBw aP aN aNd aH aQ vX ++ (W_B E aB u1.2.2 ++ (W_J E aO 1 vO)))) hx hb hml hown hg (c_X8_shorten E l hst aX aB aBw aP aN aNd aH aQ vX vB x1 u1 hu1) cy_X8_shorten ml_L_15 ⟨⟨rfl, rfl⟩, Nat.le_of_ble_eq_true rfl, Nat.le_of_ble_eq_true rfl⟩ hK hE hP hD hS hA [true, true, true] rfl rfl rfl 0 rfl rfl rfl hl.1 rfl (Nat.le_of_ble_eq_true rfl) dL_shorten_4 ⟨Nat.le_of_ble_eq_true rfl, Nat.le_of_ble_eq_true rfl⟩ [.int u1.2.1, .int 0, .ref aO] rfl (fun h0 H locs hP hD hS => ?_) (fun h0 H locs ce q9 hP hD hS hce hcv hcl => ?_)
  rotate_left
  · have hf := ie (Nat.pos_iff_ne_zero.mp h0) hf
    by_cases ho : u1.1 = 2
    · have hf := it ho hf
      rw [ho] at hcl
      refine vx_catch (E := XK 2) hown [] ⟨0, 9, 12, 19⟩ [] htb (fun z hz => absurd hz List.not_mem_nil) rfl (by decide) (hg _ cl_L_19) (va_Nw.use rfl (hE.2.2.2.2.2.2.1 "java/lang/IllegalArgumentException" (by decide))) hce hcv hcl ?_
      refine lv_astore_n (lv' := [(3, .ref q9), (0, .ref aX), (1, .int x1), (2, .ref aO)]) hx hb dL_shorten_12 rfl hl (by decide) rfl (fun ls hl => ?_)
      refine lv_iconst (v := 1) hx hb dL_shorten_13 (by decide) ?_
      obtain rfl := Option.some.inj hf
      exact lm_iret (v := 1) hx hb hr hlocks hP hS dL_shorten_14 (Nat.le_of_ble_eq_true rfl) (Nat.le_of_ble_eq_true rfl)
    · have hf := ie ho hf
      cases hf
  have hf := it h0 hf
  refine lv_i2l (v := (Int32.toInt64 u1.2.1)) hx hb dL_shorten_7 rfl ?_
  obtain ⟨hi, hf⟩ := ck_o hf
  refine al_st (w2 := (W_X aX aB aBw aP aN aNd aH aQ vX ++ (W_B E aB u1.2.2 ++ (W_J E aO 1 (vp_updL vO (Int32.toNatClampNeg 0) (Int32.toInt64 u1.2.1)))))) hx hb hK hP hD hS 3 rfl hi rfl dL_shorten_8 (fun H locs hP hD hS => ?_)
  obtain ⟨vO_3, hv, hf⟩ := lt_o hf
  rw [← hv] at hP hD
  clear hv
  refine lv_goto (tgt := 15) hx hb dL_shorten_9 (by decide) ?_
  refine lv_iconst (v := 0) hx hb dL_shorten_15 (by decide) ?_
  obtain rfl := Option.some.inj hf
  exact lm_iret (v := 0) hx hb hr hlocks hP hS dL_shorten_16 (Nat.le_of_ble_eq_true rfl) (Nat.le_of_ble_eq_true rfl)
def F_L_load (vX : Nat → Int32) (vP : Nat → Int32) (vN : Nat → Int32) (vG : Nat → Nat → Int32) (vU : Nat → Nat → Int32) (vR : Nat → Nat → Int32) (vNd : Nat → Int32) (vGd : Nat → Nat → Int32) (vUd : Nat → Nat → Int32) (vRd : Nat → Nat → Int32) (vH : Nat → Int32) (vQF : Nat → Int32) (vB : Nat → Nat → Int32) (vO : Nat → Int64) : Option (Int32 × (Nat → Int32) × (Nat → Int32) × (Nat → Int32) × (Nat → Nat → Int32) × (Nat → Nat → Int32) × (Nat → Nat → Int32) × (Nat → Int32) × (Nat → Nat → Int32) × (Nat → Nat → Int32) × (Nat → Nat → Int32) × (Nat → Int32) × (Nat → Int32) × (Nat → Nat → Int32) × (Nat → Int64)) := (F_X8_load vX vP vN vG vU vR vNd vGd vUd vRd vH vQF vB).bind (fun u1 => if u1.1 = 0 then (ck 0 1 (lt (vp_updL vO (Int32.toNatClampNeg 0) (Int32.toInt64 u1.2.1)) (fun vO_3 => (some (0, u1.2.2.1, u1.2.2.2.1, u1.2.2.2.2.1, u1.2.2.2.2.2.1, u1.2.2.2.2.2.2.1, u1.2.2.2.2.2.2.2.1, u1.2.2.2.2.2.2.2.2.1, u1.2.2.2.2.2.2.2.2.2.1, u1.2.2.2.2.2.2.2.2.2.2.1, u1.2.2.2.2.2.2.2.2.2.2.2.1, u1.2.2.2.2.2.2.2.2.2.2.2.2.1, u1.2.2.2.2.2.2.2.2.2.2.2.2.2.1, u1.2.2.2.2.2.2.2.2.2.2.2.2.2.2, vO_3))))) else (if u1.1 = 2 then ((some (1, u1.2.2.1, u1.2.2.2.1, u1.2.2.2.2.1, u1.2.2.2.2.2.1, u1.2.2.2.2.2.2.1, u1.2.2.2.2.2.2.2.1, u1.2.2.2.2.2.2.2.2.1, u1.2.2.2.2.2.2.2.2.2.1, u1.2.2.2.2.2.2.2.2.2.2.1, u1.2.2.2.2.2.2.2.2.2.2.2.1, u1.2.2.2.2.2.2.2.2.2.2.2.2.1, u1.2.2.2.2.2.2.2.2.2.2.2.2.2.1, u1.2.2.2.2.2.2.2.2.2.2.2.2.2.2, vO))) else (none)))
abbrev rm_L_load : Room := { frames := 9, cells := 1, slots := 6, locals := 195 }
set_option maxHeartbeats 4000000 in
set_option maxRecDepth 100000 in
theorem c_L_load (E : Ev) (l : Launch) (hst : l.stackTraces = false) (aX : Nat) (aB : Nat → Nat) (aBw : Nat → Nat) (aP : Nat) (aN : Nat) (aNd : Nat) (aH : Nat) (aQ : Nat) (aG : Nat → Nat) (aU : Nat → Nat) (aR : Nat → Nat) (aGd : Nat → Nat) (aUd : Nat → Nat) (aRd : Nat → Nat) (aHA : Nat) (aQA : Nat) (aQF : Nat) (aO : Nat) (vX : Nat → Int32) (vP : Nat → Int32) (vN : Nat → Int32) (vG : Nat → Nat → Int32) (vU : Nat → Nat → Int32) (vR : Nat → Nat → Int32) (vNd : Nat → Int32) (vGd : Nat → Nat → Int32) (vUd : Nat → Nat → Int32) (vRd : Nat → Nat → Int32) (vH : Nat → Int32) (vQF : Nat → Int32) (vB : Nat → Nat → Int32) (vO : Nat → Int64) (r : Int32 × (Nat → Int32) × (Nat → Int32) × (Nat → Int32) × (Nat → Nat → Int32) × (Nat → Nat → Int32) × (Nat → Nat → Int32) × (Nat → Int32) × (Nat → Nat → Int32) × (Nat → Nat → Int32) × (Nat → Nat → Int32) × (Nat → Int32) × (Nat → Int32) × (Nat → Nat → Int32) × (Nat → Int64)) (hf : F_L_load vX vP vN vG vU vR vNd vGd vUd vRd vH vQF vB vO = some r) : LM E l yL_load (.codeWith yL_load cL_load 3 (some .int) [(0, 8, 11, 19)] :: GA) rm_L_load [.ref aX, .ref aO] (W_X aX aB aBw aP aN aNd aH aQ vX ++ (W_P aP aB vP ++ (W_N aN aG aU aR vN ++ (W_G E aG vG ++ (W_U E aU vU ++ (W_R E aR vR ++ (W_N aNd aGd aUd aRd vNd ++ (W_G E aGd vGd ++ (W_U E aUd vUd ++ (W_R E aRd vRd ++ (W_H aH aHA vH ++ (W_Q aQ aQA aQF ++ (W_Z E aQF 2 vQF ++ (W_B E aB vB ++ (W_J E aO 1 vO))))))))))))))) (some (.int r.1)) (W_X aX aB aBw aP aN aNd aH aQ r.2.1 ++ (W_P aP aB r.2.2.1 ++ (W_N aN aG aU aR r.2.2.2.1 ++ (W_G E aG r.2.2.2.2.1 ++ (W_U E aU r.2.2.2.2.2.1 ++ (W_R E aR r.2.2.2.2.2.2.1 ++ (W_N aNd aGd aUd aRd r.2.2.2.2.2.2.2.1 ++ (W_G E aGd r.2.2.2.2.2.2.2.2.1 ++ (W_U E aUd r.2.2.2.2.2.2.2.2.2.1 ++ (W_R E aRd r.2.2.2.2.2.2.2.2.2.2.1 ++ (W_H aH aHA r.2.2.2.2.2.2.2.2.2.2.2.1 ++ (W_Q aQ aQA aQF ++ (W_Z E aQF 2 r.2.2.2.2.2.2.2.2.2.2.2.2.1 ++ (W_B E aB r.2.2.2.2.2.2.2.2.2.2.2.2.2.1 ++ (W_J E aO 1 r.2.2.2.2.2.2.2.2.2.2.2.2.2.2))))))))))))))) 1 := by
  refine LM.of (own := RL) rfl (by decide) (Nat.le_of_ble_eq_true rfl) ?_
  intro p e s m below meth c A ls hx hb hr hml hown hg hlocks hK hE hN hA htb hP hD hS hl
  have hl : lv_has ls 3 [(0, .ref aX), (1, .ref aO)] := hl
  unfold F_L_load at hf
  refine lv_aload_n hx hb dL_load_0 rfl (lv_at hl 1 rfl) ?_
  refine lv_iconst (v := 0) hx hb dL_load_1 (by decide) ?_
  refine lv_aload_n hx hb dL_load_2 rfl (lv_at hl 0 rfl) ?_
  obtain ⟨u1, hu1, hf⟩ := bn hf
  refine xm_V (As := []) (rest := [.int 0, .ref aO]) (w2 := (W_X aX aB aBw aP aN aNd aH aQ u1.2.2.1 ++ (W_P aP aB u1.2.2.2.1 ++ (W_N aN aG aU aR u1.2.2.2.2.1 ++ (W_G E aG u1.2.2.2.2.2.1 ++ (W_U E aU u1.2.2.2.2.2.2.1 ++ (W_R E aR u1.2.2.2.2.2.2.2.1 ++ (W_N aNd aGd aUd aRd u1.2.2.2.2.2.2.2.2.1 ++ (W_G E aGd u1.2.2.2.2.2.2.2.2.2.1 ++ (W_U E aUd u1.2.2.2.2.2.2.2.2.2.2.1 ++ (W_R E aRd u1.2.2.2.2.2.2.2.2.2.2.2.1 ++ (W_H aH aHA u1.2.2.2.2.2.2.2.2.2.2.2.2.1 ++ (W_Q aQ aQA aQF ++ (W_Z E aQF 2 u1.2.2.2.2.2.2.2.2.2.2.2.2.2.1 ++ (W_B E aB u1.2.2.2.2.2.2.2.2.2.2.2.2.2.2 ++ (W_J E aO 1 vO)))))))))))))))) hx hb hml hown hg (c_X8_load E l hst aX aB aBw aP aN aNd aH aQ aG aU aR aGd aUd aRd aHA aQA aQF vX vP vN vG vU vR vNd vGd vUd vRd vH vQF vB u1 hu1) cy_X8_load ml_L_21 ⟨⟨rfl, rfl⟩, Nat.le_of_ble_eq_true rfl, Nat.le_of_ble_eq_true rfl⟩ hK hE hP hD hS hA [true, true, true, true, true, true, true, true, true, true, true, true, true, true, true, true, true, true, true, true, true, true, true, true, true, true, true, true, true, true, true, true, true, true, true, true, true, true, true, true, true, true, true] rfl rfl rfl 0 rfl rfl rfl hl.1 rfl (Nat.le_of_ble_eq_true rfl) dL_load_3 ⟨Nat.le_of_ble_eq_true rfl, Nat.le_of_ble_eq_true rfl⟩ [.int u1.2.1, .int 0, .ref aO] rfl (fun h0 H locs hP hD hS => ?_) (fun h0 H locs ce q9 hP hD hS hce hcv hcl => ?_)
  rotate_left
  · have hf := ie (Nat.pos_iff_ne_zero.mp h0) hf
    by_cases ho : u1.1 = 2
    · have hf := it ho hf
      rw [ho] at hcl
      refine vx_catch (E := XK 2) hown [] ⟨0, 8, 11, 19⟩ [] htb (fun z hz => absurd hz List.not_mem_nil) rfl (by decide) (hg _ cl_L_19) (va_Nw.use rfl (hE.2.2.2.2.2.2.1 "java/lang/IllegalArgumentException" (by decide))) hce hcv hcl ?_
      refine lv_astore_n (lv' := [(2, .ref q9), (0, .ref aX), (1, .ref aO)]) hx hb dL_load_11 rfl hl (by decide) rfl (fun ls hl => ?_)
      refine lv_iconst (v := 1) hx hb dL_load_12 (by decide) ?_
      obtain rfl := Option.some.inj hf
      exact lm_iret (v := 1) hx hb hr hlocks hP hS dL_load_13 (Nat.le_of_ble_eq_true rfl) (Nat.le_of_ble_eq_true rfl)
    · have hf := ie ho hf
      cases hf
  have hf := it h0 hf
  refine lv_i2l (v := (Int32.toInt64 u1.2.1)) hx hb dL_load_6 rfl ?_
  obtain ⟨hi, hf⟩ := ck_o hf
  refine al_st (w2 := (W_X aX aB aBw aP aN aNd aH aQ u1.2.2.1 ++ (W_P aP aB u1.2.2.2.1 ++ (W_N aN aG aU aR u1.2.2.2.2.1 ++ (W_G E aG u1.2.2.2.2.2.1 ++ (W_U E aU u1.2.2.2.2.2.2.1 ++ (W_R E aR u1.2.2.2.2.2.2.2.1 ++ (W_N aNd aGd aUd aRd u1.2.2.2.2.2.2.2.2.1 ++ (W_G E aGd u1.2.2.2.2.2.2.2.2.2.1 ++ (W_U E aUd u1.2.2.2.2.2.2.2.2.2.2.1 ++ (W_R E aRd u1.2.2.2.2.2.2.2.2.2.2.2.1 ++ (W_H aH aHA u1.2.2.2.2.2.2.2.2.2.2.2.2.1 ++ (W_Q aQ aQA aQF ++ (W_Z E aQF 2 u1.2.2.2.2.2.2.2.2.2.2.2.2.2.1 ++ (W_B E aB u1.2.2.2.2.2.2.2.2.2.2.2.2.2.2 ++ (W_J E aO 1 (vp_updL vO (Int32.toNatClampNeg 0) (Int32.toInt64 u1.2.1)))))))))))))))))) hx hb hK hP hD hS 43 rfl hi rfl dL_load_7 (fun H locs hP hD hS => ?_)
  obtain ⟨vO_3, hv, hf⟩ := lt_o hf
  rw [← hv] at hP hD
  clear hv
  refine lv_goto (tgt := 14) hx hb dL_load_8 (by decide) ?_
  refine lv_iconst (v := 0) hx hb dL_load_14 (by decide) ?_
  obtain rfl := Option.some.inj hf
  exact lm_iret (v := 0) hx hb hr hlocks hP hS dL_load_15 (Nat.le_of_ble_eq_true rfl) (Nat.le_of_ble_eq_true rfl)
def F_L_errorOffset (vX : Nat → Int32) (vO : Nat → Int64) : Option (Int32 × (Nat → Int64)) := (F_X8_errorOffset vX).bind (fun u1 => if u1.1 = 0 then (ck 0 1 (lt (vp_updL vO (Int32.toNatClampNeg 0) (Int32.toInt64 u1.2)) (fun vO_3 => (some (0, vO_3))))) else (if u1.1 = 3 then ((some (1, vO))) else (none)))
abbrev rm_L_errorOffset : Room := { frames := 7, cells := 1, slots := 6, locals := 110 }
set_option maxHeartbeats 4000000 in
set_option maxRecDepth 100000 in
theorem c_L_errorOffset (E : Ev) (l : Launch) (hst : l.stackTraces = false) (aX : Nat) (aB : Nat → Nat) (aBw : Nat → Nat) (aP : Nat) (aN : Nat) (aNd : Nat) (aH : Nat) (aQ : Nat) (aO : Nat) (vX : Nat → Int32) (vO : Nat → Int64) (r : Int32 × (Nat → Int64)) (hf : F_L_errorOffset vX vO = some r) : LM E l yL_errorOffset (.codeWith yL_errorOffset cL_errorOffset 3 (some .int) [(0, 8, 11, 28)] :: GA) rm_L_errorOffset [.ref aX, .ref aO] (W_X aX aB aBw aP aN aNd aH aQ vX ++ (W_J E aO 1 vO)) (some (.int r.1)) (W_X aX aB aBw aP aN aNd aH aQ vX ++ (W_J E aO 1 r.2)) 1 := by
  refine LM.of (own := RL) rfl (by decide) (Nat.le_of_ble_eq_true rfl) ?_
  intro p e s m below meth c A ls hx hb hr hml hown hg hlocks hK hE hN hA htb hP hD hS hl
  have hl : lv_has ls 3 [(0, .ref aX), (1, .ref aO)] := hl
  unfold F_L_errorOffset at hf
  refine lv_aload_n hx hb dL_errorOffset_0 rfl (lv_at hl 1 rfl) ?_
  refine lv_iconst (v := 0) hx hb dL_errorOffset_1 (by decide) ?_
  refine lv_aload_n hx hb dL_errorOffset_2 rfl (lv_at hl 0 rfl) ?_
  obtain ⟨u1, hu1, hf⟩ := bn hf
  refine xm_V (As := []) (rest := [.int 0, .ref aO]) (w2 := (W_X aX aB aBw aP aN aNd aH aQ vX ++ (W_J E aO 1 vO))) hx hb hml hown hg (c_X8_errorOffset E l hst aX aB aBw aP aN aNd aH aQ vX u1 hu1) cy_X8_errorOffset ml_L_25 ⟨⟨rfl, rfl⟩, Nat.le_of_ble_eq_true rfl, Nat.le_of_ble_eq_true rfl⟩ hK hE hP hD hS hA [true] rfl rfl rfl 0 rfl rfl rfl hl.1 rfl (Nat.le_of_ble_eq_true rfl) dL_errorOffset_3 ⟨Nat.le_of_ble_eq_true rfl, Nat.le_of_ble_eq_true rfl⟩ [.int u1.2, .int 0, .ref aO] rfl (fun h0 H locs hP hD hS => ?_) (fun h0 H locs ce q9 hP hD hS hce hcv hcl => ?_)
  rotate_left
  · have hf := ie (Nat.pos_iff_ne_zero.mp h0) hf
    by_cases ho : u1.1 = 3
    · have hf := it ho hf
      rw [ho] at hcl
      refine vx_catch (E := XK 3) hown [] ⟨0, 8, 11, 28⟩ [] htb (fun z hz => absurd hz List.not_mem_nil) rfl (by decide) (hg _ cl_L_28) (va_Nw.use rfl (hE.2.2.2.2.2.2.1 "java/util/NoSuchElementException" (by decide))) hce hcv hcl ?_
      refine lv_astore_n (lv' := [(2, .ref q9), (0, .ref aX), (1, .ref aO)]) hx hb dL_errorOffset_11 rfl hl (by decide) rfl (fun ls hl => ?_)
      refine lv_iconst (v := 1) hx hb dL_errorOffset_12 (by decide) ?_
      obtain rfl := Option.some.inj hf
      exact lm_iret (v := 1) hx hb hr hlocks hP hS dL_errorOffset_13 (Nat.le_of_ble_eq_true rfl) (Nat.le_of_ble_eq_true rfl)
    · have hf := ie ho hf
      cases hf
  have hf := it h0 hf
  refine lv_i2l (v := (Int32.toInt64 u1.2)) hx hb dL_errorOffset_6 rfl ?_
  obtain ⟨hi, hf⟩ := ck_o hf
  refine al_st (w2 := (W_X aX aB aBw aP aN aNd aH aQ vX ++ (W_J E aO 1 (vp_updL vO (Int32.toNatClampNeg 0) (Int32.toInt64 u1.2))))) hx hb hK hP hD hS 1 rfl hi rfl dL_errorOffset_7 (fun H locs hP hD hS => ?_)
  obtain ⟨vO_3, hv, hf⟩ := lt_o hf
  rw [← hv] at hP hD
  clear hv
  refine lv_goto (tgt := 14) hx hb dL_errorOffset_8 (by decide) ?_
  refine lv_iconst (v := 0) hx hb dL_errorOffset_14 (by decide) ?_
  obtain rfl := Option.some.inj hf
  exact lm_iret (v := 0) hx hb hr hlocks hP hS dL_errorOffset_15 (Nat.le_of_ble_eq_true rfl) (Nat.le_of_ble_eq_true rfl)
def F_L_nameLength (vX : Nat → Int32) (vN : Nat → Int32) (vG : Nat → Nat → Int32) (vO : Nat → Int64) (x1 : Int32) : Option (Int32 × (Nat → Int64)) := (F_X8_nameLength vX vN vG x1).bind (fun u1 => if u1.1 = 0 then (ck 0 1 (lt (vp_updL vO (Int32.toNatClampNeg 0) (Int32.toInt64 u1.2)) (fun vO_3 => (some (0, vO_3))))) else (if u1.1 = 4 then ((some (1, vO))) else (none)))
abbrev rm_L_nameLength : Room := { frames := 8, cells := 1, slots := 6, locals := 132 }
set_option maxHeartbeats 4000000 in
set_option maxRecDepth 100000 in
theorem c_L_nameLength (E : Ev) (l : Launch) (hst : l.stackTraces = false) (aX : Nat) (aB : Nat → Nat) (aBw : Nat → Nat) (aP : Nat) (aN : Nat) (aNd : Nat) (aH : Nat) (aQ : Nat) (aG : Nat → Nat) (aU : Nat → Nat) (aR : Nat → Nat) (aO : Nat) (vX : Nat → Int32) (vN : Nat → Int32) (vG : Nat → Nat → Int32) (vO : Nat → Int64) (x1 : Int32) (r : Int32 × (Nat → Int64)) (hf : F_L_nameLength vX vN vG vO x1 = some r) : LM E l yL_nameLength (.codeWith yL_nameLength cL_nameLength 4 (some .int) [(0, 9, 12, 33)] :: GA) rm_L_nameLength [.ref aX, .int x1, .ref aO] (W_X aX aB aBw aP aN aNd aH aQ vX ++ (W_N aN aG aU aR vN ++ (W_G E aG vG ++ (W_J E aO 1 vO)))) (some (.int r.1)) (W_X aX aB aBw aP aN aNd aH aQ vX ++ (W_N aN aG aU aR vN ++ (W_G E aG vG ++ (W_J E aO 1 r.2)))) 1 := by
  refine LM.of (own := RL) rfl (by decide) (Nat.le_of_ble_eq_true rfl) ?_
  intro p e s m below meth c A ls hx hb hr hml hown hg hlocks hK hE hN hA htb hP hD hS hl
  have hl : lv_has ls 4 [(0, .ref aX), (1, .int x1), (2, .ref aO)] := hl
  unfold F_L_nameLength at hf
  refine lv_aload_n hx hb dL_nameLength_0 rfl (lv_at hl 2 rfl) ?_
  refine lv_iconst (v := 0) hx hb dL_nameLength_1 (by decide) ?_
  refine lv_aload_n hx hb dL_nameLength_2 rfl (lv_at hl 0 rfl) ?_
  refine lv_iload_n hx hb dL_nameLength_3 rfl (lv_at hl 1 rfl) ?_
  obtain ⟨u1, hu1, hf⟩ := bn hf
  refine xm_V (As := [.int x1]) (rest := [.int 0, .ref aO]) (w2 := (W_X aX aB aBw aP aN aNd aH aQ vX ++ (W_N aN aG aU aR vN ++ (W_G E aG vG ++ (W_J E aO 1 vO))))) hx hb hml hown hg (c_X8_nameLength E l hst aX aB aBw aP aN aNd aH aQ aG aU aR vX vN vG x1 u1 hu1) cy_X8_nameLength ml_L_30 ⟨⟨rfl, rfl⟩, Nat.le_of_ble_eq_true rfl, Nat.le_of_ble_eq_true rfl⟩ hK hE hP hD hS hA [true, true, true, true, true, true, true, true, true, true, true] rfl rfl rfl 0 rfl rfl rfl hl.1 rfl (Nat.le_of_ble_eq_true rfl) dL_nameLength_4 ⟨Nat.le_of_ble_eq_true rfl, Nat.le_of_ble_eq_true rfl⟩ [.int u1.2, .int 0, .ref aO] rfl (fun h0 H locs hP hD hS => ?_) (fun h0 H locs ce q9 hP hD hS hce hcv hcl => ?_)
  rotate_left
  · have hf := ie (Nat.pos_iff_ne_zero.mp h0) hf
    by_cases ho : u1.1 = 4
    · have hf := it ho hf
      rw [ho] at hcl
      refine vx_catch (E := XK 4) hown [] ⟨0, 9, 12, 33⟩ [] htb (fun z hz => absurd hz List.not_mem_nil) rfl (by decide) (hg _ cl_L_33) (va_Nw.use rfl (hE.2.2.2.2.2.2.1 "java/lang/IndexOutOfBoundsException" (by decide))) hce hcv hcl ?_
      refine lv_astore_n (lv' := [(3, .ref q9), (0, .ref aX), (1, .int x1), (2, .ref aO)]) hx hb dL_nameLength_12 rfl hl (by decide) rfl (fun ls hl => ?_)
      refine lv_iconst (v := 1) hx hb dL_nameLength_13 (by decide) ?_
      obtain rfl := Option.some.inj hf
      exact lm_iret (v := 1) hx hb hr hlocks hP hS dL_nameLength_14 (Nat.le_of_ble_eq_true rfl) (Nat.le_of_ble_eq_true rfl)
    · have hf := ie ho hf
      cases hf
  have hf := it h0 hf
  refine lv_i2l (v := (Int32.toInt64 u1.2)) hx hb dL_nameLength_7 rfl ?_
  obtain ⟨hi, hf⟩ := ck_o hf
  refine al_st (w2 := (W_X aX aB aBw aP aN aNd aH aQ vX ++ (W_N aN aG aU aR vN ++ (W_G E aG vG ++ (W_J E aO 1 (vp_updL vO (Int32.toNatClampNeg 0) (Int32.toInt64 u1.2))))))) hx hb hK hP hD hS 11 rfl hi rfl dL_nameLength_8 (fun H locs hP hD hS => ?_)
  obtain ⟨vO_3, hv, hf⟩ := lt_o hf
  rw [← hv] at hP hD
  clear hv
  refine lv_goto (tgt := 15) hx hb dL_nameLength_9 (by decide) ?_
  refine lv_iconst (v := 0) hx hb dL_nameLength_15 (by decide) ?_
  obtain rfl := Option.some.inj hf
  exact lm_iret (v := 0) hx hb hr hlocks hP hS dL_nameLength_16 (Nat.le_of_ble_eq_true rfl) (Nat.le_of_ble_eq_true rfl)
def F_L_nameByte (vX : Nat → Int32) (vN : Nat → Int32) (vG : Nat → Nat → Int32) (vO : Nat → Int64) (x1 : Int32) (x2 : Int32) : Option (Int32 × (Nat → Int64)) := (F_X8_nameByte vX vN vG x1 x2).bind (fun u1 => if u1.1 = 0 then (ck 0 1 (lt (vp_updL vO (Int32.toNatClampNeg 0) (Int32.toInt64 u1.2)) (fun vO_3 => (some (0, vO_3))))) else (if u1.1 = 4 then ((some (1, vO))) else (none)))
abbrev rm_L_nameByte : Room := { frames := 8, cells := 2, slots := 12, locals := 133 }
set_option maxHeartbeats 4000000 in
set_option maxRecDepth 100000 in
theorem c_L_nameByte (E : Ev) (l : Launch) (hst : l.stackTraces = false) (aX : Nat) (aB : Nat → Nat) (aBw : Nat → Nat) (aP : Nat) (aN : Nat) (aNd : Nat) (aH : Nat) (aQ : Nat) (aG : Nat → Nat) (aU : Nat → Nat) (aR : Nat → Nat) (aO : Nat) (vX : Nat → Int32) (vN : Nat → Int32) (vG : Nat → Nat → Int32) (vO : Nat → Int64) (x1 : Int32) (x2 : Int32) (r : Int32 × (Nat → Int64)) (hf : F_L_nameByte vX vN vG vO x1 x2 = some r) : LM E l yL_nameByte (.codeWith yL_nameByte cL_nameByte 5 (some .int) [(0, 10, 13, 33)] :: GA) rm_L_nameByte [.ref aX, .int x1, .int x2, .ref aO] (W_X aX aB aBw aP aN aNd aH aQ vX ++ (W_N aN aG aU aR vN ++ (W_G E aG vG ++ (W_J E aO 1 vO)))) (some (.int r.1)) (W_X aX aB aBw aP aN aNd aH aQ vX ++ (W_N aN aG aU aR vN ++ (W_G E aG vG ++ (W_J E aO 1 r.2)))) 2 := by
  refine LM.of (own := RL) rfl (by decide) (Nat.le_of_ble_eq_true rfl) ?_
  intro p e s m below meth c A ls hx hb hr hml hown hg hlocks hK hE hN hA htb hP hD hS hl
  have hl : lv_has ls 5 [(0, .ref aX), (1, .int x1), (2, .int x2), (3, .ref aO)] := hl
  unfold F_L_nameByte at hf
  refine lv_aload_n hx hb dL_nameByte_0 rfl (lv_at hl 3 rfl) ?_
  refine lv_iconst (v := 0) hx hb dL_nameByte_1 (by decide) ?_
  refine lv_aload_n hx hb dL_nameByte_2 rfl (lv_at hl 0 rfl) ?_
  refine lv_iload_n hx hb dL_nameByte_3 rfl (lv_at hl 1 rfl) ?_
  refine lv_iload_n hx hb dL_nameByte_4 rfl (lv_at hl 2 rfl) ?_
  obtain ⟨u1, hu1, hf⟩ := bn hf
  refine xm_V (As := [.int x1, .int x2]) (rest := [.int 0, .ref aO]) (w2 := (W_X aX aB aBw aP aN aNd aH aQ vX ++ (W_N aN aG aU aR vN ++ (W_G E aG vG ++ (W_J E aO 1 vO))))) hx hb hml hown hg (c_X8_nameByte E l hst aX aB aBw aP aN aNd aH aQ aG aU aR vX vN vG x1 x2 u1 hu1) cy_X8_nameByte ml_L_35 ⟨⟨rfl, rfl⟩, Nat.le_of_ble_eq_true rfl, Nat.le_of_ble_eq_true rfl⟩ hK hE hP hD hS hA [true, true, true, true, true, true, true, true, true, true, true] rfl rfl rfl 0 rfl rfl rfl hl.1 rfl (Nat.le_of_ble_eq_true rfl) dL_nameByte_5 ⟨Nat.le_of_ble_eq_true rfl, Nat.le_of_ble_eq_true rfl⟩ [.int u1.2, .int 0, .ref aO] rfl (fun h0 H locs hP hD hS => ?_) (fun h0 H locs ce q9 hP hD hS hce hcv hcl => ?_)
  rotate_left
  · have hf := ie (Nat.pos_iff_ne_zero.mp h0) hf
    by_cases ho : u1.1 = 4
    · have hf := it ho hf
      rw [ho] at hcl
      refine vx_catch (E := XK 4) hown [] ⟨0, 10, 13, 33⟩ [] htb (fun z hz => absurd hz List.not_mem_nil) rfl (by decide) (hg _ cl_L_33) (va_Nw.use rfl (hE.2.2.2.2.2.2.1 "java/lang/IndexOutOfBoundsException" (by decide))) hce hcv hcl ?_
      refine lv_astore (lv' := [(4, .ref q9), (0, .ref aX), (1, .int x1), (2, .int x2), (3, .ref aO)]) hx hb dL_nameByte_13 hl (by decide) rfl (fun ls hl => ?_)
      refine lv_iconst (v := 1) hx hb dL_nameByte_15 (by decide) ?_
      obtain rfl := Option.some.inj hf
      exact lm_iret (v := 1) hx hb hr hlocks hP hS dL_nameByte_16 (Nat.le_of_ble_eq_true rfl) (Nat.le_of_ble_eq_true rfl)
    · have hf := ie ho hf
      cases hf
  have hf := it h0 hf
  refine lv_i2l (v := (Int32.toInt64 u1.2)) hx hb dL_nameByte_8 rfl ?_
  obtain ⟨hi, hf⟩ := ck_o hf
  refine al_st (w2 := (W_X aX aB aBw aP aN aNd aH aQ vX ++ (W_N aN aG aU aR vN ++ (W_G E aG vG ++ (W_J E aO 1 (vp_updL vO (Int32.toNatClampNeg 0) (Int32.toInt64 u1.2))))))) hx hb hK hP hD hS 11 rfl hi rfl dL_nameByte_9 (fun H locs hP hD hS => ?_)
  obtain ⟨vO_3, hv, hf⟩ := lt_o hf
  rw [← hv] at hP hD
  clear hv
  refine lv_goto (tgt := 17) hx hb dL_nameByte_10 (by decide) ?_
  refine lv_iconst (v := 0) hx hb dL_nameByte_17 (by decide) ?_
  obtain rfl := Option.some.inj hf
  exact lm_iret (v := 0) hx hb hr hlocks hP hS dL_nameByte_18 (Nat.le_of_ble_eq_true rfl) (Nat.le_of_ble_eq_true rfl)
def F_L_guestOfInput (vX : Nat → Int32) (vN : Nat → Int32) (vG : Nat → Nat → Int32) (vB : Nat → Nat → Int32) (vO : Nat → Int64) : Option (Int32 × (Nat → Int64)) := (F_X8_guestOfInput vX vN vG vB).bind (fun u1 => if u1.1 = 0 then (ck 0 1 (lt (vp_updL vO (Int32.toNatClampNeg 0) (Int32.toInt64 u1.2)) (fun vO_3 => (some (0, vO_3))))) else (if u1.1 = 3 then ((some (1, vO))) else (none)))
abbrev rm_L_guestOfInput : Room := { frames := 7, cells := 1, slots := 6, locals := 111 }
set_option maxHeartbeats 4000000 in
set_option maxRecDepth 100000 in
theorem c_L_guestOfInput (E : Ev) (l : Launch) (hst : l.stackTraces = false) (aX : Nat) (aB : Nat → Nat) (aBw : Nat → Nat) (aP : Nat) (aN : Nat) (aNd : Nat) (aH : Nat) (aQ : Nat) (aG : Nat → Nat) (aU : Nat → Nat) (aR : Nat → Nat) (aO : Nat) (vX : Nat → Int32) (vN : Nat → Int32) (vG : Nat → Nat → Int32) (vB : Nat → Nat → Int32) (vO : Nat → Int64) (r : Int32 × (Nat → Int64)) (hf : F_L_guestOfInput vX vN vG vB vO = some r) : LM E l yL_guestOfInput (.codeWith yL_guestOfInput cL_guestOfInput 3 (some .int) [(0, 8, 11, 28)] :: GA) rm_L_guestOfInput [.ref aX, .ref aO] (W_X aX aB aBw aP aN aNd aH aQ vX ++ (W_N aN aG aU aR vN ++ (W_G E aG vG ++ (W_B E aB vB ++ (W_J E aO 1 vO))))) (some (.int r.1)) (W_X aX aB aBw aP aN aNd aH aQ vX ++ (W_N aN aG aU aR vN ++ (W_G E aG vG ++ (W_B E aB vB ++ (W_J E aO 1 r.2))))) 1 := by
  refine LM.of (own := RL) rfl (by decide) (Nat.le_of_ble_eq_true rfl) ?_
  intro p e s m below meth c A ls hx hb hr hml hown hg hlocks hK hE hN hA htb hP hD hS hl
  have hl : lv_has ls 3 [(0, .ref aX), (1, .ref aO)] := hl
  unfold F_L_guestOfInput at hf
  refine lv_aload_n hx hb dL_guestOfInput_0 rfl (lv_at hl 1 rfl) ?_
  refine lv_iconst (v := 0) hx hb dL_guestOfInput_1 (by decide) ?_
  refine lv_aload_n hx hb dL_guestOfInput_2 rfl (lv_at hl 0 rfl) ?_
  obtain ⟨u1, hu1, hf⟩ := bn hf
  refine xm_V (As := []) (rest := [.int 0, .ref aO]) (w2 := (W_X aX aB aBw aP aN aNd aH aQ vX ++ (W_N aN aG aU aR vN ++ (W_G E aG vG ++ (W_B E aB vB ++ (W_J E aO 1 vO)))))) hx hb hml hown hg (c_X8_guestOfInput E l hst aX aB aBw aP aN aNd aH aQ aG aU aR vX vN vG vB u1 hu1) cy_X8_guestOfInput ml_L_39 ⟨⟨rfl, rfl⟩, Nat.le_of_ble_eq_true rfl, Nat.le_of_ble_eq_true rfl⟩ hK hE hP hD hS hA [true, true, true, true, true, true, true, true, true, true, true, true, true] rfl rfl rfl 0 rfl rfl rfl hl.1 rfl (Nat.le_of_ble_eq_true rfl) dL_guestOfInput_3 ⟨Nat.le_of_ble_eq_true rfl, Nat.le_of_ble_eq_true rfl⟩ [.int u1.2, .int 0, .ref aO] rfl (fun h0 H locs hP hD hS => ?_) (fun h0 H locs ce q9 hP hD hS hce hcv hcl => ?_)
  rotate_left
  · have hf := ie (Nat.pos_iff_ne_zero.mp h0) hf
    by_cases ho : u1.1 = 3
    · have hf := it ho hf
      rw [ho] at hcl
      refine vx_catch (E := XK 3) hown [] ⟨0, 8, 11, 28⟩ [] htb (fun z hz => absurd hz List.not_mem_nil) rfl (by decide) (hg _ cl_L_28) (va_Nw.use rfl (hE.2.2.2.2.2.2.1 "java/util/NoSuchElementException" (by decide))) hce hcv hcl ?_
      refine lv_astore_n (lv' := [(2, .ref q9), (0, .ref aX), (1, .ref aO)]) hx hb dL_guestOfInput_11 rfl hl (by decide) rfl (fun ls hl => ?_)
      refine lv_iconst (v := 1) hx hb dL_guestOfInput_12 (by decide) ?_
      obtain rfl := Option.some.inj hf
      exact lm_iret (v := 1) hx hb hr hlocks hP hS dL_guestOfInput_13 (Nat.le_of_ble_eq_true rfl) (Nat.le_of_ble_eq_true rfl)
    · have hf := ie ho hf
      cases hf
  have hf := it h0 hf
  refine lv_i2l (v := (Int32.toInt64 u1.2)) hx hb dL_guestOfInput_6 rfl ?_
  obtain ⟨hi, hf⟩ := ck_o hf
  refine al_st (w2 := (W_X aX aB aBw aP aN aNd aH aQ vX ++ (W_N aN aG aU aR vN ++ (W_G E aG vG ++ (W_B E aB vB ++ (W_J E aO 1 (vp_updL vO (Int32.toNatClampNeg 0) (Int32.toInt64 u1.2)))))))) hx hb hK hP hD hS 13 rfl hi rfl dL_guestOfInput_7 (fun H locs hP hD hS => ?_)
  obtain ⟨vO_3, hv, hf⟩ := lt_o hf
  rw [← hv] at hP hD
  clear hv
  refine lv_goto (tgt := 14) hx hb dL_guestOfInput_8 (by decide) ?_
  refine lv_iconst (v := 0) hx hb dL_guestOfInput_14 (by decide) ?_
  obtain rfl := Option.some.inj hf
  exact lm_iret (v := 0) hx hb hr hlocks hP hS dL_guestOfInput_15 (Nat.le_of_ble_eq_true rfl) (Nat.le_of_ble_eq_true rfl)
def F_L_generosity (vX : Nat → Int32) (vN : Nat → Int32) (vG : Nat → Nat → Int32) (vO : Nat → Int64) (x1 : Int32) : Option (Int32 × (Nat → Int64)) := (F_X8_generosity vX vN vG x1).bind (fun u1 => if u1.1 = 0 then (ck 0 1 (lt (vp_updL vO (Int32.toNatClampNeg 0) (Int32.toInt64 u1.2)) (fun vO_3 => (some (0, vO_3))))) else (if u1.1 = 4 then ((some (1, vO))) else (none)))
abbrev rm_L_generosity : Room := { frames := 8, cells := 1, slots := 6, locals := 132 }
set_option maxHeartbeats 4000000 in
set_option maxRecDepth 100000 in
theorem c_L_generosity (E : Ev) (l : Launch) (hst : l.stackTraces = false) (aX : Nat) (aB : Nat → Nat) (aBw : Nat → Nat) (aP : Nat) (aN : Nat) (aNd : Nat) (aH : Nat) (aQ : Nat) (aG : Nat → Nat) (aU : Nat → Nat) (aR : Nat → Nat) (aO : Nat) (vX : Nat → Int32) (vN : Nat → Int32) (vG : Nat → Nat → Int32) (vO : Nat → Int64) (x1 : Int32) (r : Int32 × (Nat → Int64)) (hf : F_L_generosity vX vN vG vO x1 = some r) : LM E l yL_generosity (.codeWith yL_generosity cL_generosity 4 (some .int) [(0, 9, 12, 33)] :: GA) rm_L_generosity [.ref aX, .int x1, .ref aO] (W_X aX aB aBw aP aN aNd aH aQ vX ++ (W_N aN aG aU aR vN ++ (W_G E aG vG ++ (W_J E aO 1 vO)))) (some (.int r.1)) (W_X aX aB aBw aP aN aNd aH aQ vX ++ (W_N aN aG aU aR vN ++ (W_G E aG vG ++ (W_J E aO 1 r.2)))) 1 := by
  refine LM.of (own := RL) rfl (by decide) (Nat.le_of_ble_eq_true rfl) ?_
  intro p e s m below meth c A ls hx hb hr hml hown hg hlocks hK hE hN hA htb hP hD hS hl
  have hl : lv_has ls 4 [(0, .ref aX), (1, .int x1), (2, .ref aO)] := hl
  unfold F_L_generosity at hf
  refine lv_aload_n hx hb dL_generosity_0 rfl (lv_at hl 2 rfl) ?_
  refine lv_iconst (v := 0) hx hb dL_generosity_1 (by decide) ?_
  refine lv_aload_n hx hb dL_generosity_2 rfl (lv_at hl 0 rfl) ?_
  refine lv_iload_n hx hb dL_generosity_3 rfl (lv_at hl 1 rfl) ?_
  obtain ⟨u1, hu1, hf⟩ := bn hf
  refine xm_V (As := [.int x1]) (rest := [.int 0, .ref aO]) (w2 := (W_X aX aB aBw aP aN aNd aH aQ vX ++ (W_N aN aG aU aR vN ++ (W_G E aG vG ++ (W_J E aO 1 vO))))) hx hb hml hown hg (c_X8_generosity E l hst aX aB aBw aP aN aNd aH aQ aG aU aR vX vN vG x1 u1 hu1) cy_X8_generosity ml_L_42 ⟨⟨rfl, rfl⟩, Nat.le_of_ble_eq_true rfl, Nat.le_of_ble_eq_true rfl⟩ hK hE hP hD hS hA [true, true, true, true, true, true, true, true, true, true, true] rfl rfl rfl 0 rfl rfl rfl hl.1 rfl (Nat.le_of_ble_eq_true rfl) dL_generosity_4 ⟨Nat.le_of_ble_eq_true rfl, Nat.le_of_ble_eq_true rfl⟩ [.int u1.2, .int 0, .ref aO] rfl (fun h0 H locs hP hD hS => ?_) (fun h0 H locs ce q9 hP hD hS hce hcv hcl => ?_)
  rotate_left
  · have hf := ie (Nat.pos_iff_ne_zero.mp h0) hf
    by_cases ho : u1.1 = 4
    · have hf := it ho hf
      rw [ho] at hcl
      refine vx_catch (E := XK 4) hown [] ⟨0, 9, 12, 33⟩ [] htb (fun z hz => absurd hz List.not_mem_nil) rfl (by decide) (hg _ cl_L_33) (va_Nw.use rfl (hE.2.2.2.2.2.2.1 "java/lang/IndexOutOfBoundsException" (by decide))) hce hcv hcl ?_
      refine lv_astore_n (lv' := [(3, .ref q9), (0, .ref aX), (1, .int x1), (2, .ref aO)]) hx hb dL_generosity_12 rfl hl (by decide) rfl (fun ls hl => ?_)
      refine lv_iconst (v := 1) hx hb dL_generosity_13 (by decide) ?_
      obtain rfl := Option.some.inj hf
      exact lm_iret (v := 1) hx hb hr hlocks hP hS dL_generosity_14 (Nat.le_of_ble_eq_true rfl) (Nat.le_of_ble_eq_true rfl)
    · have hf := ie ho hf
      cases hf
  have hf := it h0 hf
  refine lv_i2l (v := (Int32.toInt64 u1.2)) hx hb dL_generosity_7 rfl ?_
  obtain ⟨hi, hf⟩ := ck_o hf
  refine al_st (w2 := (W_X aX aB aBw aP aN aNd aH aQ vX ++ (W_N aN aG aU aR vN ++ (W_G E aG vG ++ (W_J E aO 1 (vp_updL vO (Int32.toNatClampNeg 0) (Int32.toInt64 u1.2))))))) hx hb hK hP hD hS 11 rfl hi rfl dL_generosity_8 (fun H locs hP hD hS => ?_)
  obtain ⟨vO_3, hv, hf⟩ := lt_o hf
  rw [← hv] at hP hD
  clear hv
  refine lv_goto (tgt := 15) hx hb dL_generosity_9 (by decide) ?_
  refine lv_iconst (v := 0) hx hb dL_generosity_15 (by decide) ?_
  obtain rfl := Option.some.inj hf
  exact lm_iret (v := 0) hx hb hr hlocks hP hS dL_generosity_16 (Nat.le_of_ble_eq_true rfl) (Nat.le_of_ble_eq_true rfl)
def F_L_bark (vX : Nat → Int32) (vN : Nat → Int32) (vG : Nat → Nat → Int32) (vO : Nat → Int64) (x1 : Int32) : Option (Int32 × (Nat → Int64)) := (F_X8_bark vX vN vG x1).bind (fun u1 => if u1.1 = 0 then (ck 0 1 (lt (vp_updL vO (Int32.toNatClampNeg 0) (Int32.toInt64 u1.2)) (fun vO_3 => (some (0, vO_3))))) else (if u1.1 = 4 then ((some (1, vO))) else (none)))
abbrev rm_L_bark : Room := { frames := 8, cells := 1, slots := 6, locals := 132 }
set_option maxHeartbeats 4000000 in
set_option maxRecDepth 100000 in
theorem c_L_bark (E : Ev) (l : Launch) (hst : l.stackTraces = false) (aX : Nat) (aB : Nat → Nat) (aBw : Nat → Nat) (aP : Nat) (aN : Nat) (aNd : Nat) (aH : Nat) (aQ : Nat) (aG : Nat → Nat) (aU : Nat → Nat) (aR : Nat → Nat) (aO : Nat) (vX : Nat → Int32) (vN : Nat → Int32) (vG : Nat → Nat → Int32) (vO : Nat → Int64) (x1 : Int32) (r : Int32 × (Nat → Int64)) (hf : F_L_bark vX vN vG vO x1 = some r) : LM E l yL_bark (.codeWith yL_bark cL_bark 4 (some .int) [(0, 9, 12, 33)] :: GA) rm_L_bark [.ref aX, .int x1, .ref aO] (W_X aX aB aBw aP aN aNd aH aQ vX ++ (W_N aN aG aU aR vN ++ (W_G E aG vG ++ (W_J E aO 1 vO)))) (some (.int r.1)) (W_X aX aB aBw aP aN aNd aH aQ vX ++ (W_N aN aG aU aR vN ++ (W_G E aG vG ++ (W_J E aO 1 r.2)))) 1 := by
  refine LM.of (own := RL) rfl (by decide) (Nat.le_of_ble_eq_true rfl) ?_
  intro p e s m below meth c A ls hx hb hr hml hown hg hlocks hK hE hN hA htb hP hD hS hl
  have hl : lv_has ls 4 [(0, .ref aX), (1, .int x1), (2, .ref aO)] := hl
  unfold F_L_bark at hf
  refine lv_aload_n hx hb dL_bark_0 rfl (lv_at hl 2 rfl) ?_
  refine lv_iconst (v := 0) hx hb dL_bark_1 (by decide) ?_
  refine lv_aload_n hx hb dL_bark_2 rfl (lv_at hl 0 rfl) ?_
  refine lv_iload_n hx hb dL_bark_3 rfl (lv_at hl 1 rfl) ?_
  obtain ⟨u1, hu1, hf⟩ := bn hf
  refine xm_V (As := [.int x1]) (rest := [.int 0, .ref aO]) (w2 := (W_X aX aB aBw aP aN aNd aH aQ vX ++ (W_N aN aG aU aR vN ++ (W_G E aG vG ++ (W_J E aO 1 vO))))) hx hb hml hown hg (c_X8_bark E l hst aX aB aBw aP aN aNd aH aQ aG aU aR vX vN vG x1 u1 hu1) cy_X8_bark ml_L_45 ⟨⟨rfl, rfl⟩, Nat.le_of_ble_eq_true rfl, Nat.le_of_ble_eq_true rfl⟩ hK hE hP hD hS hA [true, true, true, true, true, true, true, true, true, true, true] rfl rfl rfl 0 rfl rfl rfl hl.1 rfl (Nat.le_of_ble_eq_true rfl) dL_bark_4 ⟨Nat.le_of_ble_eq_true rfl, Nat.le_of_ble_eq_true rfl⟩ [.int u1.2, .int 0, .ref aO] rfl (fun h0 H locs hP hD hS => ?_) (fun h0 H locs ce q9 hP hD hS hce hcv hcl => ?_)
  rotate_left
  · have hf := ie (Nat.pos_iff_ne_zero.mp h0) hf
    by_cases ho : u1.1 = 4
    · have hf := it ho hf
      rw [ho] at hcl
      refine vx_catch (E := XK 4) hown [] ⟨0, 9, 12, 33⟩ [] htb (fun z hz => absurd hz List.not_mem_nil) rfl (by decide) (hg _ cl_L_33) (va_Nw.use rfl (hE.2.2.2.2.2.2.1 "java/lang/IndexOutOfBoundsException" (by decide))) hce hcv hcl ?_
      refine lv_astore_n (lv' := [(3, .ref q9), (0, .ref aX), (1, .int x1), (2, .ref aO)]) hx hb dL_bark_12 rfl hl (by decide) rfl (fun ls hl => ?_)
      refine lv_iconst (v := 1) hx hb dL_bark_13 (by decide) ?_
      obtain rfl := Option.some.inj hf
      exact lm_iret (v := 1) hx hb hr hlocks hP hS dL_bark_14 (Nat.le_of_ble_eq_true rfl) (Nat.le_of_ble_eq_true rfl)
    · have hf := ie ho hf
      cases hf
  have hf := it h0 hf
  refine lv_i2l (v := (Int32.toInt64 u1.2)) hx hb dL_bark_7 rfl ?_
  obtain ⟨hi, hf⟩ := ck_o hf
  refine al_st (w2 := (W_X aX aB aBw aP aN aNd aH aQ vX ++ (W_N aN aG aU aR vN ++ (W_G E aG vG ++ (W_J E aO 1 (vp_updL vO (Int32.toNatClampNeg 0) (Int32.toInt64 u1.2))))))) hx hb hK hP hD hS 11 rfl hi rfl dL_bark_8 (fun H locs hP hD hS => ?_)
  obtain ⟨vO_3, hv, hf⟩ := lt_o hf
  rw [← hv] at hP hD
  clear hv
  refine lv_goto (tgt := 15) hx hb dL_bark_9 (by decide) ?_
  refine lv_iconst (v := 0) hx hb dL_bark_15 (by decide) ?_
  obtain rfl := Option.some.inj hf
  exact lm_iret (v := 0) hx hb hr hlocks hP hS dL_bark_16 (Nat.le_of_ble_eq_true rfl) (Nat.le_of_ble_eq_true rfl)
def F_L_isOut (vX : Nat → Int32) (vN : Nat → Int32) (vG : Nat → Nat → Int32) (vO : Nat → Int64) (x1 : Int32) : Option (Int32 × (Nat → Int64)) := (F_X8_isOut vX vN vG x1).bind (fun u1 => if u1.1 = 0 then ((if u1.2 = 0 then ck 0 1 (lt (vp_updL vO (Int32.toNatClampNeg 0) 0) (fun vO_5 => (some (0, vO_5)))) else ck 0 1 (lt (vp_updL vO (Int32.toNatClampNeg 0) 1) (fun vO_6 => (some (0, vO_6)))))) else (if u1.1 = 4 then ((some (1, vO))) else (none)))
abbrev rm_L_isOut : Room := { frames := 8, cells := 1, slots := 6, locals := 132 }
set_option maxHeartbeats 4000000 in
set_option maxRecDepth 100000 in
theorem c_L_isOut (E : Ev) (l : Launch) (hst : l.stackTraces = false) (aX : Nat) (aB : Nat → Nat) (aBw : Nat → Nat) (aP : Nat) (aN : Nat) (aNd : Nat) (aH : Nat) (aQ : Nat) (aG : Nat → Nat) (aU : Nat → Nat) (aR : Nat → Nat) (aO : Nat) (vX : Nat → Int32) (vN : Nat → Int32) (vG : Nat → Nat → Int32) (vO : Nat → Int64) (x1 : Int32) (r : Int32 × (Nat → Int64)) (hf : F_L_isOut vX vN vG vO x1 = some r) : LM E l yL_isOut (.codeWith yL_isOut cL_isOut 4 (some .int) [(0, 16, 19, 33)] :: GA) rm_L_isOut [.ref aX, .int x1, .ref aO] (W_X aX aB aBw aP aN aNd aH aQ vX ++ (W_N aN aG aU aR vN ++ (W_G E aG vG ++ (W_J E aO 1 vO)))) (some (.int r.1)) (W_X aX aB aBw aP aN aNd aH aQ vX ++ (W_N aN aG aU aR vN ++ (W_G E aG vG ++ (W_J E aO 1 r.2)))) 1 := by
  refine LM.of (own := RL) rfl (by decide) (Nat.le_of_ble_eq_true rfl) ?_
  intro p e s m below meth c A ls hx hb hr hml hown hg hlocks hK hE hN hA htb hP hD hS hl
  have hl : lv_has ls 4 [(0, .ref aX), (1, .int x1), (2, .ref aO)] := hl
  unfold F_L_isOut at hf
  refine lv_aload_n hx hb dL_isOut_0 rfl (lv_at hl 2 rfl) ?_
  refine lv_iconst (v := 0) hx hb dL_isOut_1 (by decide) ?_
  refine lv_aload_n hx hb dL_isOut_2 rfl (lv_at hl 0 rfl) ?_
  refine lv_iload_n hx hb dL_isOut_3 rfl (lv_at hl 1 rfl) ?_
  obtain ⟨u1, hu1, hf⟩ := bn hf
  refine xm_V (As := [.int x1]) (rest := [.int 0, .ref aO]) (w2 := (W_X aX aB aBw aP aN aNd aH aQ vX ++ (W_N aN aG aU aR vN ++ (W_G E aG vG ++ (W_J E aO 1 vO))))) hx hb hml hown hg (c_X8_isOut E l hst aX aB aBw aP aN aNd aH aQ aG aU aR vX vN vG x1 u1 hu1) cy_X8_isOut ml_L_48 ⟨⟨rfl, rfl⟩, Nat.le_of_ble_eq_true rfl, Nat.le_of_ble_eq_true rfl⟩ hK hE hP hD hS hA [true, true, true, true, true, true, true, true, true, true, true] rfl rfl rfl 0 rfl rfl rfl hl.1 rfl (Nat.le_of_ble_eq_true rfl) dL_isOut_4 ⟨Nat.le_of_ble_eq_true rfl, Nat.le_of_ble_eq_true rfl⟩ [.int u1.2, .int 0, .ref aO] rfl (fun h0 H locs hP hD hS => ?_) (fun h0 H locs ce q9 hP hD hS hce hcv hcl => ?_)
  rotate_left
  · have hf := ie (Nat.pos_iff_ne_zero.mp h0) hf
    by_cases ho : u1.1 = 4
    · have hf := it ho hf
      rw [ho] at hcl
      refine vx_catch (E := XK 4) hown [] ⟨0, 16, 19, 33⟩ [] htb (fun z hz => absurd hz List.not_mem_nil) rfl (by decide) (hg _ cl_L_33) (va_Nw.use rfl (hE.2.2.2.2.2.2.1 "java/lang/IndexOutOfBoundsException" (by decide))) hce hcv hcl ?_
      refine lv_astore_n (lv' := [(3, .ref q9), (0, .ref aX), (1, .int x1), (2, .ref aO)]) hx hb dL_isOut_19 rfl hl (by decide) rfl (fun ls hl => ?_)
      refine lv_iconst (v := 1) hx hb dL_isOut_20 (by decide) ?_
      obtain rfl := Option.some.inj hf
      exact lm_iret (v := 1) hx hb hr hlocks hP hS dL_isOut_21 (Nat.le_of_ble_eq_true rfl) (Nat.le_of_ble_eq_true rfl)
    · have hf := ie ho hf
      cases hf
  have hf := it h0 hf
  refine lv_if_eq (tgt := 14) hx hb dL_isOut_7 (by decide) (fun cq => ?_) (fun cq => ?_)
  · have hf := it cq hf
    refine lv_lconst (v := 0) hx hb dL_isOut_14 rfl ?_
    obtain ⟨hi, hf⟩ := ck_o hf
    refine al_st (w2 := (W_X aX aB aBw aP aN aNd aH aQ vX ++ (W_N aN aG aU aR vN ++ (W_G E aG vG ++ (W_J E aO 1 (vp_updL vO (Int32.toNatClampNeg 0) 0)))))) hx hb hK hP hD hS 11 rfl hi rfl dL_isOut_15 (fun H locs hP hD hS => ?_)
    obtain ⟨vO_5, hv, hf⟩ := lt_o hf
    rw [← hv] at hP hD
    clear hv
    refine lv_goto (tgt := 22) hx hb dL_isOut_16 (by decide) ?_
    refine lv_iconst (v := 0) hx hb dL_isOut_22 (by decide) ?_
    obtain rfl := Option.some.inj hf
    exact lm_iret (v := 0) hx hb hr hlocks hP hS dL_isOut_23 (Nat.le_of_ble_eq_true rfl) (Nat.le_of_ble_eq_true rfl)
  · have hf := ie cq hf
    refine lv_lconst (v := 1) hx hb dL_isOut_10 rfl ?_
    refine lv_goto (tgt := 15) hx hb dL_isOut_11 (by decide) ?_
    obtain ⟨hi, hf⟩ := ck_o hf
    refine al_st (w2 := (W_X aX aB aBw aP aN aNd aH aQ vX ++ (W_N aN aG aU aR vN ++ (W_G E aG vG ++ (W_J E aO 1 (vp_updL vO (Int32.toNatClampNeg 0) 1)))))) hx hb hK hP hD hS 11 rfl hi rfl dL_isOut_15 (fun H locs hP hD hS => ?_)
    obtain ⟨vO_6, hv, hf⟩ := lt_o hf
    rw [← hv] at hP hD
    clear hv
    refine lv_goto (tgt := 22) hx hb dL_isOut_16 (by decide) ?_
    refine lv_iconst (v := 0) hx hb dL_isOut_22 (by decide) ?_
    obtain rfl := Option.some.inj hf
    exact lm_iret (v := 0) hx hb hr hlocks hP hS dL_isOut_23 (Nat.le_of_ble_eq_true rfl) (Nat.le_of_ble_eq_true rfl)
def F_L_outSince (vX : Nat → Int32) (vN : Nat → Int32) (vG : Nat → Nat → Int32) (vO : Nat → Int64) (x1 : Int32) : Option (Int32 × (Nat → Int64)) := (F_X8_outSince vX vN vG x1).bind (fun u1 => if u1.1 = 0 then (ck 0 1 (lt (vp_updL vO (Int32.toNatClampNeg 0) (Int32.toInt64 u1.2)) (fun vO_3 => (some (0, vO_3))))) else (if u1.1 = 4 then ((some (1, vO))) else (if u1.1 = 3 then ((some (2, vO))) else (none))))
abbrev rm_L_outSince : Room := { frames := 8, cells := 2, slots := 12, locals := 132 }
set_option maxHeartbeats 4000000 in
set_option maxRecDepth 100000 in
theorem c_L_outSince (E : Ev) (l : Launch) (hst : l.stackTraces = false) (aX : Nat) (aB : Nat → Nat) (aBw : Nat → Nat) (aP : Nat) (aN : Nat) (aNd : Nat) (aH : Nat) (aQ : Nat) (aG : Nat → Nat) (aU : Nat → Nat) (aR : Nat → Nat) (aO : Nat) (vX : Nat → Int32) (vN : Nat → Int32) (vG : Nat → Nat → Int32) (vO : Nat → Int64) (x1 : Int32) (r : Int32 × (Nat → Int64)) (hf : F_L_outSince vX vN vG vO x1 = some r) : LM E l yL_outSince (.codeWith yL_outSince cL_outSince 4 (some .int) [(0, 9, 12, 33), (0, 9, 15, 28)] :: GA) rm_L_outSince [.ref aX, .int x1, .ref aO] (W_X aX aB aBw aP aN aNd aH aQ vX ++ (W_N aN aG aU aR vN ++ (W_G E aG vG ++ (W_J E aO 1 vO)))) (some (.int r.1)) (W_X aX aB aBw aP aN aNd aH aQ vX ++ (W_N aN aG aU aR vN ++ (W_G E aG vG ++ (W_J E aO 1 r.2)))) 2 := by
  refine LM.of (own := RL) rfl (by decide) (Nat.le_of_ble_eq_true rfl) ?_
  intro p e s m below meth c A ls hx hb hr hml hown hg hlocks hK hE hN hA htb hP hD hS hl
  have hl : lv_has ls 4 [(0, .ref aX), (1, .int x1), (2, .ref aO)] := hl
  unfold F_L_outSince at hf
  refine lv_aload_n hx hb dL_outSince_0 rfl (lv_at hl 2 rfl) ?_
  refine lv_iconst (v := 0) hx hb dL_outSince_1 (by decide) ?_
  refine lv_aload_n hx hb dL_outSince_2 rfl (lv_at hl 0 rfl) ?_
  refine lv_iload_n hx hb dL_outSince_3 rfl (lv_at hl 1 rfl) ?_
  obtain ⟨u1, hu1, hf⟩ := bn hf
  refine xm_V (As := [.int x1]) (rest := [.int 0, .ref aO]) (w2 := (W_X aX aB aBw aP aN aNd aH aQ vX ++ (W_N aN aG aU aR vN ++ (W_G E aG vG ++ (W_J E aO 1 vO))))) hx hb hml hown hg (c_X8_outSince E l hst aX aB aBw aP aN aNd aH aQ aG aU aR vX vN vG x1 u1 hu1) cy_X8_outSince ml_L_52 ⟨⟨rfl, rfl⟩, Nat.le_of_ble_eq_true rfl, Nat.le_of_ble_eq_true rfl⟩ hK hE hP hD hS hA [true, true, true, true, true, true, true, true, true, true, true] rfl rfl rfl 0 rfl rfl rfl hl.1 rfl (Nat.le_of_ble_eq_true rfl) dL_outSince_4 ⟨Nat.le_of_ble_eq_true rfl, Nat.le_of_ble_eq_true rfl⟩ [.int u1.2, .int 0, .ref aO] rfl (fun h0 H locs hP hD hS => ?_) (fun h0 H locs ce q9 hP hD hS hce hcv hcl => ?_)
  rotate_left
  · have hf := ie (Nat.pos_iff_ne_zero.mp h0) hf
    by_cases ho : u1.1 = 4
    · have hf := it ho hf
      rw [ho] at hcl
      refine vx_catch (E := XK 4) hown [] ⟨0, 9, 12, 33⟩ [⟨0, 9, 15, 28⟩] htb (fun z hz => absurd hz List.not_mem_nil) rfl (by decide) (hg _ cl_L_33) (va_Nw.use rfl (hE.2.2.2.2.2.2.1 "java/lang/IndexOutOfBoundsException" (by decide))) hce hcv hcl ?_
      refine lv_astore_n (lv' := [(3, .ref q9), (0, .ref aX), (1, .int x1), (2, .ref aO)]) hx hb dL_outSince_12 rfl hl (by decide) rfl (fun ls hl => ?_)
      refine lv_iconst (v := 1) hx hb dL_outSince_13 (by decide) ?_
      obtain rfl := Option.some.inj hf
      exact lm_iret (v := 1) hx hb hr hlocks hP hS dL_outSince_14 (Nat.le_of_ble_eq_true rfl) (Nat.le_of_ble_eq_true rfl)
    · have hf := ie ho hf
      by_cases ho : u1.1 = 3
      · have hf := it ho hf
        rw [ho] at hcl
        refine vx_catch (E := XK 3) hown [⟨0, 9, 12, 33⟩] ⟨0, 9, 15, 28⟩ [] htb (fun z hz => by
      simp only [List.mem_cons, List.not_mem_nil, or_false] at hz
      rcases hz with rfl
      · exact Or.inr ⟨(by decide), _, hg _ cl_L_33, hN ("java/util/NoSuchElementException", "java/lang/IndexOutOfBoundsException") (by decide)⟩) rfl (by decide) (hg _ cl_L_28) (va_Nw.use rfl (hE.2.2.2.2.2.2.1 "java/util/NoSuchElementException" (by decide))) hce hcv hcl ?_
        refine lv_astore_n (lv' := [(3, .ref q9), (0, .ref aX), (1, .int x1), (2, .ref aO)]) hx hb dL_outSince_15 rfl hl (by decide) rfl (fun ls hl => ?_)
        refine lv_iconst (v := 2) hx hb dL_outSince_16 (by decide) ?_
        obtain rfl := Option.some.inj hf
        exact lm_iret (v := 2) hx hb hr hlocks hP hS dL_outSince_17 (Nat.le_of_ble_eq_true rfl) (Nat.le_of_ble_eq_true rfl)
      · have hf := ie ho hf
        cases hf
  have hf := it h0 hf
  refine lv_i2l (v := (Int32.toInt64 u1.2)) hx hb dL_outSince_7 rfl ?_
  obtain ⟨hi, hf⟩ := ck_o hf
  refine al_st (w2 := (W_X aX aB aBw aP aN aNd aH aQ vX ++ (W_N aN aG aU aR vN ++ (W_G E aG vG ++ (W_J E aO 1 (vp_updL vO (Int32.toNatClampNeg 0) (Int32.toInt64 u1.2))))))) hx hb hK hP hD hS 11 rfl hi rfl dL_outSince_8 (fun H locs hP hD hS => ?_)
  obtain ⟨vO_3, hv, hf⟩ := lt_o hf
  rw [← hv] at hP hD
  clear hv
  refine lv_goto (tgt := 18) hx hb dL_outSince_9 (by decide) ?_
  refine lv_iconst (v := 0) hx hb dL_outSince_18 (by decide) ?_
  obtain rfl := Option.some.inj hf
  exact lm_iret (v := 0) hx hb hr hlocks hP hS dL_outSince_19 (Nat.le_of_ble_eq_true rfl) (Nat.le_of_ble_eq_true rfl)
def F_L_soak (vX : Nat → Int32) (vN : Nat → Int32) (vG : Nat → Nat → Int32) (vO : Nat → Int64) (x1 : Int32) : Option (Int32 × (Nat → Int64)) := (F_X8_soak vX vN vG x1).bind (fun u1 => if u1.1 = 0 then (ck 0 1 (lt (vp_updL vO (Int32.toNatClampNeg 0) (Int32.toInt64 u1.2)) (fun vO_3 => (some (0, vO_3))))) else (if u1.1 = 4 then ((some (1, vO))) else (none)))
abbrev rm_L_soak : Room := { frames := 8, cells := 1, slots := 6, locals := 132 }
set_option maxHeartbeats 4000000 in
set_option maxRecDepth 100000 in
theorem c_L_soak (E : Ev) (l : Launch) (hst : l.stackTraces = false) (aX : Nat) (aB : Nat → Nat) (aBw : Nat → Nat) (aP : Nat) (aN : Nat) (aNd : Nat) (aH : Nat) (aQ : Nat) (aG : Nat → Nat) (aU : Nat → Nat) (aR : Nat → Nat) (aO : Nat) (vX : Nat → Int32) (vN : Nat → Int32) (vG : Nat → Nat → Int32) (vO : Nat → Int64) (x1 : Int32) (r : Int32 × (Nat → Int64)) (hf : F_L_soak vX vN vG vO x1 = some r) : LM E l yL_soak (.codeWith yL_soak cL_soak 4 (some .int) [(0, 9, 12, 33)] :: GA) rm_L_soak [.ref aX, .int x1, .ref aO] (W_X aX aB aBw aP aN aNd aH aQ vX ++ (W_N aN aG aU aR vN ++ (W_G E aG vG ++ (W_J E aO 1 vO)))) (some (.int r.1)) (W_X aX aB aBw aP aN aNd aH aQ vX ++ (W_N aN aG aU aR vN ++ (W_G E aG vG ++ (W_J E aO 1 r.2)))) 1 := by
  refine LM.of (own := RL) rfl (by decide) (Nat.le_of_ble_eq_true rfl) ?_
  intro p e s m below meth c A ls hx hb hr hml hown hg hlocks hK hE hN hA htb hP hD hS hl
  have hl : lv_has ls 4 [(0, .ref aX), (1, .int x1), (2, .ref aO)] := hl
  unfold F_L_soak at hf
  refine lv_aload_n hx hb dL_soak_0 rfl (lv_at hl 2 rfl) ?_
  refine lv_iconst (v := 0) hx hb dL_soak_1 (by decide) ?_
  refine lv_aload_n hx hb dL_soak_2 rfl (lv_at hl 0 rfl) ?_
  refine lv_iload_n hx hb dL_soak_3 rfl (lv_at hl 1 rfl) ?_
  obtain ⟨u1, hu1, hf⟩ := bn hf
  refine xm_V (As := [.int x1]) (rest := [.int 0, .ref aO]) (w2 := (W_X aX aB aBw aP aN aNd aH aQ vX ++ (W_N aN aG aU aR vN ++ (W_G E aG vG ++ (W_J E aO 1 vO))))) hx hb hml hown hg (c_X8_soak E l hst aX aB aBw aP aN aNd aH aQ aG aU aR vX vN vG x1 u1 hu1) cy_X8_soak ml_L_55 ⟨⟨rfl, rfl⟩, Nat.le_of_ble_eq_true rfl, Nat.le_of_ble_eq_true rfl⟩ hK hE hP hD hS hA [true, true, true, true, true, true, true, true, true, true, true] rfl rfl rfl 0 rfl rfl rfl hl.1 rfl (Nat.le_of_ble_eq_true rfl) dL_soak_4 ⟨Nat.le_of_ble_eq_true rfl, Nat.le_of_ble_eq_true rfl⟩ [.int u1.2, .int 0, .ref aO] rfl (fun h0 H locs hP hD hS => ?_) (fun h0 H locs ce q9 hP hD hS hce hcv hcl => ?_)
  rotate_left
  · have hf := ie (Nat.pos_iff_ne_zero.mp h0) hf
    by_cases ho : u1.1 = 4
    · have hf := it ho hf
      rw [ho] at hcl
      refine vx_catch (E := XK 4) hown [] ⟨0, 9, 12, 33⟩ [] htb (fun z hz => absurd hz List.not_mem_nil) rfl (by decide) (hg _ cl_L_33) (va_Nw.use rfl (hE.2.2.2.2.2.2.1 "java/lang/IndexOutOfBoundsException" (by decide))) hce hcv hcl ?_
      refine lv_astore_n (lv' := [(3, .ref q9), (0, .ref aX), (1, .int x1), (2, .ref aO)]) hx hb dL_soak_12 rfl hl (by decide) rfl (fun ls hl => ?_)
      refine lv_iconst (v := 1) hx hb dL_soak_13 (by decide) ?_
      obtain rfl := Option.some.inj hf
      exact lm_iret (v := 1) hx hb hr hlocks hP hS dL_soak_14 (Nat.le_of_ble_eq_true rfl) (Nat.le_of_ble_eq_true rfl)
    · have hf := ie ho hf
      cases hf
  have hf := it h0 hf
  refine lv_i2l (v := (Int32.toInt64 u1.2)) hx hb dL_soak_7 rfl ?_
  obtain ⟨hi, hf⟩ := ck_o hf
  refine al_st (w2 := (W_X aX aB aBw aP aN aNd aH aQ vX ++ (W_N aN aG aU aR vN ++ (W_G E aG vG ++ (W_J E aO 1 (vp_updL vO (Int32.toNatClampNeg 0) (Int32.toInt64 u1.2))))))) hx hb hK hP hD hS 11 rfl hi rfl dL_soak_8 (fun H locs hP hD hS => ?_)
  obtain ⟨vO_3, hv, hf⟩ := lt_o hf
  rw [← hv] at hP hD
  clear hv
  refine lv_goto (tgt := 15) hx hb dL_soak_9 (by decide) ?_
  refine lv_iconst (v := 0) hx hb dL_soak_15 (by decide) ?_
  obtain rfl := Option.some.inj hf
  exact lm_iret (v := 0) hx hb hr hlocks hP hS dL_soak_16 (Nat.le_of_ble_eq_true rfl) (Nat.le_of_ble_eq_true rfl)
def F_L_wouldBark (vX : Nat → Int32) (vN : Nat → Int32) (vG : Nat → Nat → Int32) (vO : Nat → Int64) (x1 : Int32) : Option (Int32 × (Nat → Int64)) := (F_X8_wouldBark vX vN vG x1).bind (fun u1 => if u1.1 = 0 then ((if u1.2 = 0 then ck 0 1 (lt (vp_updL vO (Int32.toNatClampNeg 0) 0) (fun vO_5 => (some (0, vO_5)))) else ck 0 1 (lt (vp_updL vO (Int32.toNatClampNeg 0) 1) (fun vO_6 => (some (0, vO_6)))))) else (if u1.1 = 4 then ((some (1, vO))) else (none)))
abbrev rm_L_wouldBark : Room := { frames := 8, cells := 1, slots := 6, locals := 132 }
set_option maxHeartbeats 4000000 in
set_option maxRecDepth 100000 in
theorem c_L_wouldBark (E : Ev) (l : Launch) (hst : l.stackTraces = false) (aX : Nat) (aB : Nat → Nat) (aBw : Nat → Nat) (aP : Nat) (aN : Nat) (aNd : Nat) (aH : Nat) (aQ : Nat) (aG : Nat → Nat) (aU : Nat → Nat) (aR : Nat → Nat) (aO : Nat) (vX : Nat → Int32) (vN : Nat → Int32) (vG : Nat → Nat → Int32) (vO : Nat → Int64) (x1 : Int32) (r : Int32 × (Nat → Int64)) (hf : F_L_wouldBark vX vN vG vO x1 = some r) : LM E l yL_wouldBark (.codeWith yL_wouldBark cL_wouldBark 4 (some .int) [(0, 16, 19, 33)] :: GA) rm_L_wouldBark [.ref aX, .int x1, .ref aO] (W_X aX aB aBw aP aN aNd aH aQ vX ++ (W_N aN aG aU aR vN ++ (W_G E aG vG ++ (W_J E aO 1 vO)))) (some (.int r.1)) (W_X aX aB aBw aP aN aNd aH aQ vX ++ (W_N aN aG aU aR vN ++ (W_G E aG vG ++ (W_J E aO 1 r.2)))) 1 := by
  refine LM.of (own := RL) rfl (by decide) (Nat.le_of_ble_eq_true rfl) ?_
  intro p e s m below meth c A ls hx hb hr hml hown hg hlocks hK hE hN hA htb hP hD hS hl
  have hl : lv_has ls 4 [(0, .ref aX), (1, .int x1), (2, .ref aO)] := hl
  unfold F_L_wouldBark at hf
  refine lv_aload_n hx hb dL_wouldBark_0 rfl (lv_at hl 2 rfl) ?_
  refine lv_iconst (v := 0) hx hb dL_wouldBark_1 (by decide) ?_
  refine lv_aload_n hx hb dL_wouldBark_2 rfl (lv_at hl 0 rfl) ?_
  refine lv_iload_n hx hb dL_wouldBark_3 rfl (lv_at hl 1 rfl) ?_
  obtain ⟨u1, hu1, hf⟩ := bn hf
  refine xm_V (As := [.int x1]) (rest := [.int 0, .ref aO]) (w2 := (W_X aX aB aBw aP aN aNd aH aQ vX ++ (W_N aN aG aU aR vN ++ (W_G E aG vG ++ (W_J E aO 1 vO))))) hx hb hml hown hg (c_X8_wouldBark E l hst aX aB aBw aP aN aNd aH aQ aG aU aR vX vN vG x1 u1 hu1) cy_X8_wouldBark ml_L_58 ⟨⟨rfl, rfl⟩, Nat.le_of_ble_eq_true rfl, Nat.le_of_ble_eq_true rfl⟩ hK hE hP hD hS hA [true, true, true, true, true, true, true, true, true, true, true] rfl rfl rfl 0 rfl rfl rfl hl.1 rfl (Nat.le_of_ble_eq_true rfl) dL_wouldBark_4 ⟨Nat.le_of_ble_eq_true rfl, Nat.le_of_ble_eq_true rfl⟩ [.int u1.2, .int 0, .ref aO] rfl (fun h0 H locs hP hD hS => ?_) (fun h0 H locs ce q9 hP hD hS hce hcv hcl => ?_)
  rotate_left
  · have hf := ie (Nat.pos_iff_ne_zero.mp h0) hf
    by_cases ho : u1.1 = 4
    · have hf := it ho hf
      rw [ho] at hcl
      refine vx_catch (E := XK 4) hown [] ⟨0, 16, 19, 33⟩ [] htb (fun z hz => absurd hz List.not_mem_nil) rfl (by decide) (hg _ cl_L_33) (va_Nw.use rfl (hE.2.2.2.2.2.2.1 "java/lang/IndexOutOfBoundsException" (by decide))) hce hcv hcl ?_
      refine lv_astore_n (lv' := [(3, .ref q9), (0, .ref aX), (1, .int x1), (2, .ref aO)]) hx hb dL_wouldBark_19 rfl hl (by decide) rfl (fun ls hl => ?_)
      refine lv_iconst (v := 1) hx hb dL_wouldBark_20 (by decide) ?_
      obtain rfl := Option.some.inj hf
      exact lm_iret (v := 1) hx hb hr hlocks hP hS dL_wouldBark_21 (Nat.le_of_ble_eq_true rfl) (Nat.le_of_ble_eq_true rfl)
    · have hf := ie ho hf
      cases hf
  have hf := it h0 hf
  refine lv_if_eq (tgt := 14) hx hb dL_wouldBark_7 (by decide) (fun cq => ?_) (fun cq => ?_)
  · have hf := it cq hf
    refine lv_lconst (v := 0) hx hb dL_wouldBark_14 rfl ?_
    obtain ⟨hi, hf⟩ := ck_o hf
    refine al_st (w2 := (W_X aX aB aBw aP aN aNd aH aQ vX ++ (W_N aN aG aU aR vN ++ (W_G E aG vG ++ (W_J E aO 1 (vp_updL vO (Int32.toNatClampNeg 0) 0)))))) hx hb hK hP hD hS 11 rfl hi rfl dL_wouldBark_15 (fun H locs hP hD hS => ?_)
    obtain ⟨vO_5, hv, hf⟩ := lt_o hf
    rw [← hv] at hP hD
    clear hv
    refine lv_goto (tgt := 22) hx hb dL_wouldBark_16 (by decide) ?_
    refine lv_iconst (v := 0) hx hb dL_wouldBark_22 (by decide) ?_
    obtain rfl := Option.some.inj hf
    exact lm_iret (v := 0) hx hb hr hlocks hP hS dL_wouldBark_23 (Nat.le_of_ble_eq_true rfl) (Nat.le_of_ble_eq_true rfl)
  · have hf := ie cq hf
    refine lv_lconst (v := 1) hx hb dL_wouldBark_10 rfl ?_
    refine lv_goto (tgt := 15) hx hb dL_wouldBark_11 (by decide) ?_
    obtain ⟨hi, hf⟩ := ck_o hf
    refine al_st (w2 := (W_X aX aB aBw aP aN aNd aH aQ vX ++ (W_N aN aG aU aR vN ++ (W_G E aG vG ++ (W_J E aO 1 (vp_updL vO (Int32.toNatClampNeg 0) 1)))))) hx hb hK hP hD hS 11 rfl hi rfl dL_wouldBark_15 (fun H locs hP hD hS => ?_)
    obtain ⟨vO_6, hv, hf⟩ := lt_o hf
    rw [← hv] at hP hD
    clear hv
    refine lv_goto (tgt := 22) hx hb dL_wouldBark_16 (by decide) ?_
    refine lv_iconst (v := 0) hx hb dL_wouldBark_22 (by decide) ?_
    obtain rfl := Option.some.inj hf
    exact lm_iret (v := 0) hx hb hr hlocks hP hS dL_wouldBark_23 (Nat.le_of_ble_eq_true rfl) (Nat.le_of_ble_eq_true rfl)
def F_L_ownerOf (vX : Nat → Int32) (vN : Nat → Int32) (vU : Nat → Nat → Int32) (vO : Nat → Int64) (x1 : Int32) : Option (Int32 × (Nat → Int64)) := (F_X8_ownerOf vX vN vU x1).bind (fun u1 => if u1.1 = 0 then (ck 0 1 (lt (vp_updL vO (Int32.toNatClampNeg 0) (Int32.toInt64 u1.2)) (fun vO_3 => (some (0, vO_3))))) else (if u1.1 = 4 then ((some (1, vO))) else (none)))
abbrev rm_L_ownerOf : Room := { frames := 8, cells := 1, slots := 6, locals := 132 }
set_option maxHeartbeats 4000000 in
set_option maxRecDepth 100000 in
theorem c_L_ownerOf (E : Ev) (l : Launch) (hst : l.stackTraces = false) (aX : Nat) (aB : Nat → Nat) (aBw : Nat → Nat) (aP : Nat) (aN : Nat) (aNd : Nat) (aH : Nat) (aQ : Nat) (aG : Nat → Nat) (aU : Nat → Nat) (aR : Nat → Nat) (aO : Nat) (vX : Nat → Int32) (vN : Nat → Int32) (vU : Nat → Nat → Int32) (vO : Nat → Int64) (x1 : Int32) (r : Int32 × (Nat → Int64)) (hf : F_L_ownerOf vX vN vU vO x1 = some r) : LM E l yL_ownerOf (.codeWith yL_ownerOf cL_ownerOf 4 (some .int) [(0, 9, 12, 33)] :: GA) rm_L_ownerOf [.ref aX, .int x1, .ref aO] (W_X aX aB aBw aP aN aNd aH aQ vX ++ (W_N aN aG aU aR vN ++ (W_U E aU vU ++ (W_J E aO 1 vO)))) (some (.int r.1)) (W_X aX aB aBw aP aN aNd aH aQ vX ++ (W_N aN aG aU aR vN ++ (W_U E aU vU ++ (W_J E aO 1 r.2)))) 1 := by
  refine LM.of (own := RL) rfl (by decide) (Nat.le_of_ble_eq_true rfl) ?_
  intro p e s m below meth c A ls hx hb hr hml hown hg hlocks hK hE hN hA htb hP hD hS hl
  have hl : lv_has ls 4 [(0, .ref aX), (1, .int x1), (2, .ref aO)] := hl
  unfold F_L_ownerOf at hf
  refine lv_aload_n hx hb dL_ownerOf_0 rfl (lv_at hl 2 rfl) ?_
  refine lv_iconst (v := 0) hx hb dL_ownerOf_1 (by decide) ?_
  refine lv_aload_n hx hb dL_ownerOf_2 rfl (lv_at hl 0 rfl) ?_
  refine lv_iload_n hx hb dL_ownerOf_3 rfl (lv_at hl 1 rfl) ?_
  obtain ⟨u1, hu1, hf⟩ := bn hf
  refine xm_V (As := [.int x1]) (rest := [.int 0, .ref aO]) (w2 := (W_X aX aB aBw aP aN aNd aH aQ vX ++ (W_N aN aG aU aR vN ++ (W_U E aU vU ++ (W_J E aO 1 vO))))) hx hb hml hown hg (c_X8_ownerOf E l hst aX aB aBw aP aN aNd aH aQ aG aU aR vX vN vU x1 u1 hu1) cy_X8_ownerOf ml_L_61 ⟨⟨rfl, rfl⟩, Nat.le_of_ble_eq_true rfl, Nat.le_of_ble_eq_true rfl⟩ hK hE hP hD hS hA [true, true, true, true, true, true] rfl rfl rfl 0 rfl rfl rfl hl.1 rfl (Nat.le_of_ble_eq_true rfl) dL_ownerOf_4 ⟨Nat.le_of_ble_eq_true rfl, Nat.le_of_ble_eq_true rfl⟩ [.int u1.2, .int 0, .ref aO] rfl (fun h0 H locs hP hD hS => ?_) (fun h0 H locs ce q9 hP hD hS hce hcv hcl => ?_)
  rotate_left
  · have hf := ie (Nat.pos_iff_ne_zero.mp h0) hf
    by_cases ho : u1.1 = 4
    · have hf := it ho hf
      rw [ho] at hcl
      refine vx_catch (E := XK 4) hown [] ⟨0, 9, 12, 33⟩ [] htb (fun z hz => absurd hz List.not_mem_nil) rfl (by decide) (hg _ cl_L_33) (va_Nw.use rfl (hE.2.2.2.2.2.2.1 "java/lang/IndexOutOfBoundsException" (by decide))) hce hcv hcl ?_
      refine lv_astore_n (lv' := [(3, .ref q9), (0, .ref aX), (1, .int x1), (2, .ref aO)]) hx hb dL_ownerOf_12 rfl hl (by decide) rfl (fun ls hl => ?_)
      refine lv_iconst (v := 1) hx hb dL_ownerOf_13 (by decide) ?_
      obtain rfl := Option.some.inj hf
      exact lm_iret (v := 1) hx hb hr hlocks hP hS dL_ownerOf_14 (Nat.le_of_ble_eq_true rfl) (Nat.le_of_ble_eq_true rfl)
    · have hf := ie ho hf
      cases hf
  have hf := it h0 hf
  refine lv_i2l (v := (Int32.toInt64 u1.2)) hx hb dL_ownerOf_7 rfl ?_
  obtain ⟨hi, hf⟩ := ck_o hf
  refine al_st (w2 := (W_X aX aB aBw aP aN aNd aH aQ vX ++ (W_N aN aG aU aR vN ++ (W_U E aU vU ++ (W_J E aO 1 (vp_updL vO (Int32.toNatClampNeg 0) (Int32.toInt64 u1.2))))))) hx hb hK hP hD hS 6 rfl hi rfl dL_ownerOf_8 (fun H locs hP hD hS => ?_)
  obtain ⟨vO_3, hv, hf⟩ := lt_o hf
  rw [← hv] at hP hD
  clear hv
  refine lv_goto (tgt := 15) hx hb dL_ownerOf_9 (by decide) ?_
  refine lv_iconst (v := 0) hx hb dL_ownerOf_15 (by decide) ?_
  obtain rfl := Option.some.inj hf
  exact lm_iret (v := 0) hx hb hr hlocks hP hS dL_ownerOf_16 (Nat.le_of_ble_eq_true rfl) (Nat.le_of_ble_eq_true rfl)
def F_L_wetness (vX : Nat → Int32) (vN : Nat → Int32) (vU : Nat → Nat → Int32) (vO : Nat → Int64) (x1 : Int32) : Option (Int32 × (Nat → Int64)) := (F_X8_wetness vX vN vU x1).bind (fun u1 => if u1.1 = 0 then (ck 0 1 (lt (vp_updL vO (Int32.toNatClampNeg 0) (Int32.toInt64 u1.2)) (fun vO_3 => (some (0, vO_3))))) else (if u1.1 = 4 then ((some (1, vO))) else (none)))
abbrev rm_L_wetness : Room := { frames := 8, cells := 1, slots := 6, locals := 132 }
set_option maxHeartbeats 4000000 in
set_option maxRecDepth 100000 in
theorem c_L_wetness (E : Ev) (l : Launch) (hst : l.stackTraces = false) (aX : Nat) (aB : Nat → Nat) (aBw : Nat → Nat) (aP : Nat) (aN : Nat) (aNd : Nat) (aH : Nat) (aQ : Nat) (aG : Nat → Nat) (aU : Nat → Nat) (aR : Nat → Nat) (aO : Nat) (vX : Nat → Int32) (vN : Nat → Int32) (vU : Nat → Nat → Int32) (vO : Nat → Int64) (x1 : Int32) (r : Int32 × (Nat → Int64)) (hf : F_L_wetness vX vN vU vO x1 = some r) : LM E l yL_wetness (.codeWith yL_wetness cL_wetness 4 (some .int) [(0, 9, 12, 33)] :: GA) rm_L_wetness [.ref aX, .int x1, .ref aO] (W_X aX aB aBw aP aN aNd aH aQ vX ++ (W_N aN aG aU aR vN ++ (W_U E aU vU ++ (W_J E aO 1 vO)))) (some (.int r.1)) (W_X aX aB aBw aP aN aNd aH aQ vX ++ (W_N aN aG aU aR vN ++ (W_U E aU vU ++ (W_J E aO 1 r.2)))) 1 := by
  refine LM.of (own := RL) rfl (by decide) (Nat.le_of_ble_eq_true rfl) ?_
  intro p e s m below meth c A ls hx hb hr hml hown hg hlocks hK hE hN hA htb hP hD hS hl
  have hl : lv_has ls 4 [(0, .ref aX), (1, .int x1), (2, .ref aO)] := hl
  unfold F_L_wetness at hf
  refine lv_aload_n hx hb dL_wetness_0 rfl (lv_at hl 2 rfl) ?_
  refine lv_iconst (v := 0) hx hb dL_wetness_1 (by decide) ?_
  refine lv_aload_n hx hb dL_wetness_2 rfl (lv_at hl 0 rfl) ?_
  refine lv_iload_n hx hb dL_wetness_3 rfl (lv_at hl 1 rfl) ?_
  obtain ⟨u1, hu1, hf⟩ := bn hf
  refine xm_V (As := [.int x1]) (rest := [.int 0, .ref aO]) (w2 := (W_X aX aB aBw aP aN aNd aH aQ vX ++ (W_N aN aG aU aR vN ++ (W_U E aU vU ++ (W_J E aO 1 vO))))) hx hb hml hown hg (c_X8_wetness E l hst aX aB aBw aP aN aNd aH aQ aG aU aR vX vN vU x1 u1 hu1) cy_X8_wetness ml_L_64 ⟨⟨rfl, rfl⟩, Nat.le_of_ble_eq_true rfl, Nat.le_of_ble_eq_true rfl⟩ hK hE hP hD hS hA [true, true, true, true, true, true] rfl rfl rfl 0 rfl rfl rfl hl.1 rfl (Nat.le_of_ble_eq_true rfl) dL_wetness_4 ⟨Nat.le_of_ble_eq_true rfl, Nat.le_of_ble_eq_true rfl⟩ [.int u1.2, .int 0, .ref aO] rfl (fun h0 H locs hP hD hS => ?_) (fun h0 H locs ce q9 hP hD hS hce hcv hcl => ?_)
  rotate_left
  · have hf := ie (Nat.pos_iff_ne_zero.mp h0) hf
    by_cases ho : u1.1 = 4
    · have hf := it ho hf
      rw [ho] at hcl
      refine vx_catch (E := XK 4) hown [] ⟨0, 9, 12, 33⟩ [] htb (fun z hz => absurd hz List.not_mem_nil) rfl (by decide) (hg _ cl_L_33) (va_Nw.use rfl (hE.2.2.2.2.2.2.1 "java/lang/IndexOutOfBoundsException" (by decide))) hce hcv hcl ?_
      refine lv_astore_n (lv' := [(3, .ref q9), (0, .ref aX), (1, .int x1), (2, .ref aO)]) hx hb dL_wetness_12 rfl hl (by decide) rfl (fun ls hl => ?_)
      refine lv_iconst (v := 1) hx hb dL_wetness_13 (by decide) ?_
      obtain rfl := Option.some.inj hf
      exact lm_iret (v := 1) hx hb hr hlocks hP hS dL_wetness_14 (Nat.le_of_ble_eq_true rfl) (Nat.le_of_ble_eq_true rfl)
    · have hf := ie ho hf
      cases hf
  have hf := it h0 hf
  refine lv_i2l (v := (Int32.toInt64 u1.2)) hx hb dL_wetness_7 rfl ?_
  obtain ⟨hi, hf⟩ := ck_o hf
  refine al_st (w2 := (W_X aX aB aBw aP aN aNd aH aQ vX ++ (W_N aN aG aU aR vN ++ (W_U E aU vU ++ (W_J E aO 1 (vp_updL vO (Int32.toNatClampNeg 0) (Int32.toInt64 u1.2))))))) hx hb hK hP hD hS 6 rfl hi rfl dL_wetness_8 (fun H locs hP hD hS => ?_)
  obtain ⟨vO_3, hv, hf⟩ := lt_o hf
  rw [← hv] at hP hD
  clear hv
  refine lv_goto (tgt := 15) hx hb dL_wetness_9 (by decide) ?_
  refine lv_iconst (v := 0) hx hb dL_wetness_15 (by decide) ?_
  obtain rfl := Option.some.inj hf
  exact lm_iret (v := 0) hx hb hr hlocks hP hS dL_wetness_16 (Nat.le_of_ble_eq_true rfl) (Nat.le_of_ble_eq_true rfl)
def F_L_isInStand (vX : Nat → Int32) (vN : Nat → Int32) (vU : Nat → Nat → Int32) (vO : Nat → Int64) (x1 : Int32) : Option (Int32 × (Nat → Int64)) := (F_X8_isInStand vX vN vU x1).bind (fun u1 => if u1.1 = 0 then ((if u1.2 = 0 then ck 0 1 (lt (vp_updL vO (Int32.toNatClampNeg 0) 0) (fun vO_5 => (some (0, vO_5)))) else ck 0 1 (lt (vp_updL vO (Int32.toNatClampNeg 0) 1) (fun vO_6 => (some (0, vO_6)))))) else (if u1.1 = 4 then ((some (1, vO))) else (none)))
abbrev rm_L_isInStand : Room := { frames := 8, cells := 1, slots := 6, locals := 132 }
set_option maxHeartbeats 4000000 in
set_option maxRecDepth 100000 in
theorem c_L_isInStand (E : Ev) (l : Launch) (hst : l.stackTraces = false) (aX : Nat) (aB : Nat → Nat) (aBw : Nat → Nat) (aP : Nat) (aN : Nat) (aNd : Nat) (aH : Nat) (aQ : Nat) (aG : Nat → Nat) (aU : Nat → Nat) (aR : Nat → Nat) (aO : Nat) (vX : Nat → Int32) (vN : Nat → Int32) (vU : Nat → Nat → Int32) (vO : Nat → Int64) (x1 : Int32) (r : Int32 × (Nat → Int64)) (hf : F_L_isInStand vX vN vU vO x1 = some r) : LM E l yL_isInStand (.codeWith yL_isInStand cL_isInStand 4 (some .int) [(0, 16, 19, 33)] :: GA) rm_L_isInStand [.ref aX, .int x1, .ref aO] (W_X aX aB aBw aP aN aNd aH aQ vX ++ (W_N aN aG aU aR vN ++ (W_U E aU vU ++ (W_J E aO 1 vO)))) (some (.int r.1)) (W_X aX aB aBw aP aN aNd aH aQ vX ++ (W_N aN aG aU aR vN ++ (W_U E aU vU ++ (W_J E aO 1 r.2)))) 1 := by
  refine LM.of (own := RL) rfl (by decide) (Nat.le_of_ble_eq_true rfl) ?_
  intro p e s m below meth c A ls hx hb hr hml hown hg hlocks hK hE hN hA htb hP hD hS hl
  have hl : lv_has ls 4 [(0, .ref aX), (1, .int x1), (2, .ref aO)] := hl
  unfold F_L_isInStand at hf
  refine lv_aload_n hx hb dL_isInStand_0 rfl (lv_at hl 2 rfl) ?_
  refine lv_iconst (v := 0) hx hb dL_isInStand_1 (by decide) ?_
  refine lv_aload_n hx hb dL_isInStand_2 rfl (lv_at hl 0 rfl) ?_
  refine lv_iload_n hx hb dL_isInStand_3 rfl (lv_at hl 1 rfl) ?_
  obtain ⟨u1, hu1, hf⟩ := bn hf
  refine xm_V (As := [.int x1]) (rest := [.int 0, .ref aO]) (w2 := (W_X aX aB aBw aP aN aNd aH aQ vX ++ (W_N aN aG aU aR vN ++ (W_U E aU vU ++ (W_J E aO 1 vO))))) hx hb hml hown hg (c_X8_isInStand E l hst aX aB aBw aP aN aNd aH aQ aG aU aR vX vN vU x1 u1 hu1) cy_X8_isInStand ml_L_67 ⟨⟨rfl, rfl⟩, Nat.le_of_ble_eq_true rfl, Nat.le_of_ble_eq_true rfl⟩ hK hE hP hD hS hA [true, true, true, true, true, true] rfl rfl rfl 0 rfl rfl rfl hl.1 rfl (Nat.le_of_ble_eq_true rfl) dL_isInStand_4 ⟨Nat.le_of_ble_eq_true rfl, Nat.le_of_ble_eq_true rfl⟩ [.int u1.2, .int 0, .ref aO] rfl (fun h0 H locs hP hD hS => ?_) (fun h0 H locs ce q9 hP hD hS hce hcv hcl => ?_)
  rotate_left
  · have hf := ie (Nat.pos_iff_ne_zero.mp h0) hf
    by_cases ho : u1.1 = 4
    · have hf := it ho hf
      rw [ho] at hcl
      refine vx_catch (E := XK 4) hown [] ⟨0, 16, 19, 33⟩ [] htb (fun z hz => absurd hz List.not_mem_nil) rfl (by decide) (hg _ cl_L_33) (va_Nw.use rfl (hE.2.2.2.2.2.2.1 "java/lang/IndexOutOfBoundsException" (by decide))) hce hcv hcl ?_
      refine lv_astore_n (lv' := [(3, .ref q9), (0, .ref aX), (1, .int x1), (2, .ref aO)]) hx hb dL_isInStand_19 rfl hl (by decide) rfl (fun ls hl => ?_)
      refine lv_iconst (v := 1) hx hb dL_isInStand_20 (by decide) ?_
      obtain rfl := Option.some.inj hf
      exact lm_iret (v := 1) hx hb hr hlocks hP hS dL_isInStand_21 (Nat.le_of_ble_eq_true rfl) (Nat.le_of_ble_eq_true rfl)
    · have hf := ie ho hf
      cases hf
  have hf := it h0 hf
  refine lv_if_eq (tgt := 14) hx hb dL_isInStand_7 (by decide) (fun cq => ?_) (fun cq => ?_)
  · have hf := it cq hf
    refine lv_lconst (v := 0) hx hb dL_isInStand_14 rfl ?_
    obtain ⟨hi, hf⟩ := ck_o hf
    refine al_st (w2 := (W_X aX aB aBw aP aN aNd aH aQ vX ++ (W_N aN aG aU aR vN ++ (W_U E aU vU ++ (W_J E aO 1 (vp_updL vO (Int32.toNatClampNeg 0) 0)))))) hx hb hK hP hD hS 6 rfl hi rfl dL_isInStand_15 (fun H locs hP hD hS => ?_)
    obtain ⟨vO_5, hv, hf⟩ := lt_o hf
    rw [← hv] at hP hD
    clear hv
    refine lv_goto (tgt := 22) hx hb dL_isInStand_16 (by decide) ?_
    refine lv_iconst (v := 0) hx hb dL_isInStand_22 (by decide) ?_
    obtain rfl := Option.some.inj hf
    exact lm_iret (v := 0) hx hb hr hlocks hP hS dL_isInStand_23 (Nat.le_of_ble_eq_true rfl) (Nat.le_of_ble_eq_true rfl)
  · have hf := ie cq hf
    refine lv_lconst (v := 1) hx hb dL_isInStand_10 rfl ?_
    refine lv_goto (tgt := 15) hx hb dL_isInStand_11 (by decide) ?_
    obtain ⟨hi, hf⟩ := ck_o hf
    refine al_st (w2 := (W_X aX aB aBw aP aN aNd aH aQ vX ++ (W_N aN aG aU aR vN ++ (W_U E aU vU ++ (W_J E aO 1 (vp_updL vO (Int32.toNatClampNeg 0) 1)))))) hx hb hK hP hD hS 6 rfl hi rfl dL_isInStand_15 (fun H locs hP hD hS => ?_)
    obtain ⟨vO_6, hv, hf⟩ := lt_o hf
    rw [← hv] at hP hD
    clear hv
    refine lv_goto (tgt := 22) hx hb dL_isInStand_16 (by decide) ?_
    refine lv_iconst (v := 0) hx hb dL_isInStand_22 (by decide) ?_
    obtain rfl := Option.some.inj hf
    exact lm_iret (v := 0) hx hb hr hlocks hP hS dL_isInStand_23 (Nat.le_of_ble_eq_true rfl) (Nat.le_of_ble_eq_true rfl)
def F_L_isUsable (vX : Nat → Int32) (vN : Nat → Int32) (vU : Nat → Nat → Int32) (vO : Nat → Int64) (x1 : Int32) : Option (Int32 × (Nat → Int64)) := (F_X8_isUsable vX vN vU x1).bind (fun u1 => if u1.1 = 0 then ((if u1.2 = 0 then ck 0 1 (lt (vp_updL vO (Int32.toNatClampNeg 0) 0) (fun vO_5 => (some (0, vO_5)))) else ck 0 1 (lt (vp_updL vO (Int32.toNatClampNeg 0) 1) (fun vO_6 => (some (0, vO_6)))))) else (if u1.1 = 4 then ((some (1, vO))) else (none)))
abbrev rm_L_isUsable : Room := { frames := 8, cells := 1, slots := 6, locals := 132 }
set_option maxHeartbeats 4000000 in
set_option maxRecDepth 100000 in
theorem c_L_isUsable (E : Ev) (l : Launch) (hst : l.stackTraces = false) (aX : Nat) (aB : Nat → Nat) (aBw : Nat → Nat) (aP : Nat) (aN : Nat) (aNd : Nat) (aH : Nat) (aQ : Nat) (aG : Nat → Nat) (aU : Nat → Nat) (aR : Nat → Nat) (aO : Nat) (vX : Nat → Int32) (vN : Nat → Int32) (vU : Nat → Nat → Int32) (vO : Nat → Int64) (x1 : Int32) (r : Int32 × (Nat → Int64)) (hf : F_L_isUsable vX vN vU vO x1 = some r) : LM E l yL_isUsable (.codeWith yL_isUsable cL_isUsable 4 (some .int) [(0, 16, 19, 33)] :: GA) rm_L_isUsable [.ref aX, .int x1, .ref aO] (W_X aX aB aBw aP aN aNd aH aQ vX ++ (W_N aN aG aU aR vN ++ (W_U E aU vU ++ (W_J E aO 1 vO)))) (some (.int r.1)) (W_X aX aB aBw aP aN aNd aH aQ vX ++ (W_N aN aG aU aR vN ++ (W_U E aU vU ++ (W_J E aO 1 r.2)))) 1 := by
  refine LM.of (own := RL) rfl (by decide) (Nat.le_of_ble_eq_true rfl) ?_
  intro p e s m below meth c A ls hx hb hr hml hown hg hlocks hK hE hN hA htb hP hD hS hl
  have hl : lv_has ls 4 [(0, .ref aX), (1, .int x1), (2, .ref aO)] := hl
  unfold F_L_isUsable at hf
  refine lv_aload_n hx hb dL_isUsable_0 rfl (lv_at hl 2 rfl) ?_
  refine lv_iconst (v := 0) hx hb dL_isUsable_1 (by decide) ?_
  refine lv_aload_n hx hb dL_isUsable_2 rfl (lv_at hl 0 rfl) ?_
  refine lv_iload_n hx hb dL_isUsable_3 rfl (lv_at hl 1 rfl) ?_
  obtain ⟨u1, hu1, hf⟩ := bn hf
  refine xm_V (As := [.int x1]) (rest := [.int 0, .ref aO]) (w2 := (W_X aX aB aBw aP aN aNd aH aQ vX ++ (W_N aN aG aU aR vN ++ (W_U E aU vU ++ (W_J E aO 1 vO))))) hx hb hml hown hg (c_X8_isUsable E l hst aX aB aBw aP aN aNd aH aQ aG aU aR vX vN vU x1 u1 hu1) cy_X8_isUsable ml_L_70 ⟨⟨rfl, rfl⟩, Nat.le_of_ble_eq_true rfl, Nat.le_of_ble_eq_true rfl⟩ hK hE hP hD hS hA [true, true, true, true, true, true] rfl rfl rfl 0 rfl rfl rfl hl.1 rfl (Nat.le_of_ble_eq_true rfl) dL_isUsable_4 ⟨Nat.le_of_ble_eq_true rfl, Nat.le_of_ble_eq_true rfl⟩ [.int u1.2, .int 0, .ref aO] rfl (fun h0 H locs hP hD hS => ?_) (fun h0 H locs ce q9 hP hD hS hce hcv hcl => ?_)
  rotate_left
  · have hf := ie (Nat.pos_iff_ne_zero.mp h0) hf
    by_cases ho : u1.1 = 4
    · have hf := it ho hf
      rw [ho] at hcl
      refine vx_catch (E := XK 4) hown [] ⟨0, 16, 19, 33⟩ [] htb (fun z hz => absurd hz List.not_mem_nil) rfl (by decide) (hg _ cl_L_33) (va_Nw.use rfl (hE.2.2.2.2.2.2.1 "java/lang/IndexOutOfBoundsException" (by decide))) hce hcv hcl ?_
      refine lv_astore_n (lv' := [(3, .ref q9), (0, .ref aX), (1, .int x1), (2, .ref aO)]) hx hb dL_isUsable_19 rfl hl (by decide) rfl (fun ls hl => ?_)
      refine lv_iconst (v := 1) hx hb dL_isUsable_20 (by decide) ?_
      obtain rfl := Option.some.inj hf
      exact lm_iret (v := 1) hx hb hr hlocks hP hS dL_isUsable_21 (Nat.le_of_ble_eq_true rfl) (Nat.le_of_ble_eq_true rfl)
    · have hf := ie ho hf
      cases hf
  have hf := it h0 hf
  refine lv_if_eq (tgt := 14) hx hb dL_isUsable_7 (by decide) (fun cq => ?_) (fun cq => ?_)
  · have hf := it cq hf
    refine lv_lconst (v := 0) hx hb dL_isUsable_14 rfl ?_
    obtain ⟨hi, hf⟩ := ck_o hf
    refine al_st (w2 := (W_X aX aB aBw aP aN aNd aH aQ vX ++ (W_N aN aG aU aR vN ++ (W_U E aU vU ++ (W_J E aO 1 (vp_updL vO (Int32.toNatClampNeg 0) 0)))))) hx hb hK hP hD hS 6 rfl hi rfl dL_isUsable_15 (fun H locs hP hD hS => ?_)
    obtain ⟨vO_5, hv, hf⟩ := lt_o hf
    rw [← hv] at hP hD
    clear hv
    refine lv_goto (tgt := 22) hx hb dL_isUsable_16 (by decide) ?_
    refine lv_iconst (v := 0) hx hb dL_isUsable_22 (by decide) ?_
    obtain rfl := Option.some.inj hf
    exact lm_iret (v := 0) hx hb hr hlocks hP hS dL_isUsable_23 (Nat.le_of_ble_eq_true rfl) (Nat.le_of_ble_eq_true rfl)
  · have hf := ie cq hf
    refine lv_lconst (v := 1) hx hb dL_isUsable_10 rfl ?_
    refine lv_goto (tgt := 15) hx hb dL_isUsable_11 (by decide) ?_
    obtain ⟨hi, hf⟩ := ck_o hf
    refine al_st (w2 := (W_X aX aB aBw aP aN aNd aH aQ vX ++ (W_N aN aG aU aR vN ++ (W_U E aU vU ++ (W_J E aO 1 (vp_updL vO (Int32.toNatClampNeg 0) 1)))))) hx hb hK hP hD hS 6 rfl hi rfl dL_isUsable_15 (fun H locs hP hD hS => ?_)
    obtain ⟨vO_6, hv, hf⟩ := lt_o hf
    rw [← hv] at hP hD
    clear hv
    refine lv_goto (tgt := 22) hx hb dL_isUsable_16 (by decide) ?_
    refine lv_iconst (v := 0) hx hb dL_isUsable_22 (by decide) ?_
    obtain rfl := Option.some.inj hf
    exact lm_iret (v := 0) hx hb hr hlocks hP hS dL_isUsable_23 (Nat.le_of_ble_eq_true rfl) (Nat.le_of_ble_eq_true rfl)
def F_L_carrierOf (vX : Nat → Int32) (vN : Nat → Int32) (vU : Nat → Nat → Int32) (vO : Nat → Int64) (x1 : Int32) : Option (Int32 × (Nat → Int64)) := (F_X8_carrierOf vX vN vU x1).bind (fun u1 => if u1.1 = 0 then (ck 0 1 (lt (vp_updL vO (Int32.toNatClampNeg 0) (Int32.toInt64 u1.2)) (fun vO_3 => (some (0, vO_3))))) else (if u1.1 = 4 then ((some (1, vO))) else (if u1.1 = 3 then ((some (2, vO))) else (none))))
abbrev rm_L_carrierOf : Room := { frames := 8, cells := 2, slots := 12, locals := 132 }
set_option maxHeartbeats 4000000 in
set_option maxRecDepth 100000 in
theorem c_L_carrierOf (E : Ev) (l : Launch) (hst : l.stackTraces = false) (aX : Nat) (aB : Nat → Nat) (aBw : Nat → Nat) (aP : Nat) (aN : Nat) (aNd : Nat) (aH : Nat) (aQ : Nat) (aG : Nat → Nat) (aU : Nat → Nat) (aR : Nat → Nat) (aO : Nat) (vX : Nat → Int32) (vN : Nat → Int32) (vU : Nat → Nat → Int32) (vO : Nat → Int64) (x1 : Int32) (r : Int32 × (Nat → Int64)) (hf : F_L_carrierOf vX vN vU vO x1 = some r) : LM E l yL_carrierOf (.codeWith yL_carrierOf cL_carrierOf 4 (some .int) [(0, 9, 12, 33), (0, 9, 15, 28)] :: GA) rm_L_carrierOf [.ref aX, .int x1, .ref aO] (W_X aX aB aBw aP aN aNd aH aQ vX ++ (W_N aN aG aU aR vN ++ (W_U E aU vU ++ (W_J E aO 1 vO)))) (some (.int r.1)) (W_X aX aB aBw aP aN aNd aH aQ vX ++ (W_N aN aG aU aR vN ++ (W_U E aU vU ++ (W_J E aO 1 r.2)))) 2 := by
  refine LM.of (own := RL) rfl (by decide) (Nat.le_of_ble_eq_true rfl) ?_
  intro p e s m below meth c A ls hx hb hr hml hown hg hlocks hK hE hN hA htb hP hD hS hl
  have hl : lv_has ls 4 [(0, .ref aX), (1, .int x1), (2, .ref aO)] := hl
  unfold F_L_carrierOf at hf
  refine lv_aload_n hx hb dL_carrierOf_0 rfl (lv_at hl 2 rfl) ?_
  refine lv_iconst (v := 0) hx hb dL_carrierOf_1 (by decide) ?_
  refine lv_aload_n hx hb dL_carrierOf_2 rfl (lv_at hl 0 rfl) ?_
  refine lv_iload_n hx hb dL_carrierOf_3 rfl (lv_at hl 1 rfl) ?_
  obtain ⟨u1, hu1, hf⟩ := bn hf
  refine xm_V (As := [.int x1]) (rest := [.int 0, .ref aO]) (w2 := (W_X aX aB aBw aP aN aNd aH aQ vX ++ (W_N aN aG aU aR vN ++ (W_U E aU vU ++ (W_J E aO 1 vO))))) hx hb hml hown hg (c_X8_carrierOf E l hst aX aB aBw aP aN aNd aH aQ aG aU aR vX vN vU x1 u1 hu1) cy_X8_carrierOf ml_L_73 ⟨⟨rfl, rfl⟩, Nat.le_of_ble_eq_true rfl, Nat.le_of_ble_eq_true rfl⟩ hK hE hP hD hS hA [true, true, true, true, true, true] rfl rfl rfl 0 rfl rfl rfl hl.1 rfl (Nat.le_of_ble_eq_true rfl) dL_carrierOf_4 ⟨Nat.le_of_ble_eq_true rfl, Nat.le_of_ble_eq_true rfl⟩ [.int u1.2, .int 0, .ref aO] rfl (fun h0 H locs hP hD hS => ?_) (fun h0 H locs ce q9 hP hD hS hce hcv hcl => ?_)
  rotate_left
  · have hf := ie (Nat.pos_iff_ne_zero.mp h0) hf
    by_cases ho : u1.1 = 4
    · have hf := it ho hf
      rw [ho] at hcl
      refine vx_catch (E := XK 4) hown [] ⟨0, 9, 12, 33⟩ [⟨0, 9, 15, 28⟩] htb (fun z hz => absurd hz List.not_mem_nil) rfl (by decide) (hg _ cl_L_33) (va_Nw.use rfl (hE.2.2.2.2.2.2.1 "java/lang/IndexOutOfBoundsException" (by decide))) hce hcv hcl ?_
      refine lv_astore_n (lv' := [(3, .ref q9), (0, .ref aX), (1, .int x1), (2, .ref aO)]) hx hb dL_carrierOf_12 rfl hl (by decide) rfl (fun ls hl => ?_)
      refine lv_iconst (v := 1) hx hb dL_carrierOf_13 (by decide) ?_
      obtain rfl := Option.some.inj hf
      exact lm_iret (v := 1) hx hb hr hlocks hP hS dL_carrierOf_14 (Nat.le_of_ble_eq_true rfl) (Nat.le_of_ble_eq_true rfl)
    · have hf := ie ho hf
      by_cases ho : u1.1 = 3
      · have hf := it ho hf
        rw [ho] at hcl
        refine vx_catch (E := XK 3) hown [⟨0, 9, 12, 33⟩] ⟨0, 9, 15, 28⟩ [] htb (fun z hz => by
      simp only [List.mem_cons, List.not_mem_nil, or_false] at hz
      rcases hz with rfl
      · exact Or.inr ⟨(by decide), _, hg _ cl_L_33, hN ("java/util/NoSuchElementException", "java/lang/IndexOutOfBoundsException") (by decide)⟩) rfl (by decide) (hg _ cl_L_28) (va_Nw.use rfl (hE.2.2.2.2.2.2.1 "java/util/NoSuchElementException" (by decide))) hce hcv hcl ?_
        refine lv_astore_n (lv' := [(3, .ref q9), (0, .ref aX), (1, .int x1), (2, .ref aO)]) hx hb dL_carrierOf_15 rfl hl (by decide) rfl (fun ls hl => ?_)
        refine lv_iconst (v := 2) hx hb dL_carrierOf_16 (by decide) ?_
        obtain rfl := Option.some.inj hf
        exact lm_iret (v := 2) hx hb hr hlocks hP hS dL_carrierOf_17 (Nat.le_of_ble_eq_true rfl) (Nat.le_of_ble_eq_true rfl)
      · have hf := ie ho hf
        cases hf
  have hf := it h0 hf
  refine lv_i2l (v := (Int32.toInt64 u1.2)) hx hb dL_carrierOf_7 rfl ?_
  obtain ⟨hi, hf⟩ := ck_o hf
  refine al_st (w2 := (W_X aX aB aBw aP aN aNd aH aQ vX ++ (W_N aN aG aU aR vN ++ (W_U E aU vU ++ (W_J E aO 1 (vp_updL vO (Int32.toNatClampNeg 0) (Int32.toInt64 u1.2))))))) hx hb hK hP hD hS 6 rfl hi rfl dL_carrierOf_8 (fun H locs hP hD hS => ?_)
  obtain ⟨vO_3, hv, hf⟩ := lt_o hf
  rw [← hv] at hP hD
  clear hv
  refine lv_goto (tgt := 18) hx hb dL_carrierOf_9 (by decide) ?_
  refine lv_iconst (v := 0) hx hb dL_carrierOf_18 (by decide) ?_
  obtain rfl := Option.some.inj hf
  exact lm_iret (v := 0) hx hb hr hlocks hP hS dL_carrierOf_19 (Nat.le_of_ble_eq_true rfl) (Nat.le_of_ble_eq_true rfl)
def F_L_umbrellaOf (vX : Nat → Int32) (vN : Nat → Int32) (vG : Nat → Nat → Int32) (vU : Nat → Nat → Int32) (vO : Nat → Int64) (x1 : Int32) : Option (Int32 × (Nat → Int64)) := (F_X8_umbrellaOf vX vN vG vU x1).bind (fun u1 => if u1.1 = 0 then (ck 0 1 (lt (vp_updL vO (Int32.toNatClampNeg 0) (Int32.toInt64 u1.2)) (fun vO_3 => (some (0, vO_3))))) else (if u1.1 = 4 then ((some (1, vO))) else (if u1.1 = 3 then ((some (2, vO))) else (none))))
abbrev rm_L_umbrellaOf : Room := { frames := 8, cells := 2, slots := 12, locals := 133 }
set_option maxHeartbeats 4000000 in
set_option maxRecDepth 100000 in
theorem c_L_umbrellaOf (E : Ev) (l : Launch) (hst : l.stackTraces = false) (aX : Nat) (aB : Nat → Nat) (aBw : Nat → Nat) (aP : Nat) (aN : Nat) (aNd : Nat) (aH : Nat) (aQ : Nat) (aG : Nat → Nat) (aU : Nat → Nat) (aR : Nat → Nat) (aO : Nat) (vX : Nat → Int32) (vN : Nat → Int32) (vG : Nat → Nat → Int32) (vU : Nat → Nat → Int32) (vO : Nat → Int64) (x1 : Int32) (r : Int32 × (Nat → Int64)) (hf : F_L_umbrellaOf vX vN vG vU vO x1 = some r) : LM E l yL_umbrellaOf (.codeWith yL_umbrellaOf cL_umbrellaOf 4 (some .int) [(0, 9, 12, 33), (0, 9, 15, 28)] :: GA) rm_L_umbrellaOf [.ref aX, .int x1, .ref aO] (W_X aX aB aBw aP aN aNd aH aQ vX ++ (W_N aN aG aU aR vN ++ (W_G E aG vG ++ (W_U E aU vU ++ (W_J E aO 1 vO))))) (some (.int r.1)) (W_X aX aB aBw aP aN aNd aH aQ vX ++ (W_N aN aG aU aR vN ++ (W_G E aG vG ++ (W_U E aU vU ++ (W_J E aO 1 r.2))))) 2 := by
  refine LM.of (own := RL) rfl (by decide) (Nat.le_of_ble_eq_true rfl) ?_
  intro p e s m below meth c A ls hx hb hr hml hown hg hlocks hK hE hN hA htb hP hD hS hl
  have hl : lv_has ls 4 [(0, .ref aX), (1, .int x1), (2, .ref aO)] := hl
  unfold F_L_umbrellaOf at hf
  refine lv_aload_n hx hb dL_umbrellaOf_0 rfl (lv_at hl 2 rfl) ?_
  refine lv_iconst (v := 0) hx hb dL_umbrellaOf_1 (by decide) ?_
  refine lv_aload_n hx hb dL_umbrellaOf_2 rfl (lv_at hl 0 rfl) ?_
  refine lv_iload_n hx hb dL_umbrellaOf_3 rfl (lv_at hl 1 rfl) ?_
  obtain ⟨u1, hu1, hf⟩ := bn hf
  refine xm_V (As := [.int x1]) (rest := [.int 0, .ref aO]) (w2 := (W_X aX aB aBw aP aN aNd aH aQ vX ++ (W_N aN aG aU aR vN ++ (W_G E aG vG ++ (W_U E aU vU ++ (W_J E aO 1 vO)))))) hx hb hml hown hg (c_X8_umbrellaOf E l hst aX aB aBw aP aN aNd aH aQ aG aU aR vX vN vG vU x1 u1 hu1) cy_X8_umbrellaOf ml_L_76 ⟨⟨rfl, rfl⟩, Nat.le_of_ble_eq_true rfl, Nat.le_of_ble_eq_true rfl⟩ hK hE hP hD hS hA [true, true, true, true, true, true, true, true, true, true, true, true, true, true, true] rfl rfl rfl 0 rfl rfl rfl hl.1 rfl (Nat.le_of_ble_eq_true rfl) dL_umbrellaOf_4 ⟨Nat.le_of_ble_eq_true rfl, Nat.le_of_ble_eq_true rfl⟩ [.int u1.2, .int 0, .ref aO] rfl (fun h0 H locs hP hD hS => ?_) (fun h0 H locs ce q9 hP hD hS hce hcv hcl => ?_)
  rotate_left
  · have hf := ie (Nat.pos_iff_ne_zero.mp h0) hf
    by_cases ho : u1.1 = 4
    · have hf := it ho hf
      rw [ho] at hcl
      refine vx_catch (E := XK 4) hown [] ⟨0, 9, 12, 33⟩ [⟨0, 9, 15, 28⟩] htb (fun z hz => absurd hz List.not_mem_nil) rfl (by decide) (hg _ cl_L_33) (va_Nw.use rfl (hE.2.2.2.2.2.2.1 "java/lang/IndexOutOfBoundsException" (by decide))) hce hcv hcl ?_
      refine lv_astore_n (lv' := [(3, .ref q9), (0, .ref aX), (1, .int x1), (2, .ref aO)]) hx hb dL_umbrellaOf_12 rfl hl (by decide) rfl (fun ls hl => ?_)
      refine lv_iconst (v := 1) hx hb dL_umbrellaOf_13 (by decide) ?_
      obtain rfl := Option.some.inj hf
      exact lm_iret (v := 1) hx hb hr hlocks hP hS dL_umbrellaOf_14 (Nat.le_of_ble_eq_true rfl) (Nat.le_of_ble_eq_true rfl)
    · have hf := ie ho hf
      by_cases ho : u1.1 = 3
      · have hf := it ho hf
        rw [ho] at hcl
        refine vx_catch (E := XK 3) hown [⟨0, 9, 12, 33⟩] ⟨0, 9, 15, 28⟩ [] htb (fun z hz => by
      simp only [List.mem_cons, List.not_mem_nil, or_false] at hz
      rcases hz with rfl
      · exact Or.inr ⟨(by decide), _, hg _ cl_L_33, hN ("java/util/NoSuchElementException", "java/lang/IndexOutOfBoundsException") (by decide)⟩) rfl (by decide) (hg _ cl_L_28) (va_Nw.use rfl (hE.2.2.2.2.2.2.1 "java/util/NoSuchElementException" (by decide))) hce hcv hcl ?_
        refine lv_astore_n (lv' := [(3, .ref q9), (0, .ref aX), (1, .int x1), (2, .ref aO)]) hx hb dL_umbrellaOf_15 rfl hl (by decide) rfl (fun ls hl => ?_)
        refine lv_iconst (v := 2) hx hb dL_umbrellaOf_16 (by decide) ?_
        obtain rfl := Option.some.inj hf
        exact lm_iret (v := 2) hx hb hr hlocks hP hS dL_umbrellaOf_17 (Nat.le_of_ble_eq_true rfl) (Nat.le_of_ble_eq_true rfl)
      · have hf := ie ho hf
        cases hf
  have hf := it h0 hf
  refine lv_i2l (v := (Int32.toInt64 u1.2)) hx hb dL_umbrellaOf_7 rfl ?_
  obtain ⟨hi, hf⟩ := ck_o hf
  refine al_st (w2 := (W_X aX aB aBw aP aN aNd aH aQ vX ++ (W_N aN aG aU aR vN ++ (W_G E aG vG ++ (W_U E aU vU ++ (W_J E aO 1 (vp_updL vO (Int32.toNatClampNeg 0) (Int32.toInt64 u1.2)))))))) hx hb hK hP hD hS 15 rfl hi rfl dL_umbrellaOf_8 (fun H locs hP hD hS => ?_)
  obtain ⟨vO_3, hv, hf⟩ := lt_o hf
  rw [← hv] at hP hD
  clear hv
  refine lv_goto (tgt := 18) hx hb dL_umbrellaOf_9 (by decide) ?_
  refine lv_iconst (v := 0) hx hb dL_umbrellaOf_18 (by decide) ?_
  obtain rfl := Option.some.inj hf
  exact lm_iret (v := 0) hx hb hr hlocks hP hS dL_umbrellaOf_19 (Nat.le_of_ble_eq_true rfl) (Nat.le_of_ble_eq_true rfl)
def F_L_entryMinute (vX : Nat → Int32) (vN : Nat → Int32) (vR : Nat → Nat → Int32) (vO : Nat → Int64) (x1 : Int32) : Option (Int32 × (Nat → Int64)) := (F_X8_entryMinute vX vN vR x1).bind (fun u1 => if u1.1 = 0 then (ck 0 1 (lt (vp_updL vO (Int32.toNatClampNeg 0) (Int32.toInt64 u1.2)) (fun vO_3 => (some (0, vO_3))))) else (if u1.1 = 4 then ((some (1, vO))) else (none)))
abbrev rm_L_entryMinute : Room := { frames := 8, cells := 1, slots := 6, locals := 132 }
set_option maxHeartbeats 4000000 in
set_option maxRecDepth 100000 in
theorem c_L_entryMinute (E : Ev) (l : Launch) (hst : l.stackTraces = false) (aX : Nat) (aB : Nat → Nat) (aBw : Nat → Nat) (aP : Nat) (aN : Nat) (aNd : Nat) (aH : Nat) (aQ : Nat) (aG : Nat → Nat) (aU : Nat → Nat) (aR : Nat → Nat) (aO : Nat) (vX : Nat → Int32) (vN : Nat → Int32) (vR : Nat → Nat → Int32) (vO : Nat → Int64) (x1 : Int32) (r : Int32 × (Nat → Int64)) (hf : F_L_entryMinute vX vN vR vO x1 = some r) : LM E l yL_entryMinute (.codeWith yL_entryMinute cL_entryMinute 4 (some .int) [(0, 9, 12, 33)] :: GA) rm_L_entryMinute [.ref aX, .int x1, .ref aO] (W_X aX aB aBw aP aN aNd aH aQ vX ++ (W_N aN aG aU aR vN ++ (W_R E aR vR ++ (W_J E aO 1 vO)))) (some (.int r.1)) (W_X aX aB aBw aP aN aNd aH aQ vX ++ (W_N aN aG aU aR vN ++ (W_R E aR vR ++ (W_J E aO 1 r.2)))) 1 := by
  refine LM.of (own := RL) rfl (by decide) (Nat.le_of_ble_eq_true rfl) ?_
  intro p e s m below meth c A ls hx hb hr hml hown hg hlocks hK hE hN hA htb hP hD hS hl
  have hl : lv_has ls 4 [(0, .ref aX), (1, .int x1), (2, .ref aO)] := hl
  unfold F_L_entryMinute at hf
  refine lv_aload_n hx hb dL_entryMinute_0 rfl (lv_at hl 2 rfl) ?_
  refine lv_iconst (v := 0) hx hb dL_entryMinute_1 (by decide) ?_
  refine lv_aload_n hx hb dL_entryMinute_2 rfl (lv_at hl 0 rfl) ?_
  refine lv_iload_n hx hb dL_entryMinute_3 rfl (lv_at hl 1 rfl) ?_
  obtain ⟨u1, hu1, hf⟩ := bn hf
  refine xm_V (As := [.int x1]) (rest := [.int 0, .ref aO]) (w2 := (W_X aX aB aBw aP aN aNd aH aQ vX ++ (W_N aN aG aU aR vN ++ (W_R E aR vR ++ (W_J E aO 1 vO))))) hx hb hml hown hg (c_X8_entryMinute E l hst aX aB aBw aP aN aNd aH aQ aG aU aR vX vN vR x1 u1 hu1) cy_X8_entryMinute ml_L_79 ⟨⟨rfl, rfl⟩, Nat.le_of_ble_eq_true rfl, Nat.le_of_ble_eq_true rfl⟩ hK hE hP hD hS hA [true, true, true, true, true, true] rfl rfl rfl 0 rfl rfl rfl hl.1 rfl (Nat.le_of_ble_eq_true rfl) dL_entryMinute_4 ⟨Nat.le_of_ble_eq_true rfl, Nat.le_of_ble_eq_true rfl⟩ [.int u1.2, .int 0, .ref aO] rfl (fun h0 H locs hP hD hS => ?_) (fun h0 H locs ce q9 hP hD hS hce hcv hcl => ?_)
  rotate_left
  · have hf := ie (Nat.pos_iff_ne_zero.mp h0) hf
    by_cases ho : u1.1 = 4
    · have hf := it ho hf
      rw [ho] at hcl
      refine vx_catch (E := XK 4) hown [] ⟨0, 9, 12, 33⟩ [] htb (fun z hz => absurd hz List.not_mem_nil) rfl (by decide) (hg _ cl_L_33) (va_Nw.use rfl (hE.2.2.2.2.2.2.1 "java/lang/IndexOutOfBoundsException" (by decide))) hce hcv hcl ?_
      refine lv_astore_n (lv' := [(3, .ref q9), (0, .ref aX), (1, .int x1), (2, .ref aO)]) hx hb dL_entryMinute_12 rfl hl (by decide) rfl (fun ls hl => ?_)
      refine lv_iconst (v := 1) hx hb dL_entryMinute_13 (by decide) ?_
      obtain rfl := Option.some.inj hf
      exact lm_iret (v := 1) hx hb hr hlocks hP hS dL_entryMinute_14 (Nat.le_of_ble_eq_true rfl) (Nat.le_of_ble_eq_true rfl)
    · have hf := ie ho hf
      cases hf
  have hf := it h0 hf
  refine lv_i2l (v := (Int32.toInt64 u1.2)) hx hb dL_entryMinute_7 rfl ?_
  obtain ⟨hi, hf⟩ := ck_o hf
  refine al_st (w2 := (W_X aX aB aBw aP aN aNd aH aQ vX ++ (W_N aN aG aU aR vN ++ (W_R E aR vR ++ (W_J E aO 1 (vp_updL vO (Int32.toNatClampNeg 0) (Int32.toInt64 u1.2))))))) hx hb hK hP hD hS 6 rfl hi rfl dL_entryMinute_8 (fun H locs hP hD hS => ?_)
  obtain ⟨vO_3, hv, hf⟩ := lt_o hf
  rw [← hv] at hP hD
  clear hv
  refine lv_goto (tgt := 15) hx hb dL_entryMinute_9 (by decide) ?_
  refine lv_iconst (v := 0) hx hb dL_entryMinute_15 (by decide) ?_
  obtain rfl := Option.some.inj hf
  exact lm_iret (v := 0) hx hb hr hlocks hP hS dL_entryMinute_16 (Nat.le_of_ble_eq_true rfl) (Nat.le_of_ble_eq_true rfl)
def F_L_entryGuest (vX : Nat → Int32) (vN : Nat → Int32) (vR : Nat → Nat → Int32) (vO : Nat → Int64) (x1 : Int32) : Option (Int32 × (Nat → Int64)) := (F_X8_entryGuest vX vN vR x1).bind (fun u1 => if u1.1 = 0 then (ck 0 1 (lt (vp_updL vO (Int32.toNatClampNeg 0) (Int32.toInt64 u1.2)) (fun vO_3 => (some (0, vO_3))))) else (if u1.1 = 4 then ((some (1, vO))) else (none)))
abbrev rm_L_entryGuest : Room := { frames := 8, cells := 1, slots := 6, locals := 132 }
set_option maxHeartbeats 4000000 in
set_option maxRecDepth 100000 in
theorem c_L_entryGuest (E : Ev) (l : Launch) (hst : l.stackTraces = false) (aX : Nat) (aB : Nat → Nat) (aBw : Nat → Nat) (aP : Nat) (aN : Nat) (aNd : Nat) (aH : Nat) (aQ : Nat) (aG : Nat → Nat) (aU : Nat → Nat) (aR : Nat → Nat) (aO : Nat) (vX : Nat → Int32) (vN : Nat → Int32) (vR : Nat → Nat → Int32) (vO : Nat → Int64) (x1 : Int32) (r : Int32 × (Nat → Int64)) (hf : F_L_entryGuest vX vN vR vO x1 = some r) : LM E l yL_entryGuest (.codeWith yL_entryGuest cL_entryGuest 4 (some .int) [(0, 9, 12, 33)] :: GA) rm_L_entryGuest [.ref aX, .int x1, .ref aO] (W_X aX aB aBw aP aN aNd aH aQ vX ++ (W_N aN aG aU aR vN ++ (W_R E aR vR ++ (W_J E aO 1 vO)))) (some (.int r.1)) (W_X aX aB aBw aP aN aNd aH aQ vX ++ (W_N aN aG aU aR vN ++ (W_R E aR vR ++ (W_J E aO 1 r.2)))) 1 := by
  refine LM.of (own := RL) rfl (by decide) (Nat.le_of_ble_eq_true rfl) ?_
  intro p e s m below meth c A ls hx hb hr hml hown hg hlocks hK hE hN hA htb hP hD hS hl
  have hl : lv_has ls 4 [(0, .ref aX), (1, .int x1), (2, .ref aO)] := hl
  unfold F_L_entryGuest at hf
  refine lv_aload_n hx hb dL_entryGuest_0 rfl (lv_at hl 2 rfl) ?_
  refine lv_iconst (v := 0) hx hb dL_entryGuest_1 (by decide) ?_
  refine lv_aload_n hx hb dL_entryGuest_2 rfl (lv_at hl 0 rfl) ?_
  refine lv_iload_n hx hb dL_entryGuest_3 rfl (lv_at hl 1 rfl) ?_
  obtain ⟨u1, hu1, hf⟩ := bn hf
  refine xm_V (As := [.int x1]) (rest := [.int 0, .ref aO]) (w2 := (W_X aX aB aBw aP aN aNd aH aQ vX ++ (W_N aN aG aU aR vN ++ (W_R E aR vR ++ (W_J E aO 1 vO))))) hx hb hml hown hg (c_X8_entryGuest E l hst aX aB aBw aP aN aNd aH aQ aG aU aR vX vN vR x1 u1 hu1) cy_X8_entryGuest ml_L_82 ⟨⟨rfl, rfl⟩, Nat.le_of_ble_eq_true rfl, Nat.le_of_ble_eq_true rfl⟩ hK hE hP hD hS hA [true, true, true, true, true, true] rfl rfl rfl 0 rfl rfl rfl hl.1 rfl (Nat.le_of_ble_eq_true rfl) dL_entryGuest_4 ⟨Nat.le_of_ble_eq_true rfl, Nat.le_of_ble_eq_true rfl⟩ [.int u1.2, .int 0, .ref aO] rfl (fun h0 H locs hP hD hS => ?_) (fun h0 H locs ce q9 hP hD hS hce hcv hcl => ?_)
  rotate_left
  · have hf := ie (Nat.pos_iff_ne_zero.mp h0) hf
    by_cases ho : u1.1 = 4
    · have hf := it ho hf
      rw [ho] at hcl
      refine vx_catch (E := XK 4) hown [] ⟨0, 9, 12, 33⟩ [] htb (fun z hz => absurd hz List.not_mem_nil) rfl (by decide) (hg _ cl_L_33) (va_Nw.use rfl (hE.2.2.2.2.2.2.1 "java/lang/IndexOutOfBoundsException" (by decide))) hce hcv hcl ?_
      refine lv_astore_n (lv' := [(3, .ref q9), (0, .ref aX), (1, .int x1), (2, .ref aO)]) hx hb dL_entryGuest_12 rfl hl (by decide) rfl (fun ls hl => ?_)
      refine lv_iconst (v := 1) hx hb dL_entryGuest_13 (by decide) ?_
      obtain rfl := Option.some.inj hf
      exact lm_iret (v := 1) hx hb hr hlocks hP hS dL_entryGuest_14 (Nat.le_of_ble_eq_true rfl) (Nat.le_of_ble_eq_true rfl)
    · have hf := ie ho hf
      cases hf
  have hf := it h0 hf
  refine lv_i2l (v := (Int32.toInt64 u1.2)) hx hb dL_entryGuest_7 rfl ?_
  obtain ⟨hi, hf⟩ := ck_o hf
  refine al_st (w2 := (W_X aX aB aBw aP aN aNd aH aQ vX ++ (W_N aN aG aU aR vN ++ (W_R E aR vR ++ (W_J E aO 1 (vp_updL vO (Int32.toNatClampNeg 0) (Int32.toInt64 u1.2))))))) hx hb hK hP hD hS 6 rfl hi rfl dL_entryGuest_8 (fun H locs hP hD hS => ?_)
  obtain ⟨vO_3, hv, hf⟩ := lt_o hf
  rw [← hv] at hP hD
  clear hv
  refine lv_goto (tgt := 15) hx hb dL_entryGuest_9 (by decide) ?_
  refine lv_iconst (v := 0) hx hb dL_entryGuest_15 (by decide) ?_
  obtain rfl := Option.some.inj hf
  exact lm_iret (v := 0) hx hb hr hlocks hP hS dL_entryGuest_16 (Nat.le_of_ble_eq_true rfl) (Nat.le_of_ble_eq_true rfl)
def F_L_isLeaving (vX : Nat → Int32) (vN : Nat → Int32) (vR : Nat → Nat → Int32) (vO : Nat → Int64) (x1 : Int32) : Option (Int32 × (Nat → Int64)) := (F_X8_isLeaving vX vN vR x1).bind (fun u1 => if u1.1 = 0 then ((if u1.2 = 0 then ck 0 1 (lt (vp_updL vO (Int32.toNatClampNeg 0) 0) (fun vO_5 => (some (0, vO_5)))) else ck 0 1 (lt (vp_updL vO (Int32.toNatClampNeg 0) 1) (fun vO_6 => (some (0, vO_6)))))) else (if u1.1 = 4 then ((some (1, vO))) else (none)))
abbrev rm_L_isLeaving : Room := { frames := 8, cells := 1, slots := 6, locals := 132 }
set_option maxHeartbeats 4000000 in
set_option maxRecDepth 100000 in
theorem c_L_isLeaving (E : Ev) (l : Launch) (hst : l.stackTraces = false) (aX : Nat) (aB : Nat → Nat) (aBw : Nat → Nat) (aP : Nat) (aN : Nat) (aNd : Nat) (aH : Nat) (aQ : Nat) (aG : Nat → Nat) (aU : Nat → Nat) (aR : Nat → Nat) (aO : Nat) (vX : Nat → Int32) (vN : Nat → Int32) (vR : Nat → Nat → Int32) (vO : Nat → Int64) (x1 : Int32) (r : Int32 × (Nat → Int64)) (hf : F_L_isLeaving vX vN vR vO x1 = some r) : LM E l yL_isLeaving (.codeWith yL_isLeaving cL_isLeaving 4 (some .int) [(0, 16, 19, 33)] :: GA) rm_L_isLeaving [.ref aX, .int x1, .ref aO] (W_X aX aB aBw aP aN aNd aH aQ vX ++ (W_N aN aG aU aR vN ++ (W_R E aR vR ++ (W_J E aO 1 vO)))) (some (.int r.1)) (W_X aX aB aBw aP aN aNd aH aQ vX ++ (W_N aN aG aU aR vN ++ (W_R E aR vR ++ (W_J E aO 1 r.2)))) 1 := by
  refine LM.of (own := RL) rfl (by decide) (Nat.le_of_ble_eq_true rfl) ?_
  intro p e s m below meth c A ls hx hb hr hml hown hg hlocks hK hE hN hA htb hP hD hS hl
  have hl : lv_has ls 4 [(0, .ref aX), (1, .int x1), (2, .ref aO)] := hl
  unfold F_L_isLeaving at hf
  refine lv_aload_n hx hb dL_isLeaving_0 rfl (lv_at hl 2 rfl) ?_
  refine lv_iconst (v := 0) hx hb dL_isLeaving_1 (by decide) ?_
  refine lv_aload_n hx hb dL_isLeaving_2 rfl (lv_at hl 0 rfl) ?_
  refine lv_iload_n hx hb dL_isLeaving_3 rfl (lv_at hl 1 rfl) ?_
  obtain ⟨u1, hu1, hf⟩ := bn hf
  refine xm_V (As := [.int x1]) (rest := [.int 0, .ref aO]) (w2 := (W_X aX aB aBw aP aN aNd aH aQ vX ++ (W_N aN aG aU aR vN ++ (W_R E aR vR ++ (W_J E aO 1 vO))))) hx hb hml hown hg (c_X8_isLeaving E l hst aX aB aBw aP aN aNd aH aQ aG aU aR vX vN vR x1 u1 hu1) cy_X8_isLeaving ml_L_85 ⟨⟨rfl, rfl⟩, Nat.le_of_ble_eq_true rfl, Nat.le_of_ble_eq_true rfl⟩ hK hE hP hD hS hA [true, true, true, true, true, true] rfl rfl rfl 0 rfl rfl rfl hl.1 rfl (Nat.le_of_ble_eq_true rfl) dL_isLeaving_4 ⟨Nat.le_of_ble_eq_true rfl, Nat.le_of_ble_eq_true rfl⟩ [.int u1.2, .int 0, .ref aO] rfl (fun h0 H locs hP hD hS => ?_) (fun h0 H locs ce q9 hP hD hS hce hcv hcl => ?_)
  rotate_left
  · have hf := ie (Nat.pos_iff_ne_zero.mp h0) hf
    by_cases ho : u1.1 = 4
    · have hf := it ho hf
      rw [ho] at hcl
      refine vx_catch (E := XK 4) hown [] ⟨0, 16, 19, 33⟩ [] htb (fun z hz => absurd hz List.not_mem_nil) rfl (by decide) (hg _ cl_L_33) (va_Nw.use rfl (hE.2.2.2.2.2.2.1 "java/lang/IndexOutOfBoundsException" (by decide))) hce hcv hcl ?_
      refine lv_astore_n (lv' := [(3, .ref q9), (0, .ref aX), (1, .int x1), (2, .ref aO)]) hx hb dL_isLeaving_19 rfl hl (by decide) rfl (fun ls hl => ?_)
      refine lv_iconst (v := 1) hx hb dL_isLeaving_20 (by decide) ?_
      obtain rfl := Option.some.inj hf
      exact lm_iret (v := 1) hx hb hr hlocks hP hS dL_isLeaving_21 (Nat.le_of_ble_eq_true rfl) (Nat.le_of_ble_eq_true rfl)
    · have hf := ie ho hf
      cases hf
  have hf := it h0 hf
  refine lv_if_eq (tgt := 14) hx hb dL_isLeaving_7 (by decide) (fun cq => ?_) (fun cq => ?_)
  · have hf := it cq hf
    refine lv_lconst (v := 0) hx hb dL_isLeaving_14 rfl ?_
    obtain ⟨hi, hf⟩ := ck_o hf
    refine al_st (w2 := (W_X aX aB aBw aP aN aNd aH aQ vX ++ (W_N aN aG aU aR vN ++ (W_R E aR vR ++ (W_J E aO 1 (vp_updL vO (Int32.toNatClampNeg 0) 0)))))) hx hb hK hP hD hS 6 rfl hi rfl dL_isLeaving_15 (fun H locs hP hD hS => ?_)
    obtain ⟨vO_5, hv, hf⟩ := lt_o hf
    rw [← hv] at hP hD
    clear hv
    refine lv_goto (tgt := 22) hx hb dL_isLeaving_16 (by decide) ?_
    refine lv_iconst (v := 0) hx hb dL_isLeaving_22 (by decide) ?_
    obtain rfl := Option.some.inj hf
    exact lm_iret (v := 0) hx hb hr hlocks hP hS dL_isLeaving_23 (Nat.le_of_ble_eq_true rfl) (Nat.le_of_ble_eq_true rfl)
  · have hf := ie cq hf
    refine lv_lconst (v := 1) hx hb dL_isLeaving_10 rfl ?_
    refine lv_goto (tgt := 15) hx hb dL_isLeaving_11 (by decide) ?_
    obtain ⟨hi, hf⟩ := ck_o hf
    refine al_st (w2 := (W_X aX aB aBw aP aN aNd aH aQ vX ++ (W_N aN aG aU aR vN ++ (W_R E aR vR ++ (W_J E aO 1 (vp_updL vO (Int32.toNatClampNeg 0) 1)))))) hx hb hK hP hD hS 6 rfl hi rfl dL_isLeaving_15 (fun H locs hP hD hS => ?_)
    obtain ⟨vO_6, hv, hf⟩ := lt_o hf
    rw [← hv] at hP hD
    clear hv
    refine lv_goto (tgt := 22) hx hb dL_isLeaving_16 (by decide) ?_
    refine lv_iconst (v := 0) hx hb dL_isLeaving_22 (by decide) ?_
    obtain rfl := Option.some.inj hf
    exact lm_iret (v := 0) hx hb hr hlocks hP hS dL_isLeaving_23 (Nat.le_of_ble_eq_true rfl) (Nat.le_of_ble_eq_true rfl)
def F_L_wasOut (vX : Nat → Int32) (vN : Nat → Int32) (vG : Nat → Nat → Int32) (vR : Nat → Nat → Int32) (vO : Nat → Int64) (x1 : Int32) (x2 : Int32) : Option (Int32 × (Nat → Int64)) := (F_X8_wasOut vX vN vG vR x1 x2).bind (fun u1 => if u1.1 = 0 then ((if u1.2 = 0 then ck 0 1 (lt (vp_updL vO (Int32.toNatClampNeg 0) 0) (fun vO_5 => (some (0, vO_5)))) else ck 0 1 (lt (vp_updL vO (Int32.toNatClampNeg 0) 1) (fun vO_6 => (some (0, vO_6)))))) else (if u1.1 = 4 then ((some (1, vO))) else (if u1.1 = 2 then ((some (2, vO))) else (none))))
abbrev rm_L_wasOut : Room := { frames := 8, cells := 2, slots := 12, locals := 134 }
set_option maxHeartbeats 4000000 in
set_option maxRecDepth 100000 in
theorem c_L_wasOut (E : Ev) (l : Launch) (hst : l.stackTraces = false) (aX : Nat) (aB : Nat → Nat) (aBw : Nat → Nat) (aP : Nat) (aN : Nat) (aNd : Nat) (aH : Nat) (aQ : Nat) (aG : Nat → Nat) (aU : Nat → Nat) (aR : Nat → Nat) (aO : Nat) (vX : Nat → Int32) (vN : Nat → Int32) (vG : Nat → Nat → Int32) (vR : Nat → Nat → Int32) (vO : Nat → Int64) (x1 : Int32) (x2 : Int32) (r : Int32 × (Nat → Int64)) (hf : F_L_wasOut vX vN vG vR vO x1 x2 = some r) : LM E l yL_wasOut (.codeWith yL_wasOut cL_wasOut 5 (some .int) [(0, 17, 20, 33), (0, 17, 24, 19)] :: GA) rm_L_wasOut [.ref aX, .int x1, .int x2, .ref aO] (W_X aX aB aBw aP aN aNd aH aQ vX ++ (W_N aN aG aU aR vN ++ (W_G E aG vG ++ (W_R E aR vR ++ (W_J E aO 1 vO))))) (some (.int r.1)) (W_X aX aB aBw aP aN aNd aH aQ vX ++ (W_N aN aG aU aR vN ++ (W_G E aG vG ++ (W_R E aR vR ++ (W_J E aO 1 r.2))))) 2 := by
  refine LM.of (own := RL) rfl (by decide) (Nat.le_of_ble_eq_true rfl) ?_
  intro p e s m below meth c A ls hx hb hr hml hown hg hlocks hK hE hN hA htb hP hD hS hl
  have hl : lv_has ls 5 [(0, .ref aX), (1, .int x1), (2, .int x2), (3, .ref aO)] := hl
  unfold F_L_wasOut at hf
  refine lv_aload_n hx hb dL_wasOut_0 rfl (lv_at hl 3 rfl) ?_
  refine lv_iconst (v := 0) hx hb dL_wasOut_1 (by decide) ?_
  refine lv_aload_n hx hb dL_wasOut_2 rfl (lv_at hl 0 rfl) ?_
  refine lv_iload_n hx hb dL_wasOut_3 rfl (lv_at hl 1 rfl) ?_
  refine lv_iload_n hx hb dL_wasOut_4 rfl (lv_at hl 2 rfl) ?_
  obtain ⟨u1, hu1, hf⟩ := bn hf
  refine xm_V (As := [.int x1, .int x2]) (rest := [.int 0, .ref aO]) (w2 := (W_X aX aB aBw aP aN aNd aH aQ vX ++ (W_N aN aG aU aR vN ++ (W_G E aG vG ++ (W_R E aR vR ++ (W_J E aO 1 vO)))))) hx hb hml hown hg (c_X8_wasOut E l hst aX aB aBw aP aN aNd aH aQ aG aU aR vX vN vG vR x1 x2 u1 hu1) cy_X8_wasOut ml_L_88 ⟨⟨rfl, rfl⟩, Nat.le_of_ble_eq_true rfl, Nat.le_of_ble_eq_true rfl⟩ hK hE hP hD hS hA [true, true, true, true, true, true, true, true, true, true, true, true, true, true, true] rfl rfl rfl 0 rfl rfl rfl hl.1 rfl (Nat.le_of_ble_eq_true rfl) dL_wasOut_5 ⟨Nat.le_of_ble_eq_true rfl, Nat.le_of_ble_eq_true rfl⟩ [.int u1.2, .int 0, .ref aO] rfl (fun h0 H locs hP hD hS => ?_) (fun h0 H locs ce q9 hP hD hS hce hcv hcl => ?_)
  rotate_left
  · have hf := ie (Nat.pos_iff_ne_zero.mp h0) hf
    by_cases ho : u1.1 = 4
    · have hf := it ho hf
      rw [ho] at hcl
      refine vx_catch (E := XK 4) hown [] ⟨0, 17, 20, 33⟩ [⟨0, 17, 24, 19⟩] htb (fun z hz => absurd hz List.not_mem_nil) rfl (by decide) (hg _ cl_L_33) (va_Nw.use rfl (hE.2.2.2.2.2.2.1 "java/lang/IndexOutOfBoundsException" (by decide))) hce hcv hcl ?_
      refine lv_astore (lv' := [(4, .ref q9), (0, .ref aX), (1, .int x1), (2, .int x2), (3, .ref aO)]) hx hb dL_wasOut_20 hl (by decide) rfl (fun ls hl => ?_)
      refine lv_iconst (v := 1) hx hb dL_wasOut_22 (by decide) ?_
      obtain rfl := Option.some.inj hf
      exact lm_iret (v := 1) hx hb hr hlocks hP hS dL_wasOut_23 (Nat.le_of_ble_eq_true rfl) (Nat.le_of_ble_eq_true rfl)
    · have hf := ie ho hf
      by_cases ho : u1.1 = 2
      · have hf := it ho hf
        rw [ho] at hcl
        refine vx_catch (E := XK 2) hown [⟨0, 17, 20, 33⟩] ⟨0, 17, 24, 19⟩ [] htb (fun z hz => by
      simp only [List.mem_cons, List.not_mem_nil, or_false] at hz
      rcases hz with rfl
      · exact Or.inr ⟨(by decide), _, hg _ cl_L_33, hN ("java/lang/IllegalArgumentException", "java/lang/IndexOutOfBoundsException") (by decide)⟩) rfl (by decide) (hg _ cl_L_19) (va_Nw.use rfl (hE.2.2.2.2.2.2.1 "java/lang/IllegalArgumentException" (by decide))) hce hcv hcl ?_
        refine lv_astore (lv' := [(4, .ref q9), (0, .ref aX), (1, .int x1), (2, .int x2), (3, .ref aO)]) hx hb dL_wasOut_24 hl (by decide) rfl (fun ls hl => ?_)
        refine lv_iconst (v := 2) hx hb dL_wasOut_26 (by decide) ?_
        obtain rfl := Option.some.inj hf
        exact lm_iret (v := 2) hx hb hr hlocks hP hS dL_wasOut_27 (Nat.le_of_ble_eq_true rfl) (Nat.le_of_ble_eq_true rfl)
      · have hf := ie ho hf
        cases hf
  have hf := it h0 hf
  refine lv_if_eq (tgt := 15) hx hb dL_wasOut_8 (by decide) (fun cq => ?_) (fun cq => ?_)
  · have hf := it cq hf
    refine lv_lconst (v := 0) hx hb dL_wasOut_15 rfl ?_
    obtain ⟨hi, hf⟩ := ck_o hf
    refine al_st (w2 := (W_X aX aB aBw aP aN aNd aH aQ vX ++ (W_N aN aG aU aR vN ++ (W_G E aG vG ++ (W_R E aR vR ++ (W_J E aO 1 (vp_updL vO (Int32.toNatClampNeg 0) 0))))))) hx hb hK hP hD hS 15 rfl hi rfl dL_wasOut_16 (fun H locs hP hD hS => ?_)
    obtain ⟨vO_5, hv, hf⟩ := lt_o hf
    rw [← hv] at hP hD
    clear hv
    refine lv_goto (tgt := 28) hx hb dL_wasOut_17 (by decide) ?_
    refine lv_iconst (v := 0) hx hb dL_wasOut_28 (by decide) ?_
    obtain rfl := Option.some.inj hf
    exact lm_iret (v := 0) hx hb hr hlocks hP hS dL_wasOut_29 (Nat.le_of_ble_eq_true rfl) (Nat.le_of_ble_eq_true rfl)
  · have hf := ie cq hf
    refine lv_lconst (v := 1) hx hb dL_wasOut_11 rfl ?_
    refine lv_goto (tgt := 16) hx hb dL_wasOut_12 (by decide) ?_
    obtain ⟨hi, hf⟩ := ck_o hf
    refine al_st (w2 := (W_X aX aB aBw aP aN aNd aH aQ vX ++ (W_N aN aG aU aR vN ++ (W_G E aG vG ++ (W_R E aR vR ++ (W_J E aO 1 (vp_updL vO (Int32.toNatClampNeg 0) 1))))))) hx hb hK hP hD hS 15 rfl hi rfl dL_wasOut_16 (fun H locs hP hD hS => ?_)
    obtain ⟨vO_6, hv, hf⟩ := lt_o hf
    rw [← hv] at hP hD
    clear hv
    refine lv_goto (tgt := 28) hx hb dL_wasOut_17 (by decide) ?_
    refine lv_iconst (v := 0) hx hb dL_wasOut_28 (by decide) ?_
    obtain rfl := Option.some.inj hf
    exact lm_iret (v := 0) hx hb hr hlocks hP hS dL_wasOut_29 (Nat.le_of_ble_eq_true rfl) (Nat.le_of_ble_eq_true rfl)
def F_L_hasAlibi (vX : Nat → Int32) (vN : Nat → Int32) (vG : Nat → Nat → Int32) (vR : Nat → Nat → Int32) (vO : Nat → Int64) (x1 : Int32) (x2 : Int32) (x3 : Int32) : Option (Int32 × (Nat → Int64)) := (F_X8_hasAlibi vX vN vG vR x1 x2 x3).bind (fun u1 => if u1.1 = 0 then ((if u1.2 = 0 then ck 0 1 (lt (vp_updL vO (Int32.toNatClampNeg 0) 0) (fun vO_5 => (some (0, vO_5)))) else ck 0 1 (lt (vp_updL vO (Int32.toNatClampNeg 0) 1) (fun vO_6 => (some (0, vO_6)))))) else (if u1.1 = 4 then ((some (1, vO))) else (if u1.1 = 2 then ((some (2, vO))) else (none))))
abbrev rm_L_hasAlibi : Room := { frames := 8, cells := 2, slots := 12, locals := 135 }
set_option maxHeartbeats 4000000 in
set_option maxRecDepth 100000 in
theorem c_L_hasAlibi (E : Ev) (l : Launch) (hst : l.stackTraces = false) (aX : Nat) (aB : Nat → Nat) (aBw : Nat → Nat) (aP : Nat) (aN : Nat) (aNd : Nat) (aH : Nat) (aQ : Nat) (aG : Nat → Nat) (aU : Nat → Nat) (aR : Nat → Nat) (aO : Nat) (vX : Nat → Int32) (vN : Nat → Int32) (vG : Nat → Nat → Int32) (vR : Nat → Nat → Int32) (vO : Nat → Int64) (x1 : Int32) (x2 : Int32) (x3 : Int32) (r : Int32 × (Nat → Int64)) (hf : F_L_hasAlibi vX vN vG vR vO x1 x2 x3 = some r) : LM E l yL_hasAlibi (.codeWith yL_hasAlibi cL_hasAlibi 6 (some .int) [(0, 19, 22, 33), (0, 19, 26, 19)] :: GA) rm_L_hasAlibi [.ref aX, .int x1, .int x2, .int x3, .ref aO] (W_X aX aB aBw aP aN aNd aH aQ vX ++ (W_N aN aG aU aR vN ++ (W_G E aG vG ++ (W_R E aR vR ++ (W_J E aO 1 vO))))) (some (.int r.1)) (W_X aX aB aBw aP aN aNd aH aQ vX ++ (W_N aN aG aU aR vN ++ (W_G E aG vG ++ (W_R E aR vR ++ (W_J E aO 1 r.2))))) 2 := by
  refine LM.of (own := RL) rfl (by decide) (Nat.le_of_ble_eq_true rfl) ?_
  intro p e s m below meth c A ls hx hb hr hml hown hg hlocks hK hE hN hA htb hP hD hS hl
  have hl : lv_has ls 6 [(0, .ref aX), (1, .int x1), (2, .int x2), (3, .int x3), (4, .ref aO)] := hl
  unfold F_L_hasAlibi at hf
  refine lv_aload hx hb dL_hasAlibi_0 (lv_at hl 4 rfl) ?_
  refine lv_iconst (v := 0) hx hb dL_hasAlibi_2 (by decide) ?_
  refine lv_aload_n hx hb dL_hasAlibi_3 rfl (lv_at hl 0 rfl) ?_
  refine lv_iload_n hx hb dL_hasAlibi_4 rfl (lv_at hl 1 rfl) ?_
  refine lv_iload_n hx hb dL_hasAlibi_5 rfl (lv_at hl 2 rfl) ?_
  refine lv_iload_n hx hb dL_hasAlibi_6 rfl (lv_at hl 3 rfl) ?_
  obtain ⟨u1, hu1, hf⟩ := bn hf
  refine xm_V (As := [.int x1, .int x2, .int x3]) (rest := [.int 0, .ref aO]) (w2 := (W_X aX aB aBw aP aN aNd aH aQ vX ++ (W_N aN aG aU aR vN ++ (W_G E aG vG ++ (W_R E aR vR ++ (W_J E aO 1 vO)))))) hx hb hml hown hg (c_X8_hasAlibi E l hst aX aB aBw aP aN aNd aH aQ aG aU aR vX vN vG vR x1 x2 x3 u1 hu1) cy_X8_hasAlibi ml_L_92 ⟨⟨rfl, rfl⟩, Nat.le_of_ble_eq_true rfl, Nat.le_of_ble_eq_true rfl⟩ hK hE hP hD hS hA [true, true, true, true, true, true, true, true, true, true, true, true, true, true, true] rfl rfl rfl 0 rfl rfl rfl hl.1 rfl (Nat.le_of_ble_eq_true rfl) dL_hasAlibi_7 ⟨Nat.le_of_ble_eq_true rfl, Nat.le_of_ble_eq_true rfl⟩ [.int u1.2, .int 0, .ref aO] rfl (fun h0 H locs hP hD hS => ?_) (fun h0 H locs ce q9 hP hD hS hce hcv hcl => ?_)
  rotate_left
  · have hf := ie (Nat.pos_iff_ne_zero.mp h0) hf
    by_cases ho : u1.1 = 4
    · have hf := it ho hf
      rw [ho] at hcl
      refine vx_catch (E := XK 4) hown [] ⟨0, 19, 22, 33⟩ [⟨0, 19, 26, 19⟩] htb (fun z hz => absurd hz List.not_mem_nil) rfl (by decide) (hg _ cl_L_33) (va_Nw.use rfl (hE.2.2.2.2.2.2.1 "java/lang/IndexOutOfBoundsException" (by decide))) hce hcv hcl ?_
      refine lv_astore (lv' := [(5, .ref q9), (0, .ref aX), (1, .int x1), (2, .int x2), (3, .int x3), (4, .ref aO)]) hx hb dL_hasAlibi_22 hl (by decide) rfl (fun ls hl => ?_)
      refine lv_iconst (v := 1) hx hb dL_hasAlibi_24 (by decide) ?_
      obtain rfl := Option.some.inj hf
      exact lm_iret (v := 1) hx hb hr hlocks hP hS dL_hasAlibi_25 (Nat.le_of_ble_eq_true rfl) (Nat.le_of_ble_eq_true rfl)
    · have hf := ie ho hf
      by_cases ho : u1.1 = 2
      · have hf := it ho hf
        rw [ho] at hcl
        refine vx_catch (E := XK 2) hown [⟨0, 19, 22, 33⟩] ⟨0, 19, 26, 19⟩ [] htb (fun z hz => by
      simp only [List.mem_cons, List.not_mem_nil, or_false] at hz
      rcases hz with rfl
      · exact Or.inr ⟨(by decide), _, hg _ cl_L_33, hN ("java/lang/IllegalArgumentException", "java/lang/IndexOutOfBoundsException") (by decide)⟩) rfl (by decide) (hg _ cl_L_19) (va_Nw.use rfl (hE.2.2.2.2.2.2.1 "java/lang/IllegalArgumentException" (by decide))) hce hcv hcl ?_
        refine lv_astore (lv' := [(5, .ref q9), (0, .ref aX), (1, .int x1), (2, .int x2), (3, .int x3), (4, .ref aO)]) hx hb dL_hasAlibi_26 hl (by decide) rfl (fun ls hl => ?_)
        refine lv_iconst (v := 2) hx hb dL_hasAlibi_28 (by decide) ?_
        obtain rfl := Option.some.inj hf
        exact lm_iret (v := 2) hx hb hr hlocks hP hS dL_hasAlibi_29 (Nat.le_of_ble_eq_true rfl) (Nat.le_of_ble_eq_true rfl)
      · have hf := ie ho hf
        cases hf
  have hf := it h0 hf
  refine lv_if_eq (tgt := 17) hx hb dL_hasAlibi_10 (by decide) (fun cq => ?_) (fun cq => ?_)
  · have hf := it cq hf
    refine lv_lconst (v := 0) hx hb dL_hasAlibi_17 rfl ?_
    obtain ⟨hi, hf⟩ := ck_o hf
    refine al_st (w2 := (W_X aX aB aBw aP aN aNd aH aQ vX ++ (W_N aN aG aU aR vN ++ (W_G E aG vG ++ (W_R E aR vR ++ (W_J E aO 1 (vp_updL vO (Int32.toNatClampNeg 0) 0))))))) hx hb hK hP hD hS 15 rfl hi rfl dL_hasAlibi_18 (fun H locs hP hD hS => ?_)
    obtain ⟨vO_5, hv, hf⟩ := lt_o hf
    rw [← hv] at hP hD
    clear hv
    refine lv_goto (tgt := 30) hx hb dL_hasAlibi_19 (by decide) ?_
    refine lv_iconst (v := 0) hx hb dL_hasAlibi_30 (by decide) ?_
    obtain rfl := Option.some.inj hf
    exact lm_iret (v := 0) hx hb hr hlocks hP hS dL_hasAlibi_31 (Nat.le_of_ble_eq_true rfl) (Nat.le_of_ble_eq_true rfl)
  · have hf := ie cq hf
    refine lv_lconst (v := 1) hx hb dL_hasAlibi_13 rfl ?_
    refine lv_goto (tgt := 18) hx hb dL_hasAlibi_14 (by decide) ?_
    obtain ⟨hi, hf⟩ := ck_o hf
    refine al_st (w2 := (W_X aX aB aBw aP aN aNd aH aQ vX ++ (W_N aN aG aU aR vN ++ (W_G E aG vG ++ (W_R E aR vR ++ (W_J E aO 1 (vp_updL vO (Int32.toNatClampNeg 0) 1))))))) hx hb hK hP hD hS 15 rfl hi rfl dL_hasAlibi_18 (fun H locs hP hD hS => ?_)
    obtain ⟨vO_6, hv, hf⟩ := lt_o hf
    rw [← hv] at hP hD
    clear hv
    refine lv_goto (tgt := 30) hx hb dL_hasAlibi_19 (by decide) ?_
    refine lv_iconst (v := 0) hx hb dL_hasAlibi_30 (by decide) ?_
    obtain rfl := Option.some.inj hf
    exact lm_iret (v := 0) hx hb hr hlocks hP hS dL_hasAlibi_31 (Nat.le_of_ble_eq_true rfl) (Nat.le_of_ble_eq_true rfl)
def F_L_suspects (vX : Nat → Int32) (vN : Nat → Int32) (vG : Nat → Nat → Int32) (vR : Nat → Nat → Int32) (vO : Nat → Int64) (x1 : Int32) (x2 : Int32) : Option (Int32 × (Nat → Int64)) := (F_X8_suspects vX vN vG vR x1 x2).bind (fun u1 => if u1.1 = 0 then (ck 0 1 (lt (vp_updL vO (Int32.toNatClampNeg 0) (Int32.toInt64 u1.2)) (fun vO_3 => (some (0, vO_3))))) else (if u1.1 = 2 then ((some (1, vO))) else (none)))
abbrev rm_L_suspects : Room := { frames := 8, cells := 1, slots := 6, locals := 134 }
set_option maxHeartbeats 4000000 in
set_option maxRecDepth 100000 in
theorem c_L_suspects (E : Ev) (l : Launch) (hst : l.stackTraces = false) (aX : Nat) (aB : Nat → Nat) (aBw : Nat → Nat) (aP : Nat) (aN : Nat) (aNd : Nat) (aH : Nat) (aQ : Nat) (aG : Nat → Nat) (aU : Nat → Nat) (aR : Nat → Nat) (aO : Nat) (vX : Nat → Int32) (vN : Nat → Int32) (vG : Nat → Nat → Int32) (vR : Nat → Nat → Int32) (vO : Nat → Int64) (x1 : Int32) (x2 : Int32) (r : Int32 × (Nat → Int64)) (hf : F_L_suspects vX vN vG vR vO x1 x2 = some r) : LM E l yL_suspects (.codeWith yL_suspects cL_suspects 5 (some .int) [(0, 10, 13, 19)] :: GA) rm_L_suspects [.ref aX, .int x1, .int x2, .ref aO] (W_X aX aB aBw aP aN aNd aH aQ vX ++ (W_N aN aG aU aR vN ++ (W_G E aG vG ++ (W_R E aR vR ++ (W_J E aO 1 vO))))) (some (.int r.1)) (W_X aX aB aBw aP aN aNd aH aQ vX ++ (W_N aN aG aU aR vN ++ (W_G E aG vG ++ (W_R E aR vR ++ (W_J E aO 1 r.2))))) 1 := by
  refine LM.of (own := RL) rfl (by decide) (Nat.le_of_ble_eq_true rfl) ?_
  intro p e s m below meth c A ls hx hb hr hml hown hg hlocks hK hE hN hA htb hP hD hS hl
  have hl : lv_has ls 5 [(0, .ref aX), (1, .int x1), (2, .int x2), (3, .ref aO)] := hl
  unfold F_L_suspects at hf
  refine lv_aload_n hx hb dL_suspects_0 rfl (lv_at hl 3 rfl) ?_
  refine lv_iconst (v := 0) hx hb dL_suspects_1 (by decide) ?_
  refine lv_aload_n hx hb dL_suspects_2 rfl (lv_at hl 0 rfl) ?_
  refine lv_iload_n hx hb dL_suspects_3 rfl (lv_at hl 1 rfl) ?_
  refine lv_iload_n hx hb dL_suspects_4 rfl (lv_at hl 2 rfl) ?_
  obtain ⟨u1, hu1, hf⟩ := bn hf
  refine xm_V (As := [.int x1, .int x2]) (rest := [.int 0, .ref aO]) (w2 := (W_X aX aB aBw aP aN aNd aH aQ vX ++ (W_N aN aG aU aR vN ++ (W_G E aG vG ++ (W_R E aR vR ++ (W_J E aO 1 vO)))))) hx hb hml hown hg (c_X8_suspects E l hst aX aB aBw aP aN aNd aH aQ aG aU aR vX vN vG vR x1 x2 u1 hu1) cy_X8_suspects ml_L_96 ⟨⟨rfl, rfl⟩, Nat.le_of_ble_eq_true rfl, Nat.le_of_ble_eq_true rfl⟩ hK hE hP hD hS hA [true, true, true, true, true, true, true, true, true, true, true, true, true, true, true] rfl rfl rfl 0 rfl rfl rfl hl.1 rfl (Nat.le_of_ble_eq_true rfl) dL_suspects_5 ⟨Nat.le_of_ble_eq_true rfl, Nat.le_of_ble_eq_true rfl⟩ [.int u1.2, .int 0, .ref aO] rfl (fun h0 H locs hP hD hS => ?_) (fun h0 H locs ce q9 hP hD hS hce hcv hcl => ?_)
  rotate_left
  · have hf := ie (Nat.pos_iff_ne_zero.mp h0) hf
    by_cases ho : u1.1 = 2
    · have hf := it ho hf
      rw [ho] at hcl
      refine vx_catch (E := XK 2) hown [] ⟨0, 10, 13, 19⟩ [] htb (fun z hz => absurd hz List.not_mem_nil) rfl (by decide) (hg _ cl_L_19) (va_Nw.use rfl (hE.2.2.2.2.2.2.1 "java/lang/IllegalArgumentException" (by decide))) hce hcv hcl ?_
      refine lv_astore (lv' := [(4, .ref q9), (0, .ref aX), (1, .int x1), (2, .int x2), (3, .ref aO)]) hx hb dL_suspects_13 hl (by decide) rfl (fun ls hl => ?_)
      refine lv_iconst (v := 1) hx hb dL_suspects_15 (by decide) ?_
      obtain rfl := Option.some.inj hf
      exact lm_iret (v := 1) hx hb hr hlocks hP hS dL_suspects_16 (Nat.le_of_ble_eq_true rfl) (Nat.le_of_ble_eq_true rfl)
    · have hf := ie ho hf
      cases hf
  have hf := it h0 hf
  refine lv_i2l (v := (Int32.toInt64 u1.2)) hx hb dL_suspects_8 rfl ?_
  obtain ⟨hi, hf⟩ := ck_o hf
  refine al_st (w2 := (W_X aX aB aBw aP aN aNd aH aQ vX ++ (W_N aN aG aU aR vN ++ (W_G E aG vG ++ (W_R E aR vR ++ (W_J E aO 1 (vp_updL vO (Int32.toNatClampNeg 0) (Int32.toInt64 u1.2)))))))) hx hb hK hP hD hS 15 rfl hi rfl dL_suspects_9 (fun H locs hP hD hS => ?_)
  obtain ⟨vO_3, hv, hf⟩ := lt_o hf
  rw [← hv] at hP hD
  clear hv
  refine lv_goto (tgt := 17) hx hb dL_suspects_10 (by decide) ?_
  refine lv_iconst (v := 0) hx hb dL_suspects_17 (by decide) ?_
  obtain rfl := Option.some.inj hf
  exact lm_iret (v := 0) hx hb hr hlocks hP hS dL_suspects_18 (Nat.le_of_ble_eq_true rfl) (Nat.le_of_ble_eq_true rfl)
def F_L_culprit (vX : Nat → Int32) (vN : Nat → Int32) (vG : Nat → Nat → Int32) (vR : Nat → Nat → Int32) (vO : Nat → Int64) (x1 : Int32) (x2 : Int32) : Option (Int32 × (Nat → Int64)) := (F_X8_culprit vX vN vG vR x1 x2).bind (fun u1 => if u1.1 = 0 then (ck 0 1 (lt (vp_updL vO (Int32.toNatClampNeg 0) (Int32.toInt64 u1.2)) (fun vO_3 => (some (0, vO_3))))) else (if u1.1 = 2 then ((some (1, vO))) else (if u1.1 = 3 then ((some (2, vO))) else (none))))
abbrev rm_L_culprit : Room := { frames := 8, cells := 2, slots := 12, locals := 134 }
set_option maxHeartbeats 4000000 in
set_option maxRecDepth 100000 in
theorem c_L_culprit (E : Ev) (l : Launch) (hst : l.stackTraces = false) (aX : Nat) (aB : Nat → Nat) (aBw : Nat → Nat) (aP : Nat) (aN : Nat) (aNd : Nat) (aH : Nat) (aQ : Nat) (aG : Nat → Nat) (aU : Nat → Nat) (aR : Nat → Nat) (aO : Nat) (vX : Nat → Int32) (vN : Nat → Int32) (vG : Nat → Nat → Int32) (vR : Nat → Nat → Int32) (vO : Nat → Int64) (x1 : Int32) (x2 : Int32) (r : Int32 × (Nat → Int64)) (hf : F_L_culprit vX vN vG vR vO x1 x2 = some r) : LM E l yL_culprit (.codeWith yL_culprit cL_culprit 5 (some .int) [(0, 10, 13, 19), (0, 10, 17, 28)] :: GA) rm_L_culprit [.ref aX, .int x1, .int x2, .ref aO] (W_X aX aB aBw aP aN aNd aH aQ vX ++ (W_N aN aG aU aR vN ++ (W_G E aG vG ++ (W_R E aR vR ++ (W_J E aO 1 vO))))) (some (.int r.1)) (W_X aX aB aBw aP aN aNd aH aQ vX ++ (W_N aN aG aU aR vN ++ (W_G E aG vG ++ (W_R E aR vR ++ (W_J E aO 1 r.2))))) 2 := by
  refine LM.of (own := RL) rfl (by decide) (Nat.le_of_ble_eq_true rfl) ?_
  intro p e s m below meth c A ls hx hb hr hml hown hg hlocks hK hE hN hA htb hP hD hS hl
  have hl : lv_has ls 5 [(0, .ref aX), (1, .int x1), (2, .int x2), (3, .ref aO)] := hl
  unfold F_L_culprit at hf
  refine lv_aload_n hx hb dL_culprit_0 rfl (lv_at hl 3 rfl) ?_
  refine lv_iconst (v := 0) hx hb dL_culprit_1 (by decide) ?_
  refine lv_aload_n hx hb dL_culprit_2 rfl (lv_at hl 0 rfl) ?_
  refine lv_iload_n hx hb dL_culprit_3 rfl (lv_at hl 1 rfl) ?_
  refine lv_iload_n hx hb dL_culprit_4 rfl (lv_at hl 2 rfl) ?_
  obtain ⟨u1, hu1, hf⟩ := bn hf
  refine xm_V (As := [.int x1, .int x2]) (rest := [.int 0, .ref aO]) (w2 := (W_X aX aB aBw aP aN aNd aH aQ vX ++ (W_N aN aG aU aR vN ++ (W_G E aG vG ++ (W_R E aR vR ++ (W_J E aO 1 vO)))))) hx hb hml hown hg (c_X8_culprit E l hst aX aB aBw aP aN aNd aH aQ aG aU aR vX vN vG vR x1 x2 u1 hu1) cy_X8_culprit ml_L_99 ⟨⟨rfl, rfl⟩, Nat.le_of_ble_eq_true rfl, Nat.le_of_ble_eq_true rfl⟩ hK hE hP hD hS hA [true, true, true, true, true, true, true, true, true, true, true, true, true, true, true] rfl rfl rfl 0 rfl rfl rfl hl.1 rfl (Nat.le_of_ble_eq_true rfl) dL_culprit_5 ⟨Nat.le_of_ble_eq_true rfl, Nat.le_of_ble_eq_true rfl⟩ [.int u1.2, .int 0, .ref aO] rfl (fun h0 H locs hP hD hS => ?_) (fun h0 H locs ce q9 hP hD hS hce hcv hcl => ?_)
  rotate_left
  · have hf := ie (Nat.pos_iff_ne_zero.mp h0) hf
    by_cases ho : u1.1 = 2
    · have hf := it ho hf
      rw [ho] at hcl
      refine vx_catch (E := XK 2) hown [] ⟨0, 10, 13, 19⟩ [⟨0, 10, 17, 28⟩] htb (fun z hz => absurd hz List.not_mem_nil) rfl (by decide) (hg _ cl_L_19) (va_Nw.use rfl (hE.2.2.2.2.2.2.1 "java/lang/IllegalArgumentException" (by decide))) hce hcv hcl ?_
      refine lv_astore (lv' := [(4, .ref q9), (0, .ref aX), (1, .int x1), (2, .int x2), (3, .ref aO)]) hx hb dL_culprit_13 hl (by decide) rfl (fun ls hl => ?_)
      refine lv_iconst (v := 1) hx hb dL_culprit_15 (by decide) ?_
      obtain rfl := Option.some.inj hf
      exact lm_iret (v := 1) hx hb hr hlocks hP hS dL_culprit_16 (Nat.le_of_ble_eq_true rfl) (Nat.le_of_ble_eq_true rfl)
    · have hf := ie ho hf
      by_cases ho : u1.1 = 3
      · have hf := it ho hf
        rw [ho] at hcl
        refine vx_catch (E := XK 3) hown [⟨0, 10, 13, 19⟩] ⟨0, 10, 17, 28⟩ [] htb (fun z hz => by
      simp only [List.mem_cons, List.not_mem_nil, or_false] at hz
      rcases hz with rfl
      · exact Or.inr ⟨(by decide), _, hg _ cl_L_19, hN ("java/util/NoSuchElementException", "java/lang/IllegalArgumentException") (by decide)⟩) rfl (by decide) (hg _ cl_L_28) (va_Nw.use rfl (hE.2.2.2.2.2.2.1 "java/util/NoSuchElementException" (by decide))) hce hcv hcl ?_
        refine lv_astore (lv' := [(4, .ref q9), (0, .ref aX), (1, .int x1), (2, .int x2), (3, .ref aO)]) hx hb dL_culprit_17 hl (by decide) rfl (fun ls hl => ?_)
        refine lv_iconst (v := 2) hx hb dL_culprit_19 (by decide) ?_
        obtain rfl := Option.some.inj hf
        exact lm_iret (v := 2) hx hb hr hlocks hP hS dL_culprit_20 (Nat.le_of_ble_eq_true rfl) (Nat.le_of_ble_eq_true rfl)
      · have hf := ie ho hf
        cases hf
  have hf := it h0 hf
  refine lv_i2l (v := (Int32.toInt64 u1.2)) hx hb dL_culprit_8 rfl ?_
  obtain ⟨hi, hf⟩ := ck_o hf
  refine al_st (w2 := (W_X aX aB aBw aP aN aNd aH aQ vX ++ (W_N aN aG aU aR vN ++ (W_G E aG vG ++ (W_R E aR vR ++ (W_J E aO 1 (vp_updL vO (Int32.toNatClampNeg 0) (Int32.toInt64 u1.2)))))))) hx hb hK hP hD hS 15 rfl hi rfl dL_culprit_9 (fun H locs hP hD hS => ?_)
  obtain ⟨vO_3, hv, hf⟩ := lt_o hf
  rw [← hv] at hP hD
  clear hv
  refine lv_goto (tgt := 21) hx hb dL_culprit_10 (by decide) ?_
  refine lv_iconst (v := 0) hx hb dL_culprit_21 (by decide) ?_
  obtain rfl := Option.some.inj hf
  exact lm_iret (v := 0) hx hb hr hlocks hP hS dL_culprit_22 (Nat.le_of_ble_eq_true rfl) (Nat.le_of_ble_eq_true rfl)
def F_L_minutesOut (vX : Nat → Int32) (vN : Nat → Int32) (vG : Nat → Nat → Int32) (vR : Nat → Nat → Int32) (vO : Nat → Int64) (x1 : Int32) : Option (Int32 × (Nat → Int64)) := (F_X8_minutesOut vX vN vG vR x1).bind (fun u1 => if u1.1 = 0 then (ck 0 1 (lt (vp_updL vO (Int32.toNatClampNeg 0) (Int32.toInt64 u1.2)) (fun vO_3 => (some (0, vO_3))))) else (if u1.1 = 4 then ((some (1, vO))) else (none)))
abbrev rm_L_minutesOut : Room := { frames := 8, cells := 1, slots := 6, locals := 132 }
set_option maxHeartbeats 4000000 in
set_option maxRecDepth 100000 in
theorem c_L_minutesOut (E : Ev) (l : Launch) (hst : l.stackTraces = false) (aX : Nat) (aB : Nat → Nat) (aBw : Nat → Nat) (aP : Nat) (aN : Nat) (aNd : Nat) (aH : Nat) (aQ : Nat) (aG : Nat → Nat) (aU : Nat → Nat) (aR : Nat → Nat) (aO : Nat) (vX : Nat → Int32) (vN : Nat → Int32) (vG : Nat → Nat → Int32) (vR : Nat → Nat → Int32) (vO : Nat → Int64) (x1 : Int32) (r : Int32 × (Nat → Int64)) (hf : F_L_minutesOut vX vN vG vR vO x1 = some r) : LM E l yL_minutesOut (.codeWith yL_minutesOut cL_minutesOut 4 (some .int) [(0, 9, 12, 33)] :: GA) rm_L_minutesOut [.ref aX, .int x1, .ref aO] (W_X aX aB aBw aP aN aNd aH aQ vX ++ (W_N aN aG aU aR vN ++ (W_G E aG vG ++ (W_R E aR vR ++ (W_J E aO 1 vO))))) (some (.int r.1)) (W_X aX aB aBw aP aN aNd aH aQ vX ++ (W_N aN aG aU aR vN ++ (W_G E aG vG ++ (W_R E aR vR ++ (W_J E aO 1 r.2))))) 1 := by
  refine LM.of (own := RL) rfl (by decide) (Nat.le_of_ble_eq_true rfl) ?_
  intro p e s m below meth c A ls hx hb hr hml hown hg hlocks hK hE hN hA htb hP hD hS hl
  have hl : lv_has ls 4 [(0, .ref aX), (1, .int x1), (2, .ref aO)] := hl
  unfold F_L_minutesOut at hf
  refine lv_aload_n hx hb dL_minutesOut_0 rfl (lv_at hl 2 rfl) ?_
  refine lv_iconst (v := 0) hx hb dL_minutesOut_1 (by decide) ?_
  refine lv_aload_n hx hb dL_minutesOut_2 rfl (lv_at hl 0 rfl) ?_
  refine lv_iload_n hx hb dL_minutesOut_3 rfl (lv_at hl 1 rfl) ?_
  obtain ⟨u1, hu1, hf⟩ := bn hf
  refine xm_V (As := [.int x1]) (rest := [.int 0, .ref aO]) (w2 := (W_X aX aB aBw aP aN aNd aH aQ vX ++ (W_N aN aG aU aR vN ++ (W_G E aG vG ++ (W_R E aR vR ++ (W_J E aO 1 vO)))))) hx hb hml hown hg (c_X8_minutesOut E l hst aX aB aBw aP aN aNd aH aQ aG aU aR vX vN vG vR x1 u1 hu1) cy_X8_minutesOut ml_L_102 ⟨⟨rfl, rfl⟩, Nat.le_of_ble_eq_true rfl, Nat.le_of_ble_eq_true rfl⟩ hK hE hP hD hS hA [true, true, true, true, true, true, true, true, true, true, true, true, true, true, true] rfl rfl rfl 0 rfl rfl rfl hl.1 rfl (Nat.le_of_ble_eq_true rfl) dL_minutesOut_4 ⟨Nat.le_of_ble_eq_true rfl, Nat.le_of_ble_eq_true rfl⟩ [.int u1.2, .int 0, .ref aO] rfl (fun h0 H locs hP hD hS => ?_) (fun h0 H locs ce q9 hP hD hS hce hcv hcl => ?_)
  rotate_left
  · have hf := ie (Nat.pos_iff_ne_zero.mp h0) hf
    by_cases ho : u1.1 = 4
    · have hf := it ho hf
      rw [ho] at hcl
      refine vx_catch (E := XK 4) hown [] ⟨0, 9, 12, 33⟩ [] htb (fun z hz => absurd hz List.not_mem_nil) rfl (by decide) (hg _ cl_L_33) (va_Nw.use rfl (hE.2.2.2.2.2.2.1 "java/lang/IndexOutOfBoundsException" (by decide))) hce hcv hcl ?_
      refine lv_astore_n (lv' := [(3, .ref q9), (0, .ref aX), (1, .int x1), (2, .ref aO)]) hx hb dL_minutesOut_12 rfl hl (by decide) rfl (fun ls hl => ?_)
      refine lv_iconst (v := 1) hx hb dL_minutesOut_13 (by decide) ?_
      obtain rfl := Option.some.inj hf
      exact lm_iret (v := 1) hx hb hr hlocks hP hS dL_minutesOut_14 (Nat.le_of_ble_eq_true rfl) (Nat.le_of_ble_eq_true rfl)
    · have hf := ie ho hf
      cases hf
  have hf := it h0 hf
  refine lv_i2l (v := (Int32.toInt64 u1.2)) hx hb dL_minutesOut_7 rfl ?_
  obtain ⟨hi, hf⟩ := ck_o hf
  refine al_st (w2 := (W_X aX aB aBw aP aN aNd aH aQ vX ++ (W_N aN aG aU aR vN ++ (W_G E aG vG ++ (W_R E aR vR ++ (W_J E aO 1 (vp_updL vO (Int32.toNatClampNeg 0) (Int32.toInt64 u1.2)))))))) hx hb hK hP hD hS 15 rfl hi rfl dL_minutesOut_8 (fun H locs hP hD hS => ?_)
  obtain ⟨vO_3, hv, hf⟩ := lt_o hf
  rw [← hv] at hP hD
  clear hv
  refine lv_goto (tgt := 15) hx hb dL_minutesOut_9 (by decide) ?_
  refine lv_iconst (v := 0) hx hb dL_minutesOut_15 (by decide) ?_
  obtain rfl := Option.some.inj hf
  exact lm_iret (v := 0) hx hb hr hlocks hP hS dL_minutesOut_16 (Nat.le_of_ble_eq_true rfl) (Nat.le_of_ble_eq_true rfl)
def F_L_minutesTogether (vX : Nat → Int32) (vN : Nat → Int32) (vG : Nat → Nat → Int32) (vR : Nat → Nat → Int32) (vO : Nat → Int64) (x1 : Int32) (x2 : Int32) : Option (Int32 × (Nat → Int64)) := (F_X8_minutesTogether vX vN vG vR x1 x2).bind (fun u1 => if u1.1 = 0 then (ck 0 1 (lt (vp_updL vO (Int32.toNatClampNeg 0) (Int32.toInt64 u1.2)) (fun vO_3 => (some (0, vO_3))))) else (if u1.1 = 4 then ((some (1, vO))) else (none)))
abbrev rm_L_minutesTogether : Room := { frames := 8, cells := 2, slots := 12, locals := 133 }
set_option maxHeartbeats 4000000 in
set_option maxRecDepth 100000 in
theorem c_L_minutesTogether (E : Ev) (l : Launch) (hst : l.stackTraces = false) (aX : Nat) (aB : Nat → Nat) (aBw : Nat → Nat) (aP : Nat) (aN : Nat) (aNd : Nat) (aH : Nat) (aQ : Nat) (aG : Nat → Nat) (aU : Nat → Nat) (aR : Nat → Nat) (aO : Nat) (vX : Nat → Int32) (vN : Nat → Int32) (vG : Nat → Nat → Int32) (vR : Nat → Nat → Int32) (vO : Nat → Int64) (x1 : Int32) (x2 : Int32) (r : Int32 × (Nat → Int64)) (hf : F_L_minutesTogether vX vN vG vR vO x1 x2 = some r) : LM E l yL_minutesTogether (.codeWith yL_minutesTogether cL_minutesTogether 5 (some .int) [(0, 10, 13, 33)] :: GA) rm_L_minutesTogether [.ref aX, .int x1, .int x2, .ref aO] (W_X aX aB aBw aP aN aNd aH aQ vX ++ (W_N aN aG aU aR vN ++ (W_G E aG vG ++ (W_R E aR vR ++ (W_J E aO 1 vO))))) (some (.int r.1)) (W_X aX aB aBw aP aN aNd aH aQ vX ++ (W_N aN aG aU aR vN ++ (W_G E aG vG ++ (W_R E aR vR ++ (W_J E aO 1 r.2))))) 2 := by
  refine LM.of (own := RL) rfl (by decide) (Nat.le_of_ble_eq_true rfl) ?_
  intro p e s m below meth c A ls hx hb hr hml hown hg hlocks hK hE hN hA htb hP hD hS hl
  have hl : lv_has ls 5 [(0, .ref aX), (1, .int x1), (2, .int x2), (3, .ref aO)] := hl
  unfold F_L_minutesTogether at hf
  refine lv_aload_n hx hb dL_minutesTogether_0 rfl (lv_at hl 3 rfl) ?_
  refine lv_iconst (v := 0) hx hb dL_minutesTogether_1 (by decide) ?_
  refine lv_aload_n hx hb dL_minutesTogether_2 rfl (lv_at hl 0 rfl) ?_
  refine lv_iload_n hx hb dL_minutesTogether_3 rfl (lv_at hl 1 rfl) ?_
  refine lv_iload_n hx hb dL_minutesTogether_4 rfl (lv_at hl 2 rfl) ?_
  obtain ⟨u1, hu1, hf⟩ := bn hf
  refine xm_V (As := [.int x1, .int x2]) (rest := [.int 0, .ref aO]) (w2 := (W_X aX aB aBw aP aN aNd aH aQ vX ++ (W_N aN aG aU aR vN ++ (W_G E aG vG ++ (W_R E aR vR ++ (W_J E aO 1 vO)))))) hx hb hml hown hg (c_X8_minutesTogether E l hst aX aB aBw aP aN aNd aH aQ aG aU aR vX vN vG vR x1 x2 u1 hu1) cy_X8_minutesTogether ml_L_105 ⟨⟨rfl, rfl⟩, Nat.le_of_ble_eq_true rfl, Nat.le_of_ble_eq_true rfl⟩ hK hE hP hD hS hA [true, true, true, true, true, true, true, true, true, true, true, true, true, true, true] rfl rfl rfl 0 rfl rfl rfl hl.1 rfl (Nat.le_of_ble_eq_true rfl) dL_minutesTogether_5 ⟨Nat.le_of_ble_eq_true rfl, Nat.le_of_ble_eq_true rfl⟩ [.int u1.2, .int 0, .ref aO] rfl (fun h0 H locs hP hD hS => ?_) (fun h0 H locs ce q9 hP hD hS hce hcv hcl => ?_)
  rotate_left
  · have hf := ie (Nat.pos_iff_ne_zero.mp h0) hf
    by_cases ho : u1.1 = 4
    · have hf := it ho hf
      rw [ho] at hcl
      refine vx_catch (E := XK 4) hown [] ⟨0, 10, 13, 33⟩ [] htb (fun z hz => absurd hz List.not_mem_nil) rfl (by decide) (hg _ cl_L_33) (va_Nw.use rfl (hE.2.2.2.2.2.2.1 "java/lang/IndexOutOfBoundsException" (by decide))) hce hcv hcl ?_
      refine lv_astore (lv' := [(4, .ref q9), (0, .ref aX), (1, .int x1), (2, .int x2), (3, .ref aO)]) hx hb dL_minutesTogether_13 hl (by decide) rfl (fun ls hl => ?_)
      refine lv_iconst (v := 1) hx hb dL_minutesTogether_15 (by decide) ?_
      obtain rfl := Option.some.inj hf
      exact lm_iret (v := 1) hx hb hr hlocks hP hS dL_minutesTogether_16 (Nat.le_of_ble_eq_true rfl) (Nat.le_of_ble_eq_true rfl)
    · have hf := ie ho hf
      cases hf
  have hf := it h0 hf
  refine lv_i2l (v := (Int32.toInt64 u1.2)) hx hb dL_minutesTogether_8 rfl ?_
  obtain ⟨hi, hf⟩ := ck_o hf
  refine al_st (w2 := (W_X aX aB aBw aP aN aNd aH aQ vX ++ (W_N aN aG aU aR vN ++ (W_G E aG vG ++ (W_R E aR vR ++ (W_J E aO 1 (vp_updL vO (Int32.toNatClampNeg 0) (Int32.toInt64 u1.2)))))))) hx hb hK hP hD hS 15 rfl hi rfl dL_minutesTogether_9 (fun H locs hP hD hS => ?_)
  obtain ⟨vO_3, hv, hf⟩ := lt_o hf
  rw [← hv] at hP hD
  clear hv
  refine lv_goto (tgt := 17) hx hb dL_minutesTogether_10 (by decide) ?_
  refine lv_iconst (v := 0) hx hb dL_minutesTogether_17 (by decide) ?_
  obtain rfl := Option.some.inj hf
  exact lm_iret (v := 0) hx hb hr hlocks hP hS dL_minutesTogether_18 (Nat.le_of_ble_eq_true rfl) (Nat.le_of_ble_eq_true rfl)
def F_L_umbrellaFor (vX : Nat → Int32) (vN : Nat → Int32) (vG : Nat → Nat → Int32) (vU : Nat → Nat → Int32) (vO : Nat → Int64) (x1 : Int32) : Option (Int32 × (Nat → Int64)) := (F_X8_umbrellaFor vX vN vG vU x1).bind (fun u1 => if u1.1 = 0 then (ck 0 1 (lt (vp_updL vO (Int32.toNatClampNeg 0) (Int32.toInt64 u1.2)) (fun vO_3 => (some (0, vO_3))))) else (if u1.1 = 4 then ((some (1, vO))) else (if u1.1 = 1 then ((some (2, vO))) else (if u1.1 = 3 then ((some (3, vO))) else (none)))))
abbrev rm_L_umbrellaFor : Room := { frames := 8, cells := 2, slots := 12, locals := 133 }
set_option maxHeartbeats 4000000 in
set_option maxRecDepth 100000 in
theorem c_L_umbrellaFor (E : Ev) (l : Launch) (hst : l.stackTraces = false) (aX : Nat) (aB : Nat → Nat) (aBw : Nat → Nat) (aP : Nat) (aN : Nat) (aNd : Nat) (aH : Nat) (aQ : Nat) (aG : Nat → Nat) (aU : Nat → Nat) (aR : Nat → Nat) (aO : Nat) (vX : Nat → Int32) (vN : Nat → Int32) (vG : Nat → Nat → Int32) (vU : Nat → Nat → Int32) (vO : Nat → Int64) (x1 : Int32) (r : Int32 × (Nat → Int64)) (hf : F_L_umbrellaFor vX vN vG vU vO x1 = some r) : LM E l yL_umbrellaFor (.codeWith yL_umbrellaFor cL_umbrellaFor 4 (some .int) [(0, 9, 12, 33), (0, 9, 15, 13), (0, 9, 18, 28)] :: GA) rm_L_umbrellaFor [.ref aX, .int x1, .ref aO] (W_X aX aB aBw aP aN aNd aH aQ vX ++ (W_N aN aG aU aR vN ++ (W_G E aG vG ++ (W_U E aU vU ++ (W_J E aO 1 vO))))) (some (.int r.1)) (W_X aX aB aBw aP aN aNd aH aQ vX ++ (W_N aN aG aU aR vN ++ (W_G E aG vG ++ (W_U E aU vU ++ (W_J E aO 1 r.2))))) 2 := by
  refine LM.of (own := RL) rfl (by decide) (Nat.le_of_ble_eq_true rfl) ?_
  intro p e s m below meth c A ls hx hb hr hml hown hg hlocks hK hE hN hA htb hP hD hS hl
  have hl : lv_has ls 4 [(0, .ref aX), (1, .int x1), (2, .ref aO)] := hl
  unfold F_L_umbrellaFor at hf
  refine lv_aload_n hx hb dL_umbrellaFor_0 rfl (lv_at hl 2 rfl) ?_
  refine lv_iconst (v := 0) hx hb dL_umbrellaFor_1 (by decide) ?_
  refine lv_aload_n hx hb dL_umbrellaFor_2 rfl (lv_at hl 0 rfl) ?_
  refine lv_iload_n hx hb dL_umbrellaFor_3 rfl (lv_at hl 1 rfl) ?_
  obtain ⟨u1, hu1, hf⟩ := bn hf
  refine xm_V (As := [.int x1]) (rest := [.int 0, .ref aO]) (w2 := (W_X aX aB aBw aP aN aNd aH aQ vX ++ (W_N aN aG aU aR vN ++ (W_G E aG vG ++ (W_U E aU vU ++ (W_J E aO 1 vO)))))) hx hb hml hown hg (c_X8_umbrellaFor E l hst aX aB aBw aP aN aNd aH aQ aG aU aR vX vN vG vU x1 u1 hu1) cy_X8_umbrellaFor ml_L_108 ⟨⟨rfl, rfl⟩, Nat.le_of_ble_eq_true rfl, Nat.le_of_ble_eq_true rfl⟩ hK hE hP hD hS hA [true, true, true, true, true, true, true, true, true, true, true, true, true, true, true] rfl rfl rfl 0 rfl rfl rfl hl.1 rfl (Nat.le_of_ble_eq_true rfl) dL_umbrellaFor_4 ⟨Nat.le_of_ble_eq_true rfl, Nat.le_of_ble_eq_true rfl⟩ [.int u1.2, .int 0, .ref aO] rfl (fun h0 H locs hP hD hS => ?_) (fun h0 H locs ce q9 hP hD hS hce hcv hcl => ?_)
  rotate_left
  · have hf := ie (Nat.pos_iff_ne_zero.mp h0) hf
    by_cases ho : u1.1 = 4
    · have hf := it ho hf
      rw [ho] at hcl
      refine vx_catch (E := XK 4) hown [] ⟨0, 9, 12, 33⟩ [⟨0, 9, 15, 13⟩, ⟨0, 9, 18, 28⟩] htb (fun z hz => absurd hz List.not_mem_nil) rfl (by decide) (hg _ cl_L_33) (va_Nw.use rfl (hE.2.2.2.2.2.2.1 "java/lang/IndexOutOfBoundsException" (by decide))) hce hcv hcl ?_
      refine lv_astore_n (lv' := [(3, .ref q9), (0, .ref aX), (1, .int x1), (2, .ref aO)]) hx hb dL_umbrellaFor_12 rfl hl (by decide) rfl (fun ls hl => ?_)
      refine lv_iconst (v := 1) hx hb dL_umbrellaFor_13 (by decide) ?_
      obtain rfl := Option.some.inj hf
      exact lm_iret (v := 1) hx hb hr hlocks hP hS dL_umbrellaFor_14 (Nat.le_of_ble_eq_true rfl) (Nat.le_of_ble_eq_true rfl)
    · have hf := ie ho hf
      by_cases ho : u1.1 = 1
      · have hf := it ho hf
        rw [ho] at hcl
        refine vx_catch (E := XK 1) hown [⟨0, 9, 12, 33⟩] ⟨0, 9, 15, 13⟩ [⟨0, 9, 18, 28⟩] htb (fun z hz => by
      simp only [List.mem_cons, List.not_mem_nil, or_false] at hz
      rcases hz with rfl
      · exact Or.inr ⟨(by decide), _, hg _ cl_L_33, hN ("java/lang/IllegalStateException", "java/lang/IndexOutOfBoundsException") (by decide)⟩) rfl (by decide) (hg _ cl_L_13) (va_Nw.use rfl (hE.2.2.2.2.2.2.1 "java/lang/IllegalStateException" (by decide))) hce hcv hcl ?_
        refine lv_astore_n (lv' := [(3, .ref q9), (0, .ref aX), (1, .int x1), (2, .ref aO)]) hx hb dL_umbrellaFor_15 rfl hl (by decide) rfl (fun ls hl => ?_)
        refine lv_iconst (v := 2) hx hb dL_umbrellaFor_16 (by decide) ?_
        obtain rfl := Option.some.inj hf
        exact lm_iret (v := 2) hx hb hr hlocks hP hS dL_umbrellaFor_17 (Nat.le_of_ble_eq_true rfl) (Nat.le_of_ble_eq_true rfl)
      · have hf := ie ho hf
        by_cases ho : u1.1 = 3
        · have hf := it ho hf
          rw [ho] at hcl
          refine vx_catch (E := XK 3) hown [⟨0, 9, 12, 33⟩, ⟨0, 9, 15, 13⟩] ⟨0, 9, 18, 28⟩ [] htb (fun z hz => by
      simp only [List.mem_cons, List.not_mem_nil, or_false] at hz
      rcases hz with rfl | rfl
      · exact Or.inr ⟨(by decide), _, hg _ cl_L_33, hN ("java/util/NoSuchElementException", "java/lang/IndexOutOfBoundsException") (by decide)⟩
      · exact Or.inr ⟨(by decide), _, hg _ cl_L_13, hN ("java/util/NoSuchElementException", "java/lang/IllegalStateException") (by decide)⟩) rfl (by decide) (hg _ cl_L_28) (va_Nw.use rfl (hE.2.2.2.2.2.2.1 "java/util/NoSuchElementException" (by decide))) hce hcv hcl ?_
          refine lv_astore_n (lv' := [(3, .ref q9), (0, .ref aX), (1, .int x1), (2, .ref aO)]) hx hb dL_umbrellaFor_18 rfl hl (by decide) rfl (fun ls hl => ?_)
          refine lv_iconst (v := 3) hx hb dL_umbrellaFor_19 (by decide) ?_
          obtain rfl := Option.some.inj hf
          exact lm_iret (v := 3) hx hb hr hlocks hP hS dL_umbrellaFor_20 (Nat.le_of_ble_eq_true rfl) (Nat.le_of_ble_eq_true rfl)
        · have hf := ie ho hf
          cases hf
  have hf := it h0 hf
  refine lv_i2l (v := (Int32.toInt64 u1.2)) hx hb dL_umbrellaFor_7 rfl ?_
  obtain ⟨hi, hf⟩ := ck_o hf
  refine al_st (w2 := (W_X aX aB aBw aP aN aNd aH aQ vX ++ (W_N aN aG aU aR vN ++ (W_G E aG vG ++ (W_U E aU vU ++ (W_J E aO 1 (vp_updL vO (Int32.toNatClampNeg 0) (Int32.toInt64 u1.2)))))))) hx hb hK hP hD hS 15 rfl hi rfl dL_umbrellaFor_8 (fun H locs hP hD hS => ?_)
  obtain ⟨vO_3, hv, hf⟩ := lt_o hf
  rw [← hv] at hP hD
  clear hv
  refine lv_goto (tgt := 21) hx hb dL_umbrellaFor_9 (by decide) ?_
  refine lv_iconst (v := 0) hx hb dL_umbrellaFor_21 (by decide) ?_
  obtain rfl := Option.some.inj hf
  exact lm_iret (v := 0) hx hb hr hlocks hP hS dL_umbrellaFor_22 (Nat.le_of_ble_eq_true rfl) (Nat.le_of_ble_eq_true rfl)
def F_L_tipOf (vX : Nat → Int32) (vN : Nat → Int32) (vG : Nat → Nat → Int32) (vR : Nat → Nat → Int32) (vO : Nat → Int64) (x1 : Int32) : Option (Int32 × (Nat → Int64)) := (F_X8_tipOf vX vN vG vR x1).bind (fun u1 => if u1.1 = 0 then (ck 0 1 (lt (vp_updL vO (Int32.toNatClampNeg 0) (Int32.toInt64 u1.2)) (fun vO_3 => (some (0, vO_3))))) else (if u1.1 = 4 then ((some (1, vO))) else (if u1.1 = 1 then ((some (2, vO))) else (none))))
abbrev rm_L_tipOf : Room := { frames := 8, cells := 2, slots := 12, locals := 132 }
set_option maxHeartbeats 4000000 in
set_option maxRecDepth 100000 in
theorem c_L_tipOf (E : Ev) (l : Launch) (hst : l.stackTraces = false) (aX : Nat) (aB : Nat → Nat) (aBw : Nat → Nat) (aP : Nat) (aN : Nat) (aNd : Nat) (aH : Nat) (aQ : Nat) (aG : Nat → Nat) (aU : Nat → Nat) (aR : Nat → Nat) (aO : Nat) (vX : Nat → Int32) (vN : Nat → Int32) (vG : Nat → Nat → Int32) (vR : Nat → Nat → Int32) (vO : Nat → Int64) (x1 : Int32) (r : Int32 × (Nat → Int64)) (hf : F_L_tipOf vX vN vG vR vO x1 = some r) : LM E l yL_tipOf (.codeWith yL_tipOf cL_tipOf 4 (some .int) [(0, 9, 12, 33), (0, 9, 15, 13)] :: GA) rm_L_tipOf [.ref aX, .int x1, .ref aO] (W_X aX aB aBw aP aN aNd aH aQ vX ++ (W_N aN aG aU aR vN ++ (W_G E aG vG ++ (W_R E aR vR ++ (W_J E aO 1 vO))))) (some (.int r.1)) (W_X aX aB aBw aP aN aNd aH aQ vX ++ (W_N aN aG aU aR vN ++ (W_G E aG vG ++ (W_R E aR vR ++ (W_J E aO 1 r.2))))) 2 := by
  refine LM.of (own := RL) rfl (by decide) (Nat.le_of_ble_eq_true rfl) ?_
  intro p e s m below meth c A ls hx hb hr hml hown hg hlocks hK hE hN hA htb hP hD hS hl
  have hl : lv_has ls 4 [(0, .ref aX), (1, .int x1), (2, .ref aO)] := hl
  unfold F_L_tipOf at hf
  refine lv_aload_n hx hb dL_tipOf_0 rfl (lv_at hl 2 rfl) ?_
  refine lv_iconst (v := 0) hx hb dL_tipOf_1 (by decide) ?_
  refine lv_aload_n hx hb dL_tipOf_2 rfl (lv_at hl 0 rfl) ?_
  refine lv_iload_n hx hb dL_tipOf_3 rfl (lv_at hl 1 rfl) ?_
  obtain ⟨u1, hu1, hf⟩ := bn hf
  refine xm_V (As := [.int x1]) (rest := [.int 0, .ref aO]) (w2 := (W_X aX aB aBw aP aN aNd aH aQ vX ++ (W_N aN aG aU aR vN ++ (W_G E aG vG ++ (W_R E aR vR ++ (W_J E aO 1 vO)))))) hx hb hml hown hg (c_X8_tipOf E l hst aX aB aBw aP aN aNd aH aQ aG aU aR vX vN vG vR x1 u1 hu1) cy_X8_tipOf ml_L_111 ⟨⟨rfl, rfl⟩, Nat.le_of_ble_eq_true rfl, Nat.le_of_ble_eq_true rfl⟩ hK hE hP hD hS hA [true, true, true, true, true, true, true, true, true, true, true, true, true, true, true] rfl rfl rfl 0 rfl rfl rfl hl.1 rfl (Nat.le_of_ble_eq_true rfl) dL_tipOf_4 ⟨Nat.le_of_ble_eq_true rfl, Nat.le_of_ble_eq_true rfl⟩ [.int u1.2, .int 0, .ref aO] rfl (fun h0 H locs hP hD hS => ?_) (fun h0 H locs ce q9 hP hD hS hce hcv hcl => ?_)
  rotate_left
  · have hf := ie (Nat.pos_iff_ne_zero.mp h0) hf
    by_cases ho : u1.1 = 4
    · have hf := it ho hf
      rw [ho] at hcl
      refine vx_catch (E := XK 4) hown [] ⟨0, 9, 12, 33⟩ [⟨0, 9, 15, 13⟩] htb (fun z hz => absurd hz List.not_mem_nil) rfl (by decide) (hg _ cl_L_33) (va_Nw.use rfl (hE.2.2.2.2.2.2.1 "java/lang/IndexOutOfBoundsException" (by decide))) hce hcv hcl ?_
      refine lv_astore_n (lv' := [(3, .ref q9), (0, .ref aX), (1, .int x1), (2, .ref aO)]) hx hb dL_tipOf_12 rfl hl (by decide) rfl (fun ls hl => ?_)
      refine lv_iconst (v := 1) hx hb dL_tipOf_13 (by decide) ?_
      obtain rfl := Option.some.inj hf
      exact lm_iret (v := 1) hx hb hr hlocks hP hS dL_tipOf_14 (Nat.le_of_ble_eq_true rfl) (Nat.le_of_ble_eq_true rfl)
    · have hf := ie ho hf
      by_cases ho : u1.1 = 1
      · have hf := it ho hf
        rw [ho] at hcl
        refine vx_catch (E := XK 1) hown [⟨0, 9, 12, 33⟩] ⟨0, 9, 15, 13⟩ [] htb (fun z hz => by
      simp only [List.mem_cons, List.not_mem_nil, or_false] at hz
      rcases hz with rfl
      · exact Or.inr ⟨(by decide), _, hg _ cl_L_33, hN ("java/lang/IllegalStateException", "java/lang/IndexOutOfBoundsException") (by decide)⟩) rfl (by decide) (hg _ cl_L_13) (va_Nw.use rfl (hE.2.2.2.2.2.2.1 "java/lang/IllegalStateException" (by decide))) hce hcv hcl ?_
        refine lv_astore_n (lv' := [(3, .ref q9), (0, .ref aX), (1, .int x1), (2, .ref aO)]) hx hb dL_tipOf_15 rfl hl (by decide) rfl (fun ls hl => ?_)
        refine lv_iconst (v := 2) hx hb dL_tipOf_16 (by decide) ?_
        obtain rfl := Option.some.inj hf
        exact lm_iret (v := 2) hx hb hr hlocks hP hS dL_tipOf_17 (Nat.le_of_ble_eq_true rfl) (Nat.le_of_ble_eq_true rfl)
      · have hf := ie ho hf
        cases hf
  have hf := it h0 hf
  refine lv_i2l (v := (Int32.toInt64 u1.2)) hx hb dL_tipOf_7 rfl ?_
  obtain ⟨hi, hf⟩ := ck_o hf
  refine al_st (w2 := (W_X aX aB aBw aP aN aNd aH aQ vX ++ (W_N aN aG aU aR vN ++ (W_G E aG vG ++ (W_R E aR vR ++ (W_J E aO 1 (vp_updL vO (Int32.toNatClampNeg 0) (Int32.toInt64 u1.2)))))))) hx hb hK hP hD hS 15 rfl hi rfl dL_tipOf_8 (fun H locs hP hD hS => ?_)
  obtain ⟨vO_3, hv, hf⟩ := lt_o hf
  rw [← hv] at hP hD
  clear hv
  refine lv_goto (tgt := 18) hx hb dL_tipOf_9 (by decide) ?_
  refine lv_iconst (v := 0) hx hb dL_tipOf_18 (by decide) ?_
  obtain rfl := Option.some.inj hf
  exact lm_iret (v := 0) hx hb hr hlocks hP hS dL_tipOf_19 (Nat.le_of_ble_eq_true rfl) (Nat.le_of_ble_eq_true rfl)
def F_L_complaintsAfter (vX : Nat → Int32) (vN : Nat → Int32) (vG : Nat → Nat → Int32) (vO : Nat → Int64) (x1 : Int32) : Option (Int32 × (Nat → Int64)) := (F_X8_complaintsAfter vX vN vG x1).bind (fun u1 => if u1.1 = 0 then (ck 0 1 (lt (vp_updL vO (Int32.toNatClampNeg 0) (Int32.toInt64 u1.2)) (fun vO_3 => (some (0, vO_3))))) else (if u1.1 = 2 then ((some (1, vO))) else (none)))
abbrev rm_L_complaintsAfter : Room := { frames := 8, cells := 1, slots := 6, locals := 134 }
set_option maxHeartbeats 4000000 in
set_option maxRecDepth 100000 in
theorem c_L_complaintsAfter (E : Ev) (l : Launch) (hst : l.stackTraces = false) (aX : Nat) (aB : Nat → Nat) (aBw : Nat → Nat) (aP : Nat) (aN : Nat) (aNd : Nat) (aH : Nat) (aQ : Nat) (aG : Nat → Nat) (aU : Nat → Nat) (aR : Nat → Nat) (aO : Nat) (vX : Nat → Int32) (vN : Nat → Int32) (vG : Nat → Nat → Int32) (vO : Nat → Int64) (x1 : Int32) (r : Int32 × (Nat → Int64)) (hf : F_L_complaintsAfter vX vN vG vO x1 = some r) : LM E l yL_complaintsAfter (.codeWith yL_complaintsAfter cL_complaintsAfter 4 (some .int) [(0, 9, 12, 19)] :: GA) rm_L_complaintsAfter [.ref aX, .int x1, .ref aO] (W_X aX aB aBw aP aN aNd aH aQ vX ++ (W_N aN aG aU aR vN ++ (W_G E aG vG ++ (W_J E aO 1 vO)))) (some (.int r.1)) (W_X aX aB aBw aP aN aNd aH aQ vX ++ (W_N aN aG aU aR vN ++ (W_G E aG vG ++ (W_J E aO 1 r.2)))) 1 := by
  refine LM.of (own := RL) rfl (by decide) (Nat.le_of_ble_eq_true rfl) ?_
  intro p e s m below meth c A ls hx hb hr hml hown hg hlocks hK hE hN hA htb hP hD hS hl
  have hl : lv_has ls 4 [(0, .ref aX), (1, .int x1), (2, .ref aO)] := hl
  unfold F_L_complaintsAfter at hf
  refine lv_aload_n hx hb dL_complaintsAfter_0 rfl (lv_at hl 2 rfl) ?_
  refine lv_iconst (v := 0) hx hb dL_complaintsAfter_1 (by decide) ?_
  refine lv_aload_n hx hb dL_complaintsAfter_2 rfl (lv_at hl 0 rfl) ?_
  refine lv_iload_n hx hb dL_complaintsAfter_3 rfl (lv_at hl 1 rfl) ?_
  obtain ⟨u1, hu1, hf⟩ := bn hf
  refine xm_V (As := [.int x1]) (rest := [.int 0, .ref aO]) (w2 := (W_X aX aB aBw aP aN aNd aH aQ vX ++ (W_N aN aG aU aR vN ++ (W_G E aG vG ++ (W_J E aO 1 vO))))) hx hb hml hown hg (c_X8_complaintsAfter E l hst aX aB aBw aP aN aNd aH aQ aG aU aR vX vN vG x1 u1 hu1) cy_X8_complaintsAfter ml_L_114 ⟨⟨rfl, rfl⟩, Nat.le_of_ble_eq_true rfl, Nat.le_of_ble_eq_true rfl⟩ hK hE hP hD hS hA [true, true, true, true, true, true, true, true, true, true, true] rfl rfl rfl 0 rfl rfl rfl hl.1 rfl (Nat.le_of_ble_eq_true rfl) dL_complaintsAfter_4 ⟨Nat.le_of_ble_eq_true rfl, Nat.le_of_ble_eq_true rfl⟩ [.int u1.2, .int 0, .ref aO] rfl (fun h0 H locs hP hD hS => ?_) (fun h0 H locs ce q9 hP hD hS hce hcv hcl => ?_)
  rotate_left
  · have hf := ie (Nat.pos_iff_ne_zero.mp h0) hf
    by_cases ho : u1.1 = 2
    · have hf := it ho hf
      rw [ho] at hcl
      refine vx_catch (E := XK 2) hown [] ⟨0, 9, 12, 19⟩ [] htb (fun z hz => absurd hz List.not_mem_nil) rfl (by decide) (hg _ cl_L_19) (va_Nw.use rfl (hE.2.2.2.2.2.2.1 "java/lang/IllegalArgumentException" (by decide))) hce hcv hcl ?_
      refine lv_astore_n (lv' := [(3, .ref q9), (0, .ref aX), (1, .int x1), (2, .ref aO)]) hx hb dL_complaintsAfter_12 rfl hl (by decide) rfl (fun ls hl => ?_)
      refine lv_iconst (v := 1) hx hb dL_complaintsAfter_13 (by decide) ?_
      obtain rfl := Option.some.inj hf
      exact lm_iret (v := 1) hx hb hr hlocks hP hS dL_complaintsAfter_14 (Nat.le_of_ble_eq_true rfl) (Nat.le_of_ble_eq_true rfl)
    · have hf := ie ho hf
      cases hf
  have hf := it h0 hf
  refine lv_i2l (v := (Int32.toInt64 u1.2)) hx hb dL_complaintsAfter_7 rfl ?_
  obtain ⟨hi, hf⟩ := ck_o hf
  refine al_st (w2 := (W_X aX aB aBw aP aN aNd aH aQ vX ++ (W_N aN aG aU aR vN ++ (W_G E aG vG ++ (W_J E aO 1 (vp_updL vO (Int32.toNatClampNeg 0) (Int32.toInt64 u1.2))))))) hx hb hK hP hD hS 11 rfl hi rfl dL_complaintsAfter_8 (fun H locs hP hD hS => ?_)
  obtain ⟨vO_3, hv, hf⟩ := lt_o hf
  rw [← hv] at hP hD
  clear hv
  refine lv_goto (tgt := 15) hx hb dL_complaintsAfter_9 (by decide) ?_
  refine lv_iconst (v := 0) hx hb dL_complaintsAfter_15 (by decide) ?_
  obtain rfl := Option.some.inj hf
  exact lm_iret (v := 0) hx hb hr hlocks hP hS dL_complaintsAfter_16 (Nat.le_of_ble_eq_true rfl) (Nat.le_of_ble_eq_true rfl)
def F_L_addGuest (vX : Nat → Int32) (vN : Nat → Int32) (vG : Nat → Nat → Int32) (vU : Nat → Nat → Int32) (vR : Nat → Nat → Int32) (vH : Nat → Int32) (vHV : Nat → NV) (vB : Nat → Nat → Int32) (vO : Nat → Int64) (x1 : Int32) (x2 : Int32) : Option (Int32 × (Nat → Nat → Int32) × (Nat → Int32) × (Nat → NV) × (Nat → Nat → Int32) × (Nat → Int64)) := (F_X8_addGuest vX vN vG vU vR vH vHV vB x1 x2).bind (fun u1 => if u1.1 = 0 then (ck 0 1 (lt (vp_updL vO (Int32.toNatClampNeg 0) (Int32.toInt64 u1.2.1)) (fun vO_3 => (some (0, u1.2.2.1, u1.2.2.2.1, u1.2.2.2.2.1, u1.2.2.2.2.2, vO_3))))) else (if u1.1 = 2 then ((some (1, u1.2.2.1, u1.2.2.2.1, u1.2.2.2.2.1, u1.2.2.2.2.2, vO))) else (if u1.1 = 1 then ((some (2, u1.2.2.1, u1.2.2.2.1, u1.2.2.2.2.1, u1.2.2.2.2.2, vO))) else (none))))
abbrev rm_L_addGuest : Room := { frames := 8, cells := 3, slots := 18, locals := 146 }
set_option maxHeartbeats 4000000 in
set_option maxRecDepth 100000 in
theorem c_L_addGuest (E : Ev) (l : Launch) (hst : l.stackTraces = false) (aX : Nat) (aB : Nat → Nat) (aBw : Nat → Nat) (aP : Nat) (aN : Nat) (aNd : Nat) (aH : Nat) (aQ : Nat) (aG : Nat → Nat) (aU : Nat → Nat) (aR : Nat → Nat) (aHA : Nat) (kn : Nat → Nat) (kg : Nat → Nat → Nat) (ku : Nat → Nat → Nat) (kr : Nat → Nat → Nat) (aO : Nat) (vX : Nat → Int32) (vN : Nat → Int32) (vG : Nat → Nat → Int32) (vU : Nat → Nat → Int32) (vR : Nat → Nat → Int32) (vH : Nat → Int32) (vHV : Nat → NV) (vB : Nat → Nat → Int32) (vO : Nat → Int64) (x1 : Int32) (x2 : Int32) (r : Int32 × (Nat → Nat → Int32) × (Nat → Int32) × (Nat → NV) × (Nat → Nat → Int32) × (Nat → Int64)) (hf : F_L_addGuest vX vN vG vU vR vH vHV vB vO x1 x2 = some r) : LM E l yL_addGuest (.codeWith yL_addGuest cL_addGuest 5 (some .int) [(0, 10, 13, 19), (0, 10, 17, 13)] :: GA) rm_L_addGuest [.ref aX, .int x1, .int x2, .ref aO] (W_X aX aB aBw aP aN aNd aH aQ vX ++ (W_N aN aG aU aR vN ++ (W_G E aG vG ++ (W_U E aU vU ++ (W_R E aR vR ++ (W_H aH aHA vH ++ (W_NA E aHA 8 kn ++ (W_V8 E kn kg ku kr vHV ++ (W_B E aB vB ++ (W_J E aO 1 vO)))))))))) (some (.int r.1)) (W_X aX aB aBw aP aN aNd aH aQ vX ++ (W_N aN aG aU aR vN ++ (W_G E aG r.2.1 ++ (W_U E aU vU ++ (W_R E aR vR ++ (W_H aH aHA r.2.2.1 ++ (W_NA E aHA 8 kn ++ (W_V8 E kn kg ku kr r.2.2.2.1 ++ (W_B E aB r.2.2.2.2.1 ++ (W_J E aO 1 r.2.2.2.2.2)))))))))) 3 := by
  refine LM.of (own := RL) rfl (by decide) (Nat.le_of_ble_eq_true rfl) ?_
  intro p e s m below meth c A ls hx hb hr hml hown hg hlocks hK hE hN hA htb hP hD hS hl
  have hl : lv_has ls 5 [(0, .ref aX), (1, .int x1), (2, .int x2), (3, .ref aO)] := hl
  unfold F_L_addGuest at hf
  refine lv_aload_n hx hb dL_addGuest_0 rfl (lv_at hl 3 rfl) ?_
  refine lv_iconst (v := 0) hx hb dL_addGuest_1 (by decide) ?_
  refine lv_aload_n hx hb dL_addGuest_2 rfl (lv_at hl 0 rfl) ?_
  refine lv_iload_n hx hb dL_addGuest_3 rfl (lv_at hl 1 rfl) ?_
  refine lv_iload_n hx hb dL_addGuest_4 rfl (lv_at hl 2 rfl) ?_
  obtain ⟨u1, hu1, hf⟩ := bn hf
  refine xm_V (As := [.int x1, .int x2]) (rest := [.int 0, .ref aO]) (w2 := (W_X aX aB aBw aP aN aNd aH aQ vX ++ (W_N aN aG aU aR vN ++ (W_G E aG u1.2.2.1 ++ (W_U E aU vU ++ (W_R E aR vR ++ (W_H aH aHA u1.2.2.2.1 ++ (W_NA E aHA 8 kn ++ (W_V8 E kn kg ku kr u1.2.2.2.2.1 ++ (W_B E aB u1.2.2.2.2.2 ++ (W_J E aO 1 vO))))))))))) hx hb hml hown hg (c_X8_addGuest E l hst aX aB aBw aP aN aNd aH aQ aG aU aR aHA kn kg ku kr vX vN vG vU vR vH vHV vB x1 x2 u1 hu1) cy_X8_addGuest ml_L_117 ⟨⟨rfl, rfl⟩, Nat.le_of_ble_eq_true rfl, Nat.le_of_ble_eq_true rfl⟩ hK hE hP hD hS hA [true, true, true, true, true, true, true, true, true, true, true, true, true, true, true, true, true, true, true, true, true, true, true, true, true, true, true, true, true, true, true, true, true, true, true, true, true, true, true, true, true, true, true, true, true, true, true, true, true, true, true, true, true, true, true, true, true, true, true, true, true, true, true, true, true, true, true, true, true, true, true, true, true, true, true, true, true, true, true, true, true, true, true, true, true, true, true, true, true, true, true, true, true, true, true, true, true, true, true, true, true, true, true, true, true, true, true, true, true, true, true, true, true, true, true, true, true, true, true, true, true, true, true, true, true, true, true, true, true, true, true, true, true, true, true, true, true, true, true, true, true, true, true, true, true, true, true, true, true, true, true, true, true, true, true, true, true, true, true, true, true, true, true, true, true, true, true] rfl rfl rfl 0 rfl rfl rfl hl.1 rfl (Nat.le_of_ble_eq_true rfl) dL_addGuest_5 ⟨Nat.le_of_ble_eq_true rfl, Nat.le_of_ble_eq_true rfl⟩ [.int u1.2.1, .int 0, .ref aO] rfl (fun h0 H locs hP hD hS => ?_) (fun h0 H locs ce q9 hP hD hS hce hcv hcl => ?_)
  rotate_left
  · have hf := ie (Nat.pos_iff_ne_zero.mp h0) hf
    by_cases ho : u1.1 = 2
    · have hf := it ho hf
      rw [ho] at hcl
      refine vx_catch (E := XK 2) hown [] ⟨0, 10, 13, 19⟩ [⟨0, 10, 17, 13⟩] htb (fun z hz => absurd hz List.not_mem_nil) rfl (by decide) (hg _ cl_L_19) (va_Nw.use rfl (hE.2.2.2.2.2.2.1 "java/lang/IllegalArgumentException" (by decide))) hce hcv hcl ?_
      refine lv_astore (lv' := [(4, .ref q9), (0, .ref aX), (1, .int x1), (2, .int x2), (3, .ref aO)]) hx hb dL_addGuest_13 hl (by decide) rfl (fun ls hl => ?_)
      refine lv_iconst (v := 1) hx hb dL_addGuest_15 (by decide) ?_
      obtain rfl := Option.some.inj hf
      exact lm_iret (v := 1) hx hb hr hlocks hP hS dL_addGuest_16 (Nat.le_of_ble_eq_true rfl) (Nat.le_of_ble_eq_true rfl)
    · have hf := ie ho hf
      by_cases ho : u1.1 = 1
      · have hf := it ho hf
        rw [ho] at hcl
        refine vx_catch (E := XK 1) hown [⟨0, 10, 13, 19⟩] ⟨0, 10, 17, 13⟩ [] htb (fun z hz => by
      simp only [List.mem_cons, List.not_mem_nil, or_false] at hz
      rcases hz with rfl
      · exact Or.inr ⟨(by decide), _, hg _ cl_L_19, hN ("java/lang/IllegalStateException", "java/lang/IllegalArgumentException") (by decide)⟩) rfl (by decide) (hg _ cl_L_13) (va_Nw.use rfl (hE.2.2.2.2.2.2.1 "java/lang/IllegalStateException" (by decide))) hce hcv hcl ?_
        refine lv_astore (lv' := [(4, .ref q9), (0, .ref aX), (1, .int x1), (2, .int x2), (3, .ref aO)]) hx hb dL_addGuest_17 hl (by decide) rfl (fun ls hl => ?_)
        refine lv_iconst (v := 2) hx hb dL_addGuest_19 (by decide) ?_
        obtain rfl := Option.some.inj hf
        exact lm_iret (v := 2) hx hb hr hlocks hP hS dL_addGuest_20 (Nat.le_of_ble_eq_true rfl) (Nat.le_of_ble_eq_true rfl)
      · have hf := ie ho hf
        cases hf
  have hf := it h0 hf
  refine lv_i2l (v := (Int32.toInt64 u1.2.1)) hx hb dL_addGuest_8 rfl ?_
  obtain ⟨hi, hf⟩ := ck_o hf
  refine al_st (w2 := (W_X aX aB aBw aP aN aNd aH aQ vX ++ (W_N aN aG aU aR vN ++ (W_G E aG u1.2.2.1 ++ (W_U E aU vU ++ (W_R E aR vR ++ (W_H aH aHA u1.2.2.2.1 ++ (W_NA E aHA 8 kn ++ (W_V8 E kn kg ku kr u1.2.2.2.2.1 ++ (W_B E aB u1.2.2.2.2.2 ++ (W_J E aO 1 (vp_updL vO (Int32.toNatClampNeg 0) (Int32.toInt64 u1.2.1))))))))))))) hx hb hK hP hD hS 167 rfl hi rfl dL_addGuest_9 (fun H locs hP hD hS => ?_)
  obtain ⟨vO_3, hv, hf⟩ := lt_o hf
  rw [← hv] at hP hD
  clear hv
  refine lv_goto (tgt := 21) hx hb dL_addGuest_10 (by decide) ?_
  refine lv_iconst (v := 0) hx hb dL_addGuest_21 (by decide) ?_
  obtain rfl := Option.some.inj hf
  exact lm_iret (v := 0) hx hb hr hlocks hP hS dL_addGuest_22 (Nat.le_of_ble_eq_true rfl) (Nat.le_of_ble_eq_true rfl)
def F_L_addUmbrella (vX : Nat → Int32) (vN : Nat → Int32) (vG : Nat → Nat → Int32) (vU : Nat → Nat → Int32) (vR : Nat → Nat → Int32) (vH : Nat → Int32) (vHV : Nat → NV) (vO : Nat → Int64) (x1 : Int32) (x2 : Int32) : Option (Int32 × (Nat → Nat → Int32) × (Nat → Int32) × (Nat → NV) × (Nat → Int64)) := (F_X8_addUmbrella vX vN vG vU vR vH vHV x1 x2).bind (fun u1 => if u1.1 = 0 then (ck 0 1 (lt (vp_updL vO (Int32.toNatClampNeg 0) (Int32.toInt64 u1.2.1)) (fun vO_3 => (some (0, u1.2.2.1, u1.2.2.2.1, u1.2.2.2.2, vO_3))))) else (if u1.1 = 4 then ((some (1, u1.2.2.1, u1.2.2.2.1, u1.2.2.2.2, vO))) else (if u1.1 = 2 then ((some (2, u1.2.2.1, u1.2.2.2.1, u1.2.2.2.2, vO))) else (if u1.1 = 1 then ((some (3, u1.2.2.1, u1.2.2.2.1, u1.2.2.2.2, vO))) else (none)))))
abbrev rm_L_addUmbrella : Room := { frames := 8, cells := 3, slots := 18, locals := 145 }
set_option maxHeartbeats 4000000 in
set_option maxRecDepth 100000 in
theorem c_L_addUmbrella (E : Ev) (l : Launch) (hst : l.stackTraces = false) (aX : Nat) (aB : Nat → Nat) (aBw : Nat → Nat) (aP : Nat) (aN : Nat) (aNd : Nat) (aH : Nat) (aQ : Nat) (aG : Nat → Nat) (aU : Nat → Nat) (aR : Nat → Nat) (aHA : Nat) (kn : Nat → Nat) (kg : Nat → Nat → Nat) (ku : Nat → Nat → Nat) (kr : Nat → Nat → Nat) (aO : Nat) (vX : Nat → Int32) (vN : Nat → Int32) (vG : Nat → Nat → Int32) (vU : Nat → Nat → Int32) (vR : Nat → Nat → Int32) (vH : Nat → Int32) (vHV : Nat → NV) (vO : Nat → Int64) (x1 : Int32) (x2 : Int32) (r : Int32 × (Nat → Nat → Int32) × (Nat → Int32) × (Nat → NV) × (Nat → Int64)) (hf : F_L_addUmbrella vX vN vG vU vR vH vHV vO x1 x2 = some r) : LM E l yL_addUmbrella (.codeWith yL_addUmbrella cL_addUmbrella 5 (some .int) [(0, 10, 13, 33), (0, 10, 17, 19), (0, 10, 21, 13)] :: GA) rm_L_addUmbrella [.ref aX, .int x1, .int x2, .ref aO] (W_X aX aB aBw aP aN aNd aH aQ vX ++ (W_N aN aG aU aR vN ++ (W_G E aG vG ++ (W_U E aU vU ++ (W_R E aR vR ++ (W_H aH aHA vH ++ (W_NA E aHA 8 kn ++ (W_V8 E kn kg ku kr vHV ++ (W_J E aO 1 vO))))))))) (some (.int r.1)) (W_X aX aB aBw aP aN aNd aH aQ vX ++ (W_N aN aG aU aR vN ++ (W_G E aG vG ++ (W_U E aU r.2.1 ++ (W_R E aR vR ++ (W_H aH aHA r.2.2.1 ++ (W_NA E aHA 8 kn ++ (W_V8 E kn kg ku kr r.2.2.2.1 ++ (W_J E aO 1 r.2.2.2.2))))))))) 3 := by
  refine LM.of (own := RL) rfl (by decide) (Nat.le_of_ble_eq_true rfl) ?_
  intro p e s m below meth c A ls hx hb hr hml hown hg hlocks hK hE hN hA htb hP hD hS hl
  have hl : lv_has ls 5 [(0, .ref aX), (1, .int x1), (2, .int x2), (3, .ref aO)] := hl
  unfold F_L_addUmbrella at hf
  refine lv_aload_n hx hb dL_addUmbrella_0 rfl (lv_at hl 3 rfl) ?_
  refine lv_iconst (v := 0) hx hb dL_addUmbrella_1 (by decide) ?_
  refine lv_aload_n hx hb dL_addUmbrella_2 rfl (lv_at hl 0 rfl) ?_
  refine lv_iload_n hx hb dL_addUmbrella_3 rfl (lv_at hl 1 rfl) ?_
  refine lv_iload_n hx hb dL_addUmbrella_4 rfl (lv_at hl 2 rfl) ?_
  obtain ⟨u1, hu1, hf⟩ := bn hf
  refine xm_V (As := [.int x1, .int x2]) (rest := [.int 0, .ref aO]) (w2 := (W_X aX aB aBw aP aN aNd aH aQ vX ++ (W_N aN aG aU aR vN ++ (W_G E aG vG ++ (W_U E aU u1.2.2.1 ++ (W_R E aR vR ++ (W_H aH aHA u1.2.2.2.1 ++ (W_NA E aHA 8 kn ++ (W_V8 E kn kg ku kr u1.2.2.2.2 ++ (W_J E aO 1 vO)))))))))) hx hb hml hown hg (c_X8_addUmbrella E l hst aX aB aBw aP aN aNd aH aQ aG aU aR aHA kn kg ku kr vX vN vG vU vR vH vHV x1 x2 u1 hu1) cy_X8_addUmbrella ml_L_120 ⟨⟨rfl, rfl⟩, Nat.le_of_ble_eq_true rfl, Nat.le_of_ble_eq_true rfl⟩ hK hE hP hD hS hA [true, true, true, true, true, true, true, true, true, true, true, true, true, true, true, true, true, true, true, true, true, true, true, true, true, true, true, true, true, true, true, true, true, true, true, true, true, true, true, true, true, true, true, true, true, true, true, true, true, true, true, true, true, true, true, true, true, true, true, true, true, true, true, true, true, true, true, true, true, true, true, true, true, true, true, true, true, true, true, true, true, true, true, true, true, true, true, true, true, true, true, true, true, true, true, true, true, true, true, true, true, true, true, true, true, true, true, true, true, true, true, true, true, true, true, true, true, true, true, true, true, true, true, true, true, true, true, true, true, true, true, true, true, true, true, true, true, true, true, true, true, true, true, true, true, true, true, true, true, true, true, true, true, true, true, true, true, true, true, true, true, true, true, true, true] rfl rfl rfl 0 rfl rfl rfl hl.1 rfl (Nat.le_of_ble_eq_true rfl) dL_addUmbrella_5 ⟨Nat.le_of_ble_eq_true rfl, Nat.le_of_ble_eq_true rfl⟩ [.int u1.2.1, .int 0, .ref aO] rfl (fun h0 H locs hP hD hS => ?_) (fun h0 H locs ce q9 hP hD hS hce hcv hcl => ?_)
  rotate_left
  · have hf := ie (Nat.pos_iff_ne_zero.mp h0) hf
    by_cases ho : u1.1 = 4
    · have hf := it ho hf
      rw [ho] at hcl
      refine vx_catch (E := XK 4) hown [] ⟨0, 10, 13, 33⟩ [⟨0, 10, 17, 19⟩, ⟨0, 10, 21, 13⟩] htb (fun z hz => absurd hz List.not_mem_nil) rfl (by decide) (hg _ cl_L_33) (va_Nw.use rfl (hE.2.2.2.2.2.2.1 "java/lang/IndexOutOfBoundsException" (by decide))) hce hcv hcl ?_
      refine lv_astore (lv' := [(4, .ref q9), (0, .ref aX), (1, .int x1), (2, .int x2), (3, .ref aO)]) hx hb dL_addUmbrella_13 hl (by decide) rfl (fun ls hl => ?_)
      refine lv_iconst (v := 1) hx hb dL_addUmbrella_15 (by decide) ?_
      obtain rfl := Option.some.inj hf
      exact lm_iret (v := 1) hx hb hr hlocks hP hS dL_addUmbrella_16 (Nat.le_of_ble_eq_true rfl) (Nat.le_of_ble_eq_true rfl)
    · have hf := ie ho hf
      by_cases ho : u1.1 = 2
      · have hf := it ho hf
        rw [ho] at hcl
        refine vx_catch (E := XK 2) hown [⟨0, 10, 13, 33⟩] ⟨0, 10, 17, 19⟩ [⟨0, 10, 21, 13⟩] htb (fun z hz => by
      simp only [List.mem_cons, List.not_mem_nil, or_false] at hz
      rcases hz with rfl
      · exact Or.inr ⟨(by decide), _, hg _ cl_L_33, hN ("java/lang/IllegalArgumentException", "java/lang/IndexOutOfBoundsException") (by decide)⟩) rfl (by decide) (hg _ cl_L_19) (va_Nw.use rfl (hE.2.2.2.2.2.2.1 "java/lang/IllegalArgumentException" (by decide))) hce hcv hcl ?_
        refine lv_astore (lv' := [(4, .ref q9), (0, .ref aX), (1, .int x1), (2, .int x2), (3, .ref aO)]) hx hb dL_addUmbrella_17 hl (by decide) rfl (fun ls hl => ?_)
        refine lv_iconst (v := 2) hx hb dL_addUmbrella_19 (by decide) ?_
        obtain rfl := Option.some.inj hf
        exact lm_iret (v := 2) hx hb hr hlocks hP hS dL_addUmbrella_20 (Nat.le_of_ble_eq_true rfl) (Nat.le_of_ble_eq_true rfl)
      · have hf := ie ho hf
        by_cases ho : u1.1 = 1
        · have hf := it ho hf
          rw [ho] at hcl
          refine vx_catch (E := XK 1) hown [⟨0, 10, 13, 33⟩, ⟨0, 10, 17, 19⟩] ⟨0, 10, 21, 13⟩ [] htb (fun z hz => by
      simp only [List.mem_cons, List.not_mem_nil, or_false] at hz
      rcases hz with rfl | rfl
      · exact Or.inr ⟨(by decide), _, hg _ cl_L_33, hN ("java/lang/IllegalStateException", "java/lang/IndexOutOfBoundsException") (by decide)⟩
      · exact Or.inr ⟨(by decide), _, hg _ cl_L_19, hN ("java/lang/IllegalStateException", "java/lang/IllegalArgumentException") (by decide)⟩) rfl (by decide) (hg _ cl_L_13) (va_Nw.use rfl (hE.2.2.2.2.2.2.1 "java/lang/IllegalStateException" (by decide))) hce hcv hcl ?_
          refine lv_astore (lv' := [(4, .ref q9), (0, .ref aX), (1, .int x1), (2, .int x2), (3, .ref aO)]) hx hb dL_addUmbrella_21 hl (by decide) rfl (fun ls hl => ?_)
          refine lv_iconst (v := 3) hx hb dL_addUmbrella_23 (by decide) ?_
          obtain rfl := Option.some.inj hf
          exact lm_iret (v := 3) hx hb hr hlocks hP hS dL_addUmbrella_24 (Nat.le_of_ble_eq_true rfl) (Nat.le_of_ble_eq_true rfl)
        · have hf := ie ho hf
          cases hf
  have hf := it h0 hf
  refine lv_i2l (v := (Int32.toInt64 u1.2.1)) hx hb dL_addUmbrella_8 rfl ?_
  obtain ⟨hi, hf⟩ := ck_o hf
  refine al_st (w2 := (W_X aX aB aBw aP aN aNd aH aQ vX ++ (W_N aN aG aU aR vN ++ (W_G E aG vG ++ (W_U E aU u1.2.2.1 ++ (W_R E aR vR ++ (W_H aH aHA u1.2.2.2.1 ++ (W_NA E aHA 8 kn ++ (W_V8 E kn kg ku kr u1.2.2.2.2 ++ (W_J E aO 1 (vp_updL vO (Int32.toNatClampNeg 0) (Int32.toInt64 u1.2.1)))))))))))) hx hb hK hP hD hS 165 rfl hi rfl dL_addUmbrella_9 (fun H locs hP hD hS => ?_)
  obtain ⟨vO_3, hv, hf⟩ := lt_o hf
  rw [← hv] at hP hD
  clear hv
  refine lv_goto (tgt := 25) hx hb dL_addUmbrella_10 (by decide) ?_
  refine lv_iconst (v := 0) hx hb dL_addUmbrella_25 (by decide) ?_
  obtain rfl := Option.some.inj hf
  exact lm_iret (v := 0) hx hb hr hlocks hP hS dL_addUmbrella_26 (Nat.le_of_ble_eq_true rfl) (Nat.le_of_ble_eq_true rfl)
def F_L_leave (vX : Nat → Int32) (vN : Nat → Int32) (vG : Nat → Nat → Int32) (vU : Nat → Nat → Int32) (vR : Nat → Nat → Int32) (vH : Nat → Int32) (vHV : Nat → NV) (vO : Nat → Int64) (x1 : Int32) : Option (Int32 × (Nat → Nat → Int32) × (Nat → Nat → Int32) × (Nat → Nat → Int32) × (Nat → Int32) × (Nat → NV) × (Nat → Int64)) := (F_X8_leave vX vN vG vU vR vH vHV x1).bind (fun u1 => if u1.1 = 0 then (ck 0 1 (lt (vp_updL vO (Int32.toNatClampNeg 0) (Int32.toInt64 u1.2.1)) (fun vO_3 => (some (0, u1.2.2.1, u1.2.2.2.1, u1.2.2.2.2.1, u1.2.2.2.2.2.1, u1.2.2.2.2.2.2, vO_3))))) else (if u1.1 = 4 then ((some (1, u1.2.2.1, u1.2.2.2.1, u1.2.2.2.2.1, u1.2.2.2.2.2.1, u1.2.2.2.2.2.2, vO))) else (if u1.1 = 1 then ((some (2, u1.2.2.1, u1.2.2.2.1, u1.2.2.2.2.1, u1.2.2.2.2.2.1, u1.2.2.2.2.2.2, vO))) else (none))))
abbrev rm_L_leave : Room := { frames := 8, cells := 2, slots := 12, locals := 144 }
set_option maxHeartbeats 4000000 in
set_option maxRecDepth 100000 in
theorem c_L_leave (E : Ev) (l : Launch) (hst : l.stackTraces = false) (aX : Nat) (aB : Nat → Nat) (aBw : Nat → Nat) (aP : Nat) (aN : Nat) (aNd : Nat) (aH : Nat) (aQ : Nat) (aG : Nat → Nat) (aU : Nat → Nat) (aR : Nat → Nat) (aHA : Nat) (kn : Nat → Nat) (kg : Nat → Nat → Nat) (ku : Nat → Nat → Nat) (kr : Nat → Nat → Nat) (aO : Nat) (vX : Nat → Int32) (vN : Nat → Int32) (vG : Nat → Nat → Int32) (vU : Nat → Nat → Int32) (vR : Nat → Nat → Int32) (vH : Nat → Int32) (vHV : Nat → NV) (vO : Nat → Int64) (x1 : Int32) (r : Int32 × (Nat → Nat → Int32) × (Nat → Nat → Int32) × (Nat → Nat → Int32) × (Nat → Int32) × (Nat → NV) × (Nat → Int64)) (hf : F_L_leave vX vN vG vU vR vH vHV vO x1 = some r) : LM E l yL_leave (.codeWith yL_leave cL_leave 4 (some .int) [(0, 9, 12, 33), (0, 9, 15, 13)] :: GA) rm_L_leave [.ref aX, .int x1, .ref aO] (W_X aX aB aBw aP aN aNd aH aQ vX ++ (W_N aN aG aU aR vN ++ (W_G E aG vG ++ (W_U E aU vU ++ (W_R E aR vR ++ (W_H aH aHA vH ++ (W_NA E aHA 8 kn ++ (W_V8 E kn kg ku kr vHV ++ (W_J E aO 1 vO))))))))) (some (.int r.1)) (W_X aX aB aBw aP aN aNd aH aQ vX ++ (W_N aN aG aU aR vN ++ (W_G E aG r.2.1 ++ (W_U E aU r.2.2.1 ++ (W_R E aR r.2.2.2.1 ++ (W_H aH aHA r.2.2.2.2.1 ++ (W_NA E aHA 8 kn ++ (W_V8 E kn kg ku kr r.2.2.2.2.2.1 ++ (W_J E aO 1 r.2.2.2.2.2.2))))))))) 2 := by
  refine LM.of (own := RL) rfl (by decide) (Nat.le_of_ble_eq_true rfl) ?_
  intro p e s m below meth c A ls hx hb hr hml hown hg hlocks hK hE hN hA htb hP hD hS hl
  have hl : lv_has ls 4 [(0, .ref aX), (1, .int x1), (2, .ref aO)] := hl
  unfold F_L_leave at hf
  refine lv_aload_n hx hb dL_leave_0 rfl (lv_at hl 2 rfl) ?_
  refine lv_iconst (v := 0) hx hb dL_leave_1 (by decide) ?_
  refine lv_aload_n hx hb dL_leave_2 rfl (lv_at hl 0 rfl) ?_
  refine lv_iload_n hx hb dL_leave_3 rfl (lv_at hl 1 rfl) ?_
  obtain ⟨u1, hu1, hf⟩ := bn hf
  refine xm_V (As := [.int x1]) (rest := [.int 0, .ref aO]) (w2 := (W_X aX aB aBw aP aN aNd aH aQ vX ++ (W_N aN aG aU aR vN ++ (W_G E aG u1.2.2.1 ++ (W_U E aU u1.2.2.2.1 ++ (W_R E aR u1.2.2.2.2.1 ++ (W_H aH aHA u1.2.2.2.2.2.1 ++ (W_NA E aHA 8 kn ++ (W_V8 E kn kg ku kr u1.2.2.2.2.2.2 ++ (W_J E aO 1 vO)))))))))) hx hb hml hown hg (c_X8_leave E l hst aX aB aBw aP aN aNd aH aQ aG aU aR aHA kn kg ku kr vX vN vG vU vR vH vHV x1 u1 hu1) cy_X8_leave ml_L_123 ⟨⟨rfl, rfl⟩, Nat.le_of_ble_eq_true rfl, Nat.le_of_ble_eq_true rfl⟩ hK hE hP hD hS hA [true, true, true, true, true, true, true, true, true, true, true, true, true, true, true, true, true, true, true, true, true, true, true, true, true, true, true, true, true, true, true, true, true, true, true, true, true, true, true, true, true, true, true, true, true, true, true, true, true, true, true, true, true, true, true, true, true, true, true, true, true, true, true, true, true, true, true, true, true, true, true, true, true, true, true, true, true, true, true, true, true, true, true, true, true, true, true, true, true, true, true, true, true, true, true, true, true, true, true, true, true, true, true, true, true, true, true, true, true, true, true, true, true, true, true, true, true, true, true, true, true, true, true, true, true, true, true, true, true, true, true, true, true, true, true, true, true, true, true, true, true, true, true, true, true, true, true, true, true, true, true, true, true, true, true, true, true, true, true, true, true, true, true, true, true] rfl rfl rfl 0 rfl rfl rfl hl.1 rfl (Nat.le_of_ble_eq_true rfl) dL_leave_4 ⟨Nat.le_of_ble_eq_true rfl, Nat.le_of_ble_eq_true rfl⟩ [.int u1.2.1, .int 0, .ref aO] rfl (fun h0 H locs hP hD hS => ?_) (fun h0 H locs ce q9 hP hD hS hce hcv hcl => ?_)
  rotate_left
  · have hf := ie (Nat.pos_iff_ne_zero.mp h0) hf
    by_cases ho : u1.1 = 4
    · have hf := it ho hf
      rw [ho] at hcl
      refine vx_catch (E := XK 4) hown [] ⟨0, 9, 12, 33⟩ [⟨0, 9, 15, 13⟩] htb (fun z hz => absurd hz List.not_mem_nil) rfl (by decide) (hg _ cl_L_33) (va_Nw.use rfl (hE.2.2.2.2.2.2.1 "java/lang/IndexOutOfBoundsException" (by decide))) hce hcv hcl ?_
      refine lv_astore_n (lv' := [(3, .ref q9), (0, .ref aX), (1, .int x1), (2, .ref aO)]) hx hb dL_leave_12 rfl hl (by decide) rfl (fun ls hl => ?_)
      refine lv_iconst (v := 1) hx hb dL_leave_13 (by decide) ?_
      obtain rfl := Option.some.inj hf
      exact lm_iret (v := 1) hx hb hr hlocks hP hS dL_leave_14 (Nat.le_of_ble_eq_true rfl) (Nat.le_of_ble_eq_true rfl)
    · have hf := ie ho hf
      by_cases ho : u1.1 = 1
      · have hf := it ho hf
        rw [ho] at hcl
        refine vx_catch (E := XK 1) hown [⟨0, 9, 12, 33⟩] ⟨0, 9, 15, 13⟩ [] htb (fun z hz => by
      simp only [List.mem_cons, List.not_mem_nil, or_false] at hz
      rcases hz with rfl
      · exact Or.inr ⟨(by decide), _, hg _ cl_L_33, hN ("java/lang/IllegalStateException", "java/lang/IndexOutOfBoundsException") (by decide)⟩) rfl (by decide) (hg _ cl_L_13) (va_Nw.use rfl (hE.2.2.2.2.2.2.1 "java/lang/IllegalStateException" (by decide))) hce hcv hcl ?_
        refine lv_astore_n (lv' := [(3, .ref q9), (0, .ref aX), (1, .int x1), (2, .ref aO)]) hx hb dL_leave_15 rfl hl (by decide) rfl (fun ls hl => ?_)
        refine lv_iconst (v := 2) hx hb dL_leave_16 (by decide) ?_
        obtain rfl := Option.some.inj hf
        exact lm_iret (v := 2) hx hb hr hlocks hP hS dL_leave_17 (Nat.le_of_ble_eq_true rfl) (Nat.le_of_ble_eq_true rfl)
      · have hf := ie ho hf
        cases hf
  have hf := it h0 hf
  refine lv_i2l (v := (Int32.toInt64 u1.2.1)) hx hb dL_leave_7 rfl ?_
  obtain ⟨hi, hf⟩ := ck_o hf
  refine al_st (w2 := (W_X aX aB aBw aP aN aNd aH aQ vX ++ (W_N aN aG aU aR vN ++ (W_G E aG u1.2.2.1 ++ (W_U E aU u1.2.2.2.1 ++ (W_R E aR u1.2.2.2.2.1 ++ (W_H aH aHA u1.2.2.2.2.2.1 ++ (W_NA E aHA 8 kn ++ (W_V8 E kn kg ku kr u1.2.2.2.2.2.2 ++ (W_J E aO 1 (vp_updL vO (Int32.toNatClampNeg 0) (Int32.toInt64 u1.2.1)))))))))))) hx hb hK hP hD hS 165 rfl hi rfl dL_leave_8 (fun H locs hP hD hS => ?_)
  obtain ⟨vO_3, hv, hf⟩ := lt_o hf
  rw [← hv] at hP hD
  clear hv
  refine lv_goto (tgt := 18) hx hb dL_leave_9 (by decide) ?_
  refine lv_iconst (v := 0) hx hb dL_leave_18 (by decide) ?_
  obtain rfl := Option.some.inj hf
  exact lm_iret (v := 0) hx hb hr hlocks hP hS dL_leave_19 (Nat.le_of_ble_eq_true rfl) (Nat.le_of_ble_eq_true rfl)
def F_L_comeBack (vX : Nat → Int32) (vN : Nat → Int32) (vG : Nat → Nat → Int32) (vU : Nat → Nat → Int32) (vR : Nat → Nat → Int32) (vH : Nat → Int32) (vHV : Nat → NV) (vO : Nat → Int64) (x1 : Int32) : Option (Int32 × (Nat → Int32) × (Nat → Nat → Int32) × (Nat → Nat → Int32) × (Nat → Nat → Int32) × (Nat → Int32) × (Nat → NV) × (Nat → Int64)) := (F_X8_comeBack vX vN vG vU vR vH vHV x1).bind (fun u1 => if u1.1 = 0 then (ck 0 1 (lt (vp_updL vO (Int32.toNatClampNeg 0) (Int32.toInt64 u1.2.1)) (fun vO_3 => (some (0, u1.2.2.1, u1.2.2.2.1, u1.2.2.2.2.1, u1.2.2.2.2.2.1, u1.2.2.2.2.2.2.1, u1.2.2.2.2.2.2.2, vO_3))))) else (if u1.1 = 4 then ((some (1, u1.2.2.1, u1.2.2.2.1, u1.2.2.2.2.1, u1.2.2.2.2.2.1, u1.2.2.2.2.2.2.1, u1.2.2.2.2.2.2.2, vO))) else (if u1.1 = 1 then ((some (2, u1.2.2.1, u1.2.2.2.1, u1.2.2.2.2.1, u1.2.2.2.2.2.1, u1.2.2.2.2.2.2.1, u1.2.2.2.2.2.2.2, vO))) else (none))))
abbrev rm_L_comeBack : Room := { frames := 8, cells := 2, slots := 12, locals := 144 }
set_option maxHeartbeats 4000000 in
set_option maxRecDepth 100000 in
theorem c_L_comeBack (E : Ev) (l : Launch) (hst : l.stackTraces = false) (aX : Nat) (aB : Nat → Nat) (aBw : Nat → Nat) (aP : Nat) (aN : Nat) (aNd : Nat) (aH : Nat) (aQ : Nat) (aG : Nat → Nat) (aU : Nat → Nat) (aR : Nat → Nat) (aHA : Nat) (kn : Nat → Nat) (kg : Nat → Nat → Nat) (ku : Nat → Nat → Nat) (kr : Nat → Nat → Nat) (aO : Nat) (vX : Nat → Int32) (vN : Nat → Int32) (vG : Nat → Nat → Int32) (vU : Nat → Nat → Int32) (vR : Nat → Nat → Int32) (vH : Nat → Int32) (vHV : Nat → NV) (vO : Nat → Int64) (x1 : Int32) (r : Int32 × (Nat → Int32) × (Nat → Nat → Int32) × (Nat → Nat → Int32) × (Nat → Nat → Int32) × (Nat → Int32) × (Nat → NV) × (Nat → Int64)) (hf : F_L_comeBack vX vN vG vU vR vH vHV vO x1 = some r) : LM E l yL_comeBack (.codeWith yL_comeBack cL_comeBack 4 (some .int) [(0, 9, 12, 33), (0, 9, 15, 13)] :: GA) rm_L_comeBack [.ref aX, .int x1, .ref aO] (W_X aX aB aBw aP aN aNd aH aQ vX ++ (W_N aN aG aU aR vN ++ (W_G E aG vG ++ (W_U E aU vU ++ (W_R E aR vR ++ (W_H aH aHA vH ++ (W_NA E aHA 8 kn ++ (W_V8 E kn kg ku kr vHV ++ (W_J E aO 1 vO))))))))) (some (.int r.1)) (W_X aX aB aBw aP aN aNd aH aQ vX ++ (W_N aN aG aU aR r.2.1 ++ (W_G E aG r.2.2.1 ++ (W_U E aU r.2.2.2.1 ++ (W_R E aR r.2.2.2.2.1 ++ (W_H aH aHA r.2.2.2.2.2.1 ++ (W_NA E aHA 8 kn ++ (W_V8 E kn kg ku kr r.2.2.2.2.2.2.1 ++ (W_J E aO 1 r.2.2.2.2.2.2.2))))))))) 2 := by
  refine LM.of (own := RL) rfl (by decide) (Nat.le_of_ble_eq_true rfl) ?_
  intro p e s m below meth c A ls hx hb hr hml hown hg hlocks hK hE hN hA htb hP hD hS hl
  have hl : lv_has ls 4 [(0, .ref aX), (1, .int x1), (2, .ref aO)] := hl
  unfold F_L_comeBack at hf
  refine lv_aload_n hx hb dL_comeBack_0 rfl (lv_at hl 2 rfl) ?_
  refine lv_iconst (v := 0) hx hb dL_comeBack_1 (by decide) ?_
  refine lv_aload_n hx hb dL_comeBack_2 rfl (lv_at hl 0 rfl) ?_
  refine lv_iload_n hx hb dL_comeBack_3 rfl (lv_at hl 1 rfl) ?_
  obtain ⟨u1, hu1, hf⟩ := bn hf
  refine xm_V (As := [.int x1]) (rest := [.int 0, .ref aO]) (w2 := (W_X aX aB aBw aP aN aNd aH aQ vX ++ (W_N aN aG aU aR u1.2.2.1 ++ (W_G E aG u1.2.2.2.1 ++ (W_U E aU u1.2.2.2.2.1 ++ (W_R E aR u1.2.2.2.2.2.1 ++ (W_H aH aHA u1.2.2.2.2.2.2.1 ++ (W_NA E aHA 8 kn ++ (W_V8 E kn kg ku kr u1.2.2.2.2.2.2.2 ++ (W_J E aO 1 vO)))))))))) hx hb hml hown hg (c_X8_comeBack E l hst aX aB aBw aP aN aNd aH aQ aG aU aR aHA kn kg ku kr vX vN vG vU vR vH vHV x1 u1 hu1) cy_X8_comeBack ml_L_126 ⟨⟨rfl, rfl⟩, Nat.le_of_ble_eq_true rfl, Nat.le_of_ble_eq_true rfl⟩ hK hE hP hD hS hA [true, true, true, true, true, true, true, true, true, true, true, true, true, true, true, true, true, true, true, true, true, true, true, true, true, true, true, true, true, true, true, true, true, true, true, true, true, true, true, true, true, true, true, true, true, true, true, true, true, true, true, true, true, true, true, true, true, true, true, true, true, true, true, true, true, true, true, true, true, true, true, true, true, true, true, true, true, true, true, true, true, true, true, true, true, true, true, true, true, true, true, true, true, true, true, true, true, true, true, true, true, true, true, true, true, true, true, true, true, true, true, true, true, true, true, true, true, true, true, true, true, true, true, true, true, true, true, true, true, true, true, true, true, true, true, true, true, true, true, true, true, true, true, true, true, true, true, true, true, true, true, true, true, true, true, true, true, true, true, true, true, true, true, true, true] rfl rfl rfl 0 rfl rfl rfl hl.1 rfl (Nat.le_of_ble_eq_true rfl) dL_comeBack_4 ⟨Nat.le_of_ble_eq_true rfl, Nat.le_of_ble_eq_true rfl⟩ [.int u1.2.1, .int 0, .ref aO] rfl (fun h0 H locs hP hD hS => ?_) (fun h0 H locs ce q9 hP hD hS hce hcv hcl => ?_)
  rotate_left
  · have hf := ie (Nat.pos_iff_ne_zero.mp h0) hf
    by_cases ho : u1.1 = 4
    · have hf := it ho hf
      rw [ho] at hcl
      refine vx_catch (E := XK 4) hown [] ⟨0, 9, 12, 33⟩ [⟨0, 9, 15, 13⟩] htb (fun z hz => absurd hz List.not_mem_nil) rfl (by decide) (hg _ cl_L_33) (va_Nw.use rfl (hE.2.2.2.2.2.2.1 "java/lang/IndexOutOfBoundsException" (by decide))) hce hcv hcl ?_
      refine lv_astore_n (lv' := [(3, .ref q9), (0, .ref aX), (1, .int x1), (2, .ref aO)]) hx hb dL_comeBack_12 rfl hl (by decide) rfl (fun ls hl => ?_)
      refine lv_iconst (v := 1) hx hb dL_comeBack_13 (by decide) ?_
      obtain rfl := Option.some.inj hf
      exact lm_iret (v := 1) hx hb hr hlocks hP hS dL_comeBack_14 (Nat.le_of_ble_eq_true rfl) (Nat.le_of_ble_eq_true rfl)
    · have hf := ie ho hf
      by_cases ho : u1.1 = 1
      · have hf := it ho hf
        rw [ho] at hcl
        refine vx_catch (E := XK 1) hown [⟨0, 9, 12, 33⟩] ⟨0, 9, 15, 13⟩ [] htb (fun z hz => by
      simp only [List.mem_cons, List.not_mem_nil, or_false] at hz
      rcases hz with rfl
      · exact Or.inr ⟨(by decide), _, hg _ cl_L_33, hN ("java/lang/IllegalStateException", "java/lang/IndexOutOfBoundsException") (by decide)⟩) rfl (by decide) (hg _ cl_L_13) (va_Nw.use rfl (hE.2.2.2.2.2.2.1 "java/lang/IllegalStateException" (by decide))) hce hcv hcl ?_
        refine lv_astore_n (lv' := [(3, .ref q9), (0, .ref aX), (1, .int x1), (2, .ref aO)]) hx hb dL_comeBack_15 rfl hl (by decide) rfl (fun ls hl => ?_)
        refine lv_iconst (v := 2) hx hb dL_comeBack_16 (by decide) ?_
        obtain rfl := Option.some.inj hf
        exact lm_iret (v := 2) hx hb hr hlocks hP hS dL_comeBack_17 (Nat.le_of_ble_eq_true rfl) (Nat.le_of_ble_eq_true rfl)
      · have hf := ie ho hf
        cases hf
  have hf := it h0 hf
  refine lv_i2l (v := (Int32.toInt64 u1.2.1)) hx hb dL_comeBack_7 rfl ?_
  obtain ⟨hi, hf⟩ := ck_o hf
  refine al_st (w2 := (W_X aX aB aBw aP aN aNd aH aQ vX ++ (W_N aN aG aU aR u1.2.2.1 ++ (W_G E aG u1.2.2.2.1 ++ (W_U E aU u1.2.2.2.2.1 ++ (W_R E aR u1.2.2.2.2.2.1 ++ (W_H aH aHA u1.2.2.2.2.2.2.1 ++ (W_NA E aHA 8 kn ++ (W_V8 E kn kg ku kr u1.2.2.2.2.2.2.2 ++ (W_J E aO 1 (vp_updL vO (Int32.toNatClampNeg 0) (Int32.toInt64 u1.2.1)))))))))))) hx hb hK hP hD hS 165 rfl hi rfl dL_comeBack_8 (fun H locs hP hD hS => ?_)
  obtain ⟨vO_3, hv, hf⟩ := lt_o hf
  rw [← hv] at hP hD
  clear hv
  refine lv_goto (tgt := 18) hx hb dL_comeBack_9 (by decide) ?_
  refine lv_iconst (v := 0) hx hb dL_comeBack_18 (by decide) ?_
  obtain rfl := Option.some.inj hf
  exact lm_iret (v := 0) hx hb hr hlocks hP hS dL_comeBack_19 (Nat.le_of_ble_eq_true rfl) (Nat.le_of_ble_eq_true rfl)
def F_L_passMinutes (vX : Nat → Int32) (vN : Nat → Int32) (vG : Nat → Nat → Int32) (vU : Nat → Nat → Int32) (vR : Nat → Nat → Int32) (vH : Nat → Int32) (vHV : Nat → NV) (vO : Nat → Int64) (x1 : Int32) : Option (Int32 × (Nat → Int32) × (Nat → Nat → Int32) × (Nat → Nat → Int32) × (Nat → Int32) × (Nat → NV) × (Nat → Int64)) := (F_X8_passMinutes vX vN vG vU vR vH vHV x1).bind (fun u1 => if u1.1 = 0 then (ck 0 1 (lt (vp_updL vO (Int32.toNatClampNeg 0) (Int32.toInt64 u1.2.1)) (fun vO_3 => (some (0, u1.2.2.1, u1.2.2.2.1, u1.2.2.2.2.1, u1.2.2.2.2.2.1, u1.2.2.2.2.2.2, vO_3))))) else (if u1.1 = 2 then ((some (1, u1.2.2.1, u1.2.2.2.1, u1.2.2.2.2.1, u1.2.2.2.2.2.1, u1.2.2.2.2.2.2, vO))) else (if u1.1 = 1 then ((some (2, u1.2.2.1, u1.2.2.2.1, u1.2.2.2.2.1, u1.2.2.2.2.2.1, u1.2.2.2.2.2.2, vO))) else (none))))
abbrev rm_L_passMinutes : Room := { frames := 8, cells := 2, slots := 12, locals := 146 }
set_option maxHeartbeats 4000000 in
set_option maxRecDepth 100000 in
theorem c_L_passMinutes (E : Ev) (l : Launch) (hst : l.stackTraces = false) (aX : Nat) (aB : Nat → Nat) (aBw : Nat → Nat) (aP : Nat) (aN : Nat) (aNd : Nat) (aH : Nat) (aQ : Nat) (aG : Nat → Nat) (aU : Nat → Nat) (aR : Nat → Nat) (aHA : Nat) (kn : Nat → Nat) (kg : Nat → Nat → Nat) (ku : Nat → Nat → Nat) (kr : Nat → Nat → Nat) (aO : Nat) (vX : Nat → Int32) (vN : Nat → Int32) (vG : Nat → Nat → Int32) (vU : Nat → Nat → Int32) (vR : Nat → Nat → Int32) (vH : Nat → Int32) (vHV : Nat → NV) (vO : Nat → Int64) (x1 : Int32) (r : Int32 × (Nat → Int32) × (Nat → Nat → Int32) × (Nat → Nat → Int32) × (Nat → Int32) × (Nat → NV) × (Nat → Int64)) (hf : F_L_passMinutes vX vN vG vU vR vH vHV vO x1 = some r) : LM E l yL_passMinutes (.codeWith yL_passMinutes cL_passMinutes 4 (some .int) [(0, 9, 12, 19), (0, 9, 15, 13)] :: GA) rm_L_passMinutes [.ref aX, .int x1, .ref aO] (W_X aX aB aBw aP aN aNd aH aQ vX ++ (W_N aN aG aU aR vN ++ (W_G E aG vG ++ (W_U E aU vU ++ (W_R E aR vR ++ (W_H aH aHA vH ++ (W_NA E aHA 8 kn ++ (W_V8 E kn kg ku kr vHV ++ (W_J E aO 1 vO))))))))) (some (.int r.1)) (W_X aX aB aBw aP aN aNd aH aQ vX ++ (W_N aN aG aU aR r.2.1 ++ (W_G E aG r.2.2.1 ++ (W_U E aU r.2.2.2.1 ++ (W_R E aR vR ++ (W_H aH aHA r.2.2.2.2.1 ++ (W_NA E aHA 8 kn ++ (W_V8 E kn kg ku kr r.2.2.2.2.2.1 ++ (W_J E aO 1 r.2.2.2.2.2.2))))))))) 2 := by
  refine LM.of (own := RL) rfl (by decide) (Nat.le_of_ble_eq_true rfl) ?_
  intro p e s m below meth c A ls hx hb hr hml hown hg hlocks hK hE hN hA htb hP hD hS hl
  have hl : lv_has ls 4 [(0, .ref aX), (1, .int x1), (2, .ref aO)] := hl
  unfold F_L_passMinutes at hf
  refine lv_aload_n hx hb dL_passMinutes_0 rfl (lv_at hl 2 rfl) ?_
  refine lv_iconst (v := 0) hx hb dL_passMinutes_1 (by decide) ?_
  refine lv_aload_n hx hb dL_passMinutes_2 rfl (lv_at hl 0 rfl) ?_
  refine lv_iload_n hx hb dL_passMinutes_3 rfl (lv_at hl 1 rfl) ?_
  obtain ⟨u1, hu1, hf⟩ := bn hf
  refine xm_V (As := [.int x1]) (rest := [.int 0, .ref aO]) (w2 := (W_X aX aB aBw aP aN aNd aH aQ vX ++ (W_N aN aG aU aR u1.2.2.1 ++ (W_G E aG u1.2.2.2.1 ++ (W_U E aU u1.2.2.2.2.1 ++ (W_R E aR vR ++ (W_H aH aHA u1.2.2.2.2.2.1 ++ (W_NA E aHA 8 kn ++ (W_V8 E kn kg ku kr u1.2.2.2.2.2.2 ++ (W_J E aO 1 vO)))))))))) hx hb hml hown hg (c_X8_passMinutes E l hst aX aB aBw aP aN aNd aH aQ aG aU aR aHA kn kg ku kr vX vN vG vU vR vH vHV x1 u1 hu1) cy_X8_passMinutes ml_L_129 ⟨⟨rfl, rfl⟩, Nat.le_of_ble_eq_true rfl, Nat.le_of_ble_eq_true rfl⟩ hK hE hP hD hS hA [true, true, true, true, true, true, true, true, true, true, true, true, true, true, true, true, true, true, true, true, true, true, true, true, true, true, true, true, true, true, true, true, true, true, true, true, true, true, true, true, true, true, true, true, true, true, true, true, true, true, true, true, true, true, true, true, true, true, true, true, true, true, true, true, true, true, true, true, true, true, true, true, true, true, true, true, true, true, true, true, true, true, true, true, true, true, true, true, true, true, true, true, true, true, true, true, true, true, true, true, true, true, true, true, true, true, true, true, true, true, true, true, true, true, true, true, true, true, true, true, true, true, true, true, true, true, true, true, true, true, true, true, true, true, true, true, true, true, true, true, true, true, true, true, true, true, true, true, true, true, true, true, true, true, true, true, true, true, true, true, true, true, true, true, true] rfl rfl rfl 0 rfl rfl rfl hl.1 rfl (Nat.le_of_ble_eq_true rfl) dL_passMinutes_4 ⟨Nat.le_of_ble_eq_true rfl, Nat.le_of_ble_eq_true rfl⟩ [.int u1.2.1, .int 0, .ref aO] rfl (fun h0 H locs hP hD hS => ?_) (fun h0 H locs ce q9 hP hD hS hce hcv hcl => ?_)
  rotate_left
  · have hf := ie (Nat.pos_iff_ne_zero.mp h0) hf
    by_cases ho : u1.1 = 2
    · have hf := it ho hf
      rw [ho] at hcl
      refine vx_catch (E := XK 2) hown [] ⟨0, 9, 12, 19⟩ [⟨0, 9, 15, 13⟩] htb (fun z hz => absurd hz List.not_mem_nil) rfl (by decide) (hg _ cl_L_19) (va_Nw.use rfl (hE.2.2.2.2.2.2.1 "java/lang/IllegalArgumentException" (by decide))) hce hcv hcl ?_
      refine lv_astore_n (lv' := [(3, .ref q9), (0, .ref aX), (1, .int x1), (2, .ref aO)]) hx hb dL_passMinutes_12 rfl hl (by decide) rfl (fun ls hl => ?_)
      refine lv_iconst (v := 1) hx hb dL_passMinutes_13 (by decide) ?_
      obtain rfl := Option.some.inj hf
      exact lm_iret (v := 1) hx hb hr hlocks hP hS dL_passMinutes_14 (Nat.le_of_ble_eq_true rfl) (Nat.le_of_ble_eq_true rfl)
    · have hf := ie ho hf
      by_cases ho : u1.1 = 1
      · have hf := it ho hf
        rw [ho] at hcl
        refine vx_catch (E := XK 1) hown [⟨0, 9, 12, 19⟩] ⟨0, 9, 15, 13⟩ [] htb (fun z hz => by
      simp only [List.mem_cons, List.not_mem_nil, or_false] at hz
      rcases hz with rfl
      · exact Or.inr ⟨(by decide), _, hg _ cl_L_19, hN ("java/lang/IllegalStateException", "java/lang/IllegalArgumentException") (by decide)⟩) rfl (by decide) (hg _ cl_L_13) (va_Nw.use rfl (hE.2.2.2.2.2.2.1 "java/lang/IllegalStateException" (by decide))) hce hcv hcl ?_
        refine lv_astore_n (lv' := [(3, .ref q9), (0, .ref aX), (1, .int x1), (2, .ref aO)]) hx hb dL_passMinutes_15 rfl hl (by decide) rfl (fun ls hl => ?_)
        refine lv_iconst (v := 2) hx hb dL_passMinutes_16 (by decide) ?_
        obtain rfl := Option.some.inj hf
        exact lm_iret (v := 2) hx hb hr hlocks hP hS dL_passMinutes_17 (Nat.le_of_ble_eq_true rfl) (Nat.le_of_ble_eq_true rfl)
      · have hf := ie ho hf
        cases hf
  have hf := it h0 hf
  refine lv_i2l (v := (Int32.toInt64 u1.2.1)) hx hb dL_passMinutes_7 rfl ?_
  obtain ⟨hi, hf⟩ := ck_o hf
  refine al_st (w2 := (W_X aX aB aBw aP aN aNd aH aQ vX ++ (W_N aN aG aU aR u1.2.2.1 ++ (W_G E aG u1.2.2.2.1 ++ (W_U E aU u1.2.2.2.2.1 ++ (W_R E aR vR ++ (W_H aH aHA u1.2.2.2.2.2.1 ++ (W_NA E aHA 8 kn ++ (W_V8 E kn kg ku kr u1.2.2.2.2.2.2 ++ (W_J E aO 1 (vp_updL vO (Int32.toNatClampNeg 0) (Int32.toInt64 u1.2.1)))))))))))) hx hb hK hP hD hS 165 rfl hi rfl dL_passMinutes_8 (fun H locs hP hD hS => ?_)
  obtain ⟨vO_3, hv, hf⟩ := lt_o hf
  rw [← hv] at hP hD
  clear hv
  refine lv_goto (tgt := 18) hx hb dL_passMinutes_9 (by decide) ?_
  refine lv_iconst (v := 0) hx hb dL_passMinutes_18 (by decide) ?_
  obtain rfl := Option.some.inj hf
  exact lm_iret (v := 0) hx hb hr hlocks hP hS dL_passMinutes_19 (Nat.le_of_ble_eq_true rfl) (Nat.le_of_ble_eq_true rfl)
def F_L_walkDog (vX : Nat → Int32) (vN : Nat → Int32) (vG : Nat → Nat → Int32) (vU : Nat → Nat → Int32) (vR : Nat → Nat → Int32) (vH : Nat → Int32) (vHV : Nat → NV) (vO : Nat → Int64) (x1 : Int32) : Option (Int32 × (Nat → Nat → Int32) × (Nat → Int32) × (Nat → NV) × (Nat → Int64)) := (F_X8_walkDog vX vN vG vU vR vH vHV x1).bind (fun u1 => if u1.1 = 0 then (ck 0 1 (lt (vp_updL vO (Int32.toNatClampNeg 0) (Int32.toInt64 u1.2.1)) (fun vO_3 => (some (0, u1.2.2.1, u1.2.2.2.1, u1.2.2.2.2, vO_3))))) else (if u1.1 = 4 then ((some (1, u1.2.2.1, u1.2.2.2.1, u1.2.2.2.2, vO))) else (if u1.1 = 1 then ((some (2, u1.2.2.1, u1.2.2.2.1, u1.2.2.2.2, vO))) else (none))))
abbrev rm_L_walkDog : Room := { frames := 8, cells := 2, slots := 12, locals := 144 }
set_option maxHeartbeats 4000000 in
set_option maxRecDepth 100000 in
theorem c_L_walkDog (E : Ev) (l : Launch) (hst : l.stackTraces = false) (aX : Nat) (aB : Nat → Nat) (aBw : Nat → Nat) (aP : Nat) (aN : Nat) (aNd : Nat) (aH : Nat) (aQ : Nat) (aG : Nat → Nat) (aU : Nat → Nat) (aR : Nat → Nat) (aHA : Nat) (kn : Nat → Nat) (kg : Nat → Nat → Nat) (ku : Nat → Nat → Nat) (kr : Nat → Nat → Nat) (aO : Nat) (vX : Nat → Int32) (vN : Nat → Int32) (vG : Nat → Nat → Int32) (vU : Nat → Nat → Int32) (vR : Nat → Nat → Int32) (vH : Nat → Int32) (vHV : Nat → NV) (vO : Nat → Int64) (x1 : Int32) (r : Int32 × (Nat → Nat → Int32) × (Nat → Int32) × (Nat → NV) × (Nat → Int64)) (hf : F_L_walkDog vX vN vG vU vR vH vHV vO x1 = some r) : LM E l yL_walkDog (.codeWith yL_walkDog cL_walkDog 4 (some .int) [(0, 9, 12, 33), (0, 9, 15, 13)] :: GA) rm_L_walkDog [.ref aX, .int x1, .ref aO] (W_X aX aB aBw aP aN aNd aH aQ vX ++ (W_N aN aG aU aR vN ++ (W_G E aG vG ++ (W_U E aU vU ++ (W_R E aR vR ++ (W_H aH aHA vH ++ (W_NA E aHA 8 kn ++ (W_V8 E kn kg ku kr vHV ++ (W_J E aO 1 vO))))))))) (some (.int r.1)) (W_X aX aB aBw aP aN aNd aH aQ vX ++ (W_N aN aG aU aR vN ++ (W_G E aG r.2.1 ++ (W_U E aU vU ++ (W_R E aR vR ++ (W_H aH aHA r.2.2.1 ++ (W_NA E aHA 8 kn ++ (W_V8 E kn kg ku kr r.2.2.2.1 ++ (W_J E aO 1 r.2.2.2.2))))))))) 2 := by
  refine LM.of (own := RL) rfl (by decide) (Nat.le_of_ble_eq_true rfl) ?_
  intro p e s m below meth c A ls hx hb hr hml hown hg hlocks hK hE hN hA htb hP hD hS hl
  have hl : lv_has ls 4 [(0, .ref aX), (1, .int x1), (2, .ref aO)] := hl
  unfold F_L_walkDog at hf
  refine lv_aload_n hx hb dL_walkDog_0 rfl (lv_at hl 2 rfl) ?_
  refine lv_iconst (v := 0) hx hb dL_walkDog_1 (by decide) ?_
  refine lv_aload_n hx hb dL_walkDog_2 rfl (lv_at hl 0 rfl) ?_
  refine lv_iload_n hx hb dL_walkDog_3 rfl (lv_at hl 1 rfl) ?_
  obtain ⟨u1, hu1, hf⟩ := bn hf
  refine xm_V (As := [.int x1]) (rest := [.int 0, .ref aO]) (w2 := (W_X aX aB aBw aP aN aNd aH aQ vX ++ (W_N aN aG aU aR vN ++ (W_G E aG u1.2.2.1 ++ (W_U E aU vU ++ (W_R E aR vR ++ (W_H aH aHA u1.2.2.2.1 ++ (W_NA E aHA 8 kn ++ (W_V8 E kn kg ku kr u1.2.2.2.2 ++ (W_J E aO 1 vO)))))))))) hx hb hml hown hg (c_X8_walkDog E l hst aX aB aBw aP aN aNd aH aQ aG aU aR aHA kn kg ku kr vX vN vG vU vR vH vHV x1 u1 hu1) cy_X8_walkDog ml_L_132 ⟨⟨rfl, rfl⟩, Nat.le_of_ble_eq_true rfl, Nat.le_of_ble_eq_true rfl⟩ hK hE hP hD hS hA [true, true, true, true, true, true, true, true, true, true, true, true, true, true, true, true, true, true, true, true, true, true, true, true, true, true, true, true, true, true, true, true, true, true, true, true, true, true, true, true, true, true, true, true, true, true, true, true, true, true, true, true, true, true, true, true, true, true, true, true, true, true, true, true, true, true, true, true, true, true, true, true, true, true, true, true, true, true, true, true, true, true, true, true, true, true, true, true, true, true, true, true, true, true, true, true, true, true, true, true, true, true, true, true, true, true, true, true, true, true, true, true, true, true, true, true, true, true, true, true, true, true, true, true, true, true, true, true, true, true, true, true, true, true, true, true, true, true, true, true, true, true, true, true, true, true, true, true, true, true, true, true, true, true, true, true, true, true, true, true, true, true, true, true, true] rfl rfl rfl 0 rfl rfl rfl hl.1 rfl (Nat.le_of_ble_eq_true rfl) dL_walkDog_4 ⟨Nat.le_of_ble_eq_true rfl, Nat.le_of_ble_eq_true rfl⟩ [.int u1.2.1, .int 0, .ref aO] rfl (fun h0 H locs hP hD hS => ?_) (fun h0 H locs ce q9 hP hD hS hce hcv hcl => ?_)
  rotate_left
  · have hf := ie (Nat.pos_iff_ne_zero.mp h0) hf
    by_cases ho : u1.1 = 4
    · have hf := it ho hf
      rw [ho] at hcl
      refine vx_catch (E := XK 4) hown [] ⟨0, 9, 12, 33⟩ [⟨0, 9, 15, 13⟩] htb (fun z hz => absurd hz List.not_mem_nil) rfl (by decide) (hg _ cl_L_33) (va_Nw.use rfl (hE.2.2.2.2.2.2.1 "java/lang/IndexOutOfBoundsException" (by decide))) hce hcv hcl ?_
      refine lv_astore_n (lv' := [(3, .ref q9), (0, .ref aX), (1, .int x1), (2, .ref aO)]) hx hb dL_walkDog_12 rfl hl (by decide) rfl (fun ls hl => ?_)
      refine lv_iconst (v := 1) hx hb dL_walkDog_13 (by decide) ?_
      obtain rfl := Option.some.inj hf
      exact lm_iret (v := 1) hx hb hr hlocks hP hS dL_walkDog_14 (Nat.le_of_ble_eq_true rfl) (Nat.le_of_ble_eq_true rfl)
    · have hf := ie ho hf
      by_cases ho : u1.1 = 1
      · have hf := it ho hf
        rw [ho] at hcl
        refine vx_catch (E := XK 1) hown [⟨0, 9, 12, 33⟩] ⟨0, 9, 15, 13⟩ [] htb (fun z hz => by
      simp only [List.mem_cons, List.not_mem_nil, or_false] at hz
      rcases hz with rfl
      · exact Or.inr ⟨(by decide), _, hg _ cl_L_33, hN ("java/lang/IllegalStateException", "java/lang/IndexOutOfBoundsException") (by decide)⟩) rfl (by decide) (hg _ cl_L_13) (va_Nw.use rfl (hE.2.2.2.2.2.2.1 "java/lang/IllegalStateException" (by decide))) hce hcv hcl ?_
        refine lv_astore_n (lv' := [(3, .ref q9), (0, .ref aX), (1, .int x1), (2, .ref aO)]) hx hb dL_walkDog_15 rfl hl (by decide) rfl (fun ls hl => ?_)
        refine lv_iconst (v := 2) hx hb dL_walkDog_16 (by decide) ?_
        obtain rfl := Option.some.inj hf
        exact lm_iret (v := 2) hx hb hr hlocks hP hS dL_walkDog_17 (Nat.le_of_ble_eq_true rfl) (Nat.le_of_ble_eq_true rfl)
      · have hf := ie ho hf
        cases hf
  have hf := it h0 hf
  refine lv_i2l (v := (Int32.toInt64 u1.2.1)) hx hb dL_walkDog_7 rfl ?_
  obtain ⟨hi, hf⟩ := ck_o hf
  refine al_st (w2 := (W_X aX aB aBw aP aN aNd aH aQ vX ++ (W_N aN aG aU aR vN ++ (W_G E aG u1.2.2.1 ++ (W_U E aU vU ++ (W_R E aR vR ++ (W_H aH aHA u1.2.2.2.1 ++ (W_NA E aHA 8 kn ++ (W_V8 E kn kg ku kr u1.2.2.2.2 ++ (W_J E aO 1 (vp_updL vO (Int32.toNatClampNeg 0) (Int32.toInt64 u1.2.1)))))))))))) hx hb hK hP hD hS 165 rfl hi rfl dL_walkDog_8 (fun H locs hP hD hS => ?_)
  obtain ⟨vO_3, hv, hf⟩ := lt_o hf
  rw [← hv] at hP hD
  clear hv
  refine lv_goto (tgt := 18) hx hb dL_walkDog_9 (by decide) ?_
  refine lv_iconst (v := 0) hx hb dL_walkDog_18 (by decide) ?_
  obtain rfl := Option.some.inj hf
  exact lm_iret (v := 0) hx hb hr hlocks hP hS dL_walkDog_19 (Nat.le_of_ble_eq_true rfl) (Nat.le_of_ble_eq_true rfl)
def F_L_setRain (vX : Nat → Int32) (vN : Nat → Int32) (vG : Nat → Nat → Int32) (vU : Nat → Nat → Int32) (vR : Nat → Nat → Int32) (vH : Nat → Int32) (vHV : Nat → NV) (vO : Nat → Int64) (x1 : Int32) : Option (Int32 × (Nat → Int32) × (Nat → Int32) × (Nat → NV) × (Nat → Int64)) := (F_X8_setRain vX vN vG vU vR vH vHV x1).bind (fun u1 => if u1.1 = 0 then (ck 0 1 (lt (vp_updL vO (Int32.toNatClampNeg 0) (Int32.toInt64 u1.2.1)) (fun vO_3 => (some (0, u1.2.2.1, u1.2.2.2.1, u1.2.2.2.2, vO_3))))) else (if u1.1 = 2 then ((some (1, u1.2.2.1, u1.2.2.2.1, u1.2.2.2.2, vO))) else (none)))
abbrev rm_L_setRain : Room := { frames := 8, cells := 1, slots := 6, locals := 145 }
set_option maxHeartbeats 4000000 in
set_option maxRecDepth 100000 in
theorem c_L_setRain (E : Ev) (l : Launch) (hst : l.stackTraces = false) (aX : Nat) (aB : Nat → Nat) (aBw : Nat → Nat) (aP : Nat) (aN : Nat) (aNd : Nat) (aH : Nat) (aQ : Nat) (aG : Nat → Nat) (aU : Nat → Nat) (aR : Nat → Nat) (aHA : Nat) (kn : Nat → Nat) (kg : Nat → Nat → Nat) (ku : Nat → Nat → Nat) (kr : Nat → Nat → Nat) (aO : Nat) (vX : Nat → Int32) (vN : Nat → Int32) (vG : Nat → Nat → Int32) (vU : Nat → Nat → Int32) (vR : Nat → Nat → Int32) (vH : Nat → Int32) (vHV : Nat → NV) (vO : Nat → Int64) (x1 : Int32) (r : Int32 × (Nat → Int32) × (Nat → Int32) × (Nat → NV) × (Nat → Int64)) (hf : F_L_setRain vX vN vG vU vR vH vHV vO x1 = some r) : LM E l yL_setRain (.codeWith yL_setRain cL_setRain 4 (some .int) [(0, 9, 12, 19)] :: GA) rm_L_setRain [.ref aX, .int x1, .ref aO] (W_X aX aB aBw aP aN aNd aH aQ vX ++ (W_N aN aG aU aR vN ++ (W_G E aG vG ++ (W_U E aU vU ++ (W_R E aR vR ++ (W_H aH aHA vH ++ (W_NA E aHA 8 kn ++ (W_V8 E kn kg ku kr vHV ++ (W_J E aO 1 vO))))))))) (some (.int r.1)) (W_X aX aB aBw aP aN aNd aH aQ vX ++ (W_N aN aG aU aR r.2.1 ++ (W_G E aG vG ++ (W_U E aU vU ++ (W_R E aR vR ++ (W_H aH aHA r.2.2.1 ++ (W_NA E aHA 8 kn ++ (W_V8 E kn kg ku kr r.2.2.2.1 ++ (W_J E aO 1 r.2.2.2.2))))))))) 1 := by
  refine LM.of (own := RL) rfl (by decide) (Nat.le_of_ble_eq_true rfl) ?_
  intro p e s m below meth c A ls hx hb hr hml hown hg hlocks hK hE hN hA htb hP hD hS hl
  have hl : lv_has ls 4 [(0, .ref aX), (1, .int x1), (2, .ref aO)] := hl
  unfold F_L_setRain at hf
  refine lv_aload_n hx hb dL_setRain_0 rfl (lv_at hl 2 rfl) ?_
  refine lv_iconst (v := 0) hx hb dL_setRain_1 (by decide) ?_
  refine lv_aload_n hx hb dL_setRain_2 rfl (lv_at hl 0 rfl) ?_
  refine lv_iload_n hx hb dL_setRain_3 rfl (lv_at hl 1 rfl) ?_
  obtain ⟨u1, hu1, hf⟩ := bn hf
  refine xm_V (As := [.int x1]) (rest := [.int 0, .ref aO]) (w2 := (W_X aX aB aBw aP aN aNd aH aQ vX ++ (W_N aN aG aU aR u1.2.2.1 ++ (W_G E aG vG ++ (W_U E aU vU ++ (W_R E aR vR ++ (W_H aH aHA u1.2.2.2.1 ++ (W_NA E aHA 8 kn ++ (W_V8 E kn kg ku kr u1.2.2.2.2 ++ (W_J E aO 1 vO)))))))))) hx hb hml hown hg (c_X8_setRain E l hst aX aB aBw aP aN aNd aH aQ aG aU aR aHA kn kg ku kr vX vN vG vU vR vH vHV x1 u1 hu1) cy_X8_setRain ml_L_135 ⟨⟨rfl, rfl⟩, Nat.le_of_ble_eq_true rfl, Nat.le_of_ble_eq_true rfl⟩ hK hE hP hD hS hA [true, true, true, true, true, true, true, true, true, true, true, true, true, true, true, true, true, true, true, true, true, true, true, true, true, true, true, true, true, true, true, true, true, true, true, true, true, true, true, true, true, true, true, true, true, true, true, true, true, true, true, true, true, true, true, true, true, true, true, true, true, true, true, true, true, true, true, true, true, true, true, true, true, true, true, true, true, true, true, true, true, true, true, true, true, true, true, true, true, true, true, true, true, true, true, true, true, true, true, true, true, true, true, true, true, true, true, true, true, true, true, true, true, true, true, true, true, true, true, true, true, true, true, true, true, true, true, true, true, true, true, true, true, true, true, true, true, true, true, true, true, true, true, true, true, true, true, true, true, true, true, true, true, true, true, true, true, true, true, true, true, true, true, true, true] rfl rfl rfl 0 rfl rfl rfl hl.1 rfl (Nat.le_of_ble_eq_true rfl) dL_setRain_4 ⟨Nat.le_of_ble_eq_true rfl, Nat.le_of_ble_eq_true rfl⟩ [.int u1.2.1, .int 0, .ref aO] rfl (fun h0 H locs hP hD hS => ?_) (fun h0 H locs ce q9 hP hD hS hce hcv hcl => ?_)
  rotate_left
  · have hf := ie (Nat.pos_iff_ne_zero.mp h0) hf
    by_cases ho : u1.1 = 2
    · have hf := it ho hf
      rw [ho] at hcl
      refine vx_catch (E := XK 2) hown [] ⟨0, 9, 12, 19⟩ [] htb (fun z hz => absurd hz List.not_mem_nil) rfl (by decide) (hg _ cl_L_19) (va_Nw.use rfl (hE.2.2.2.2.2.2.1 "java/lang/IllegalArgumentException" (by decide))) hce hcv hcl ?_
      refine lv_astore_n (lv' := [(3, .ref q9), (0, .ref aX), (1, .int x1), (2, .ref aO)]) hx hb dL_setRain_12 rfl hl (by decide) rfl (fun ls hl => ?_)
      refine lv_iconst (v := 1) hx hb dL_setRain_13 (by decide) ?_
      obtain rfl := Option.some.inj hf
      exact lm_iret (v := 1) hx hb hr hlocks hP hS dL_setRain_14 (Nat.le_of_ble_eq_true rfl) (Nat.le_of_ble_eq_true rfl)
    · have hf := ie ho hf
      cases hf
  have hf := it h0 hf
  refine lv_i2l (v := (Int32.toInt64 u1.2.1)) hx hb dL_setRain_7 rfl ?_
  obtain ⟨hi, hf⟩ := ck_o hf
  refine al_st (w2 := (W_X aX aB aBw aP aN aNd aH aQ vX ++ (W_N aN aG aU aR u1.2.2.1 ++ (W_G E aG vG ++ (W_U E aU vU ++ (W_R E aR vR ++ (W_H aH aHA u1.2.2.2.1 ++ (W_NA E aHA 8 kn ++ (W_V8 E kn kg ku kr u1.2.2.2.2 ++ (W_J E aO 1 (vp_updL vO (Int32.toNatClampNeg 0) (Int32.toInt64 u1.2.1)))))))))))) hx hb hK hP hD hS 165 rfl hi rfl dL_setRain_8 (fun H locs hP hD hS => ?_)
  obtain ⟨vO_3, hv, hf⟩ := lt_o hf
  rw [← hv] at hP hD
  clear hv
  refine lv_goto (tgt := 15) hx hb dL_setRain_9 (by decide) ?_
  refine lv_iconst (v := 0) hx hb dL_setRain_15 (by decide) ?_
  obtain rfl := Option.some.inj hf
  exact lm_iret (v := 0) hx hb hr hlocks hP hS dL_setRain_16 (Nat.le_of_ble_eq_true rfl) (Nat.le_of_ble_eq_true rfl)
def F_L_setNoiseLimit (vX : Nat → Int32) (vN : Nat → Int32) (vG : Nat → Nat → Int32) (vU : Nat → Nat → Int32) (vR : Nat → Nat → Int32) (vH : Nat → Int32) (vHV : Nat → NV) (vO : Nat → Int64) (x1 : Int32) : Option (Int32 × (Nat → Int32) × (Nat → Int32) × (Nat → NV) × (Nat → Int64)) := (F_X8_setNoiseLimit vX vN vG vU vR vH vHV x1).bind (fun u1 => if u1.1 = 0 then (ck 0 1 (lt (vp_updL vO (Int32.toNatClampNeg 0) (Int32.toInt64 u1.2.1)) (fun vO_3 => (some (0, u1.2.2.1, u1.2.2.2.1, u1.2.2.2.2, vO_3))))) else (if u1.1 = 2 then ((some (1, u1.2.2.1, u1.2.2.2.1, u1.2.2.2.2, vO))) else (none)))
abbrev rm_L_setNoiseLimit : Room := { frames := 8, cells := 1, slots := 6, locals := 145 }
set_option maxHeartbeats 4000000 in
set_option maxRecDepth 100000 in
theorem c_L_setNoiseLimit (E : Ev) (l : Launch) (hst : l.stackTraces = false) (aX : Nat) (aB : Nat → Nat) (aBw : Nat → Nat) (aP : Nat) (aN : Nat) (aNd : Nat) (aH : Nat) (aQ : Nat) (aG : Nat → Nat) (aU : Nat → Nat) (aR : Nat → Nat) (aHA : Nat) (kn : Nat → Nat) (kg : Nat → Nat → Nat) (ku : Nat → Nat → Nat) (kr : Nat → Nat → Nat) (aO : Nat) (vX : Nat → Int32) (vN : Nat → Int32) (vG : Nat → Nat → Int32) (vU : Nat → Nat → Int32) (vR : Nat → Nat → Int32) (vH : Nat → Int32) (vHV : Nat → NV) (vO : Nat → Int64) (x1 : Int32) (r : Int32 × (Nat → Int32) × (Nat → Int32) × (Nat → NV) × (Nat → Int64)) (hf : F_L_setNoiseLimit vX vN vG vU vR vH vHV vO x1 = some r) : LM E l yL_setNoiseLimit (.codeWith yL_setNoiseLimit cL_setNoiseLimit 4 (some .int) [(0, 9, 12, 19)] :: GA) rm_L_setNoiseLimit [.ref aX, .int x1, .ref aO] (W_X aX aB aBw aP aN aNd aH aQ vX ++ (W_N aN aG aU aR vN ++ (W_G E aG vG ++ (W_U E aU vU ++ (W_R E aR vR ++ (W_H aH aHA vH ++ (W_NA E aHA 8 kn ++ (W_V8 E kn kg ku kr vHV ++ (W_J E aO 1 vO))))))))) (some (.int r.1)) (W_X aX aB aBw aP aN aNd aH aQ vX ++ (W_N aN aG aU aR r.2.1 ++ (W_G E aG vG ++ (W_U E aU vU ++ (W_R E aR vR ++ (W_H aH aHA r.2.2.1 ++ (W_NA E aHA 8 kn ++ (W_V8 E kn kg ku kr r.2.2.2.1 ++ (W_J E aO 1 r.2.2.2.2))))))))) 1 := by
  refine LM.of (own := RL) rfl (by decide) (Nat.le_of_ble_eq_true rfl) ?_
  intro p e s m below meth c A ls hx hb hr hml hown hg hlocks hK hE hN hA htb hP hD hS hl
  have hl : lv_has ls 4 [(0, .ref aX), (1, .int x1), (2, .ref aO)] := hl
  unfold F_L_setNoiseLimit at hf
  refine lv_aload_n hx hb dL_setNoiseLimit_0 rfl (lv_at hl 2 rfl) ?_
  refine lv_iconst (v := 0) hx hb dL_setNoiseLimit_1 (by decide) ?_
  refine lv_aload_n hx hb dL_setNoiseLimit_2 rfl (lv_at hl 0 rfl) ?_
  refine lv_iload_n hx hb dL_setNoiseLimit_3 rfl (lv_at hl 1 rfl) ?_
  obtain ⟨u1, hu1, hf⟩ := bn hf
  refine xm_V (As := [.int x1]) (rest := [.int 0, .ref aO]) (w2 := (W_X aX aB aBw aP aN aNd aH aQ vX ++ (W_N aN aG aU aR u1.2.2.1 ++ (W_G E aG vG ++ (W_U E aU vU ++ (W_R E aR vR ++ (W_H aH aHA u1.2.2.2.1 ++ (W_NA E aHA 8 kn ++ (W_V8 E kn kg ku kr u1.2.2.2.2 ++ (W_J E aO 1 vO)))))))))) hx hb hml hown hg (c_X8_setNoiseLimit E l hst aX aB aBw aP aN aNd aH aQ aG aU aR aHA kn kg ku kr vX vN vG vU vR vH vHV x1 u1 hu1) cy_X8_setNoiseLimit ml_L_138 ⟨⟨rfl, rfl⟩, Nat.le_of_ble_eq_true rfl, Nat.le_of_ble_eq_true rfl⟩ hK hE hP hD hS hA [true, true, true, true, true, true, true, true, true, true, true, true, true, true, true, true, true, true, true, true, true, true, true, true, true, true, true, true, true, true, true, true, true, true, true, true, true, true, true, true, true, true, true, true, true, true, true, true, true, true, true, true, true, true, true, true, true, true, true, true, true, true, true, true, true, true, true, true, true, true, true, true, true, true, true, true, true, true, true, true, true, true, true, true, true, true, true, true, true, true, true, true, true, true, true, true, true, true, true, true, true, true, true, true, true, true, true, true, true, true, true, true, true, true, true, true, true, true, true, true, true, true, true, true, true, true, true, true, true, true, true, true, true, true, true, true, true, true, true, true, true, true, true, true, true, true, true, true, true, true, true, true, true, true, true, true, true, true, true, true, true, true, true, true, true] rfl rfl rfl 0 rfl rfl rfl hl.1 rfl (Nat.le_of_ble_eq_true rfl) dL_setNoiseLimit_4 ⟨Nat.le_of_ble_eq_true rfl, Nat.le_of_ble_eq_true rfl⟩ [.int u1.2.1, .int 0, .ref aO] rfl (fun h0 H locs hP hD hS => ?_) (fun h0 H locs ce q9 hP hD hS hce hcv hcl => ?_)
  rotate_left
  · have hf := ie (Nat.pos_iff_ne_zero.mp h0) hf
    by_cases ho : u1.1 = 2
    · have hf := it ho hf
      rw [ho] at hcl
      refine vx_catch (E := XK 2) hown [] ⟨0, 9, 12, 19⟩ [] htb (fun z hz => absurd hz List.not_mem_nil) rfl (by decide) (hg _ cl_L_19) (va_Nw.use rfl (hE.2.2.2.2.2.2.1 "java/lang/IllegalArgumentException" (by decide))) hce hcv hcl ?_
      refine lv_astore_n (lv' := [(3, .ref q9), (0, .ref aX), (1, .int x1), (2, .ref aO)]) hx hb dL_setNoiseLimit_12 rfl hl (by decide) rfl (fun ls hl => ?_)
      refine lv_iconst (v := 1) hx hb dL_setNoiseLimit_13 (by decide) ?_
      obtain rfl := Option.some.inj hf
      exact lm_iret (v := 1) hx hb hr hlocks hP hS dL_setNoiseLimit_14 (Nat.le_of_ble_eq_true rfl) (Nat.le_of_ble_eq_true rfl)
    · have hf := ie ho hf
      cases hf
  have hf := it h0 hf
  refine lv_i2l (v := (Int32.toInt64 u1.2.1)) hx hb dL_setNoiseLimit_7 rfl ?_
  obtain ⟨hi, hf⟩ := ck_o hf
  refine al_st (w2 := (W_X aX aB aBw aP aN aNd aH aQ vX ++ (W_N aN aG aU aR u1.2.2.1 ++ (W_G E aG vG ++ (W_U E aU vU ++ (W_R E aR vR ++ (W_H aH aHA u1.2.2.2.1 ++ (W_NA E aHA 8 kn ++ (W_V8 E kn kg ku kr u1.2.2.2.2 ++ (W_J E aO 1 (vp_updL vO (Int32.toNatClampNeg 0) (Int32.toInt64 u1.2.1)))))))))))) hx hb hK hP hD hS 165 rfl hi rfl dL_setNoiseLimit_8 (fun H locs hP hD hS => ?_)
  obtain ⟨vO_3, hv, hf⟩ := lt_o hf
  rw [← hv] at hP hD
  clear hv
  refine lv_goto (tgt := 15) hx hb dL_setNoiseLimit_9 (by decide) ?_
  refine lv_iconst (v := 0) hx hb dL_setNoiseLimit_15 (by decide) ?_
  obtain rfl := Option.some.inj hf
  exact lm_iret (v := 0) hx hb hr hlocks hP hS dL_setNoiseLimit_16 (Nat.le_of_ble_eq_true rfl) (Nat.le_of_ble_eq_true rfl)
def F_L_undo (vX : Nat → Int32) (vN : Nat → Int32) (vG : Nat → Nat → Int32) (vU : Nat → Nat → Int32) (vR : Nat → Nat → Int32) (vH : Nat → Int32) (vHV : Nat → NV) (vO : Nat → Int64) : Option (Int32 × (Nat → Int32) × (Nat → Nat → Int32) × (Nat → Nat → Int32) × (Nat → Nat → Int32) × (Nat → Int32) × (Nat → Int64)) := (F_X8_undo vX vN vG vU vR vH vHV).bind (fun u1 => if u1.1 = 0 then (ck 0 1 (lt (vp_updL vO (Int32.toNatClampNeg 0) (Int32.toInt64 u1.2.1)) (fun vO_3 => (some (0, u1.2.2.1, u1.2.2.2.1, u1.2.2.2.2.1, u1.2.2.2.2.2.1, u1.2.2.2.2.2.2, vO_3))))) else (if u1.1 = 1 then ((some (1, u1.2.2.1, u1.2.2.2.1, u1.2.2.2.2.1, u1.2.2.2.2.2.1, u1.2.2.2.2.2.2, vO))) else (none)))
abbrev rm_L_undo : Room := { frames := 7, cells := 1, slots := 6, locals := 143 }
set_option maxHeartbeats 4000000 in
set_option maxRecDepth 100000 in
theorem c_L_undo (E : Ev) (l : Launch) (hst : l.stackTraces = false) (aX : Nat) (aB : Nat → Nat) (aBw : Nat → Nat) (aP : Nat) (aN : Nat) (aNd : Nat) (aH : Nat) (aQ : Nat) (aG : Nat → Nat) (aU : Nat → Nat) (aR : Nat → Nat) (aHA : Nat) (kn : Nat → Nat) (kg : Nat → Nat → Nat) (ku : Nat → Nat → Nat) (kr : Nat → Nat → Nat) (aO : Nat) (vX : Nat → Int32) (vN : Nat → Int32) (vG : Nat → Nat → Int32) (vU : Nat → Nat → Int32) (vR : Nat → Nat → Int32) (vH : Nat → Int32) (vHV : Nat → NV) (vO : Nat → Int64) (r : Int32 × (Nat → Int32) × (Nat → Nat → Int32) × (Nat → Nat → Int32) × (Nat → Nat → Int32) × (Nat → Int32) × (Nat → Int64)) (hf : F_L_undo vX vN vG vU vR vH vHV vO = some r) : LM E l yL_undo (.codeWith yL_undo cL_undo 3 (some .int) [(0, 8, 11, 13)] :: GA) rm_L_undo [.ref aX, .ref aO] (W_X aX aB aBw aP aN aNd aH aQ vX ++ (W_N aN aG aU aR vN ++ (W_G E aG vG ++ (W_U E aU vU ++ (W_R E aR vR ++ (W_H aH aHA vH ++ (W_NA E aHA 8 kn ++ (W_V8 E kn kg ku kr vHV ++ (W_J E aO 1 vO))))))))) (some (.int r.1)) (W_X aX aB aBw aP aN aNd aH aQ vX ++ (W_N aN aG aU aR r.2.1 ++ (W_G E aG r.2.2.1 ++ (W_U E aU r.2.2.2.1 ++ (W_R E aR r.2.2.2.2.1 ++ (W_H aH aHA r.2.2.2.2.2.1 ++ (W_NA E aHA 8 kn ++ (W_V8 E kn kg ku kr vHV ++ (W_J E aO 1 r.2.2.2.2.2.2))))))))) 1 := by
  refine LM.of (own := RL) rfl (by decide) (Nat.le_of_ble_eq_true rfl) ?_
  intro p e s m below meth c A ls hx hb hr hml hown hg hlocks hK hE hN hA htb hP hD hS hl
  have hl : lv_has ls 3 [(0, .ref aX), (1, .ref aO)] := hl
  unfold F_L_undo at hf
  refine lv_aload_n hx hb dL_undo_0 rfl (lv_at hl 1 rfl) ?_
  refine lv_iconst (v := 0) hx hb dL_undo_1 (by decide) ?_
  refine lv_aload_n hx hb dL_undo_2 rfl (lv_at hl 0 rfl) ?_
  obtain ⟨u1, hu1, hf⟩ := bn hf
  refine xm_V (As := []) (rest := [.int 0, .ref aO]) (w2 := (W_X aX aB aBw aP aN aNd aH aQ vX ++ (W_N aN aG aU aR u1.2.2.1 ++ (W_G E aG u1.2.2.2.1 ++ (W_U E aU u1.2.2.2.2.1 ++ (W_R E aR u1.2.2.2.2.2.1 ++ (W_H aH aHA u1.2.2.2.2.2.2 ++ (W_NA E aHA 8 kn ++ (W_V8 E kn kg ku kr vHV ++ (W_J E aO 1 vO)))))))))) hx hb hml hown hg (c_X8_undo E l hst aX aB aBw aP aN aNd aH aQ aG aU aR aHA kn kg ku kr vX vN vG vU vR vH vHV u1 hu1) cy_X8_undo ml_L_141 ⟨⟨rfl, rfl⟩, Nat.le_of_ble_eq_true rfl, Nat.le_of_ble_eq_true rfl⟩ hK hE hP hD hS hA [true, true, true, true, true, true, true, true, true, true, true, true, true, true, true, true, true, true, true, true, true, true, true, true, true, true, true, true, true, true, true, true, true, true, true, true, true, true, true, true, true, true, true, true, true, true, true, true, true, true, true, true, true, true, true, true, true, true, true, true, true, true, true, true, true, true, true, true, true, true, true, true, true, true, true, true, true, true, true, true, true, true, true, true, true, true, true, true, true, true, true, true, true, true, true, true, true, true, true, true, true, true, true, true, true, true, true, true, true, true, true, true, true, true, true, true, true, true, true, true, true, true, true, true, true, true, true, true, true, true, true, true, true, true, true, true, true, true, true, true, true, true, true, true, true, true, true, true, true, true, true, true, true, true, true, true, true, true, true, true, true, true, true, true, true] rfl rfl rfl 0 rfl rfl rfl hl.1 rfl (Nat.le_of_ble_eq_true rfl) dL_undo_3 ⟨Nat.le_of_ble_eq_true rfl, Nat.le_of_ble_eq_true rfl⟩ [.int u1.2.1, .int 0, .ref aO] rfl (fun h0 H locs hP hD hS => ?_) (fun h0 H locs ce q9 hP hD hS hce hcv hcl => ?_)
  rotate_left
  · have hf := ie (Nat.pos_iff_ne_zero.mp h0) hf
    by_cases ho : u1.1 = 1
    · have hf := it ho hf
      rw [ho] at hcl
      refine vx_catch (E := XK 1) hown [] ⟨0, 8, 11, 13⟩ [] htb (fun z hz => absurd hz List.not_mem_nil) rfl (by decide) (hg _ cl_L_13) (va_Nw.use rfl (hE.2.2.2.2.2.2.1 "java/lang/IllegalStateException" (by decide))) hce hcv hcl ?_
      refine lv_astore_n (lv' := [(2, .ref q9), (0, .ref aX), (1, .ref aO)]) hx hb dL_undo_11 rfl hl (by decide) rfl (fun ls hl => ?_)
      refine lv_iconst (v := 1) hx hb dL_undo_12 (by decide) ?_
      obtain rfl := Option.some.inj hf
      exact lm_iret (v := 1) hx hb hr hlocks hP hS dL_undo_13 (Nat.le_of_ble_eq_true rfl) (Nat.le_of_ble_eq_true rfl)
    · have hf := ie ho hf
      cases hf
  have hf := it h0 hf
  refine lv_i2l (v := (Int32.toInt64 u1.2.1)) hx hb dL_undo_6 rfl ?_
  obtain ⟨hi, hf⟩ := ck_o hf
  refine al_st (w2 := (W_X aX aB aBw aP aN aNd aH aQ vX ++ (W_N aN aG aU aR u1.2.2.1 ++ (W_G E aG u1.2.2.2.1 ++ (W_U E aU u1.2.2.2.2.1 ++ (W_R E aR u1.2.2.2.2.2.1 ++ (W_H aH aHA u1.2.2.2.2.2.2 ++ (W_NA E aHA 8 kn ++ (W_V8 E kn kg ku kr vHV ++ (W_J E aO 1 (vp_updL vO (Int32.toNatClampNeg 0) (Int32.toInt64 u1.2.1)))))))))))) hx hb hK hP hD hS 165 rfl hi rfl dL_undo_7 (fun H locs hP hD hS => ?_)
  obtain ⟨vO_3, hv, hf⟩ := lt_o hf
  rw [← hv] at hP hD
  clear hv
  refine lv_goto (tgt := 14) hx hb dL_undo_8 (by decide) ?_
  refine lv_iconst (v := 0) hx hb dL_undo_14 (by decide) ?_
  obtain rfl := Option.some.inj hf
  exact lm_iret (v := 0) hx hb hr hlocks hP hS dL_undo_15 (Nat.le_of_ble_eq_true rfl) (Nat.le_of_ble_eq_true rfl)
def F_L_saveSnapshot (vX : Nat → Int32) (vN : Nat → Int32) (vG : Nat → Nat → Int32) (vU : Nat → Nat → Int32) (vR : Nat → Nat → Int32) (vQF : Nat → Int32) (vQV : Nat → NV) (vO : Nat → Int64) (x1 : Int32) : Option (Int32 × (Nat → Int32) × (Nat → NV) × (Nat → Int64)) := (F_X8_saveSnapshot vX vN vG vU vR vQF vQV x1).bind (fun u1 => if u1.1 = 0 then (ck 0 1 (lt (vp_updL vO (Int32.toNatClampNeg 0) (Int32.toInt64 u1.2.1)) (fun vO_3 => (some (0, u1.2.2.1, u1.2.2.2, vO_3))))) else (if u1.1 = 4 then ((some (1, u1.2.2.1, u1.2.2.2, vO))) else (none)))
abbrev rm_L_saveSnapshot : Room := { frames := 8, cells := 1, slots := 6, locals := 145 }
set_option maxHeartbeats 4000000 in
set_option maxRecDepth 100000 in
theorem c_L_saveSnapshot (E : Ev) (l : Launch) (hst : l.stackTraces = false) (aX : Nat) (aB : Nat → Nat) (aBw : Nat → Nat) (aP : Nat) (aN : Nat) (aNd : Nat) (aH : Nat) (aQ : Nat) (aG : Nat → Nat) (aU : Nat → Nat) (aR : Nat → Nat) (aQA : Nat) (aQF : Nat) (qn : Nat → Nat) (qg : Nat → Nat → Nat) (qu : Nat → Nat → Nat) (qr : Nat → Nat → Nat) (aO : Nat) (vX : Nat → Int32) (vN : Nat → Int32) (vG : Nat → Nat → Int32) (vU : Nat → Nat → Int32) (vR : Nat → Nat → Int32) (vQF : Nat → Int32) (vQV : Nat → NV) (vO : Nat → Int64) (x1 : Int32) (r : Int32 × (Nat → Int32) × (Nat → NV) × (Nat → Int64)) (hf : F_L_saveSnapshot vX vN vG vU vR vQF vQV vO x1 = some r) : LM E l yL_saveSnapshot (.codeWith yL_saveSnapshot cL_saveSnapshot 4 (some .int) [(0, 9, 12, 33)] :: GA) rm_L_saveSnapshot [.ref aX, .int x1, .ref aO] (W_X aX aB aBw aP aN aNd aH aQ vX ++ (W_N aN aG aU aR vN ++ (W_G E aG vG ++ (W_U E aU vU ++ (W_R E aR vR ++ (W_Q aQ aQA aQF ++ (W_NA E aQA 2 qn ++ (W_Z E aQF 2 vQF ++ (W_V2 E qn qg qu qr vQV ++ (W_J E aO 1 vO)))))))))) (some (.int r.1)) (W_X aX aB aBw aP aN aNd aH aQ vX ++ (W_N aN aG aU aR vN ++ (W_G E aG vG ++ (W_U E aU vU ++ (W_R E aR vR ++ (W_Q aQ aQA aQF ++ (W_NA E aQA 2 qn ++ (W_Z E aQF 2 r.2.1 ++ (W_V2 E qn qg qu qr r.2.2.1 ++ (W_J E aO 1 r.2.2.2)))))))))) 1 := by
  refine LM.of (own := RL) rfl (by decide) (Nat.le_of_ble_eq_true rfl) ?_
  intro p e s m below meth c A ls hx hb hr hml hown hg hlocks hK hE hN hA htb hP hD hS hl
  have hl : lv_has ls 4 [(0, .ref aX), (1, .int x1), (2, .ref aO)] := hl
  unfold F_L_saveSnapshot at hf
  refine lv_aload_n hx hb dL_saveSnapshot_0 rfl (lv_at hl 2 rfl) ?_
  refine lv_iconst (v := 0) hx hb dL_saveSnapshot_1 (by decide) ?_
  refine lv_aload_n hx hb dL_saveSnapshot_2 rfl (lv_at hl 0 rfl) ?_
  refine lv_iload_n hx hb dL_saveSnapshot_3 rfl (lv_at hl 1 rfl) ?_
  obtain ⟨u1, hu1, hf⟩ := bn hf
  refine xm_V (As := [.int x1]) (rest := [.int 0, .ref aO]) (w2 := (W_X aX aB aBw aP aN aNd aH aQ vX ++ (W_N aN aG aU aR vN ++ (W_G E aG vG ++ (W_U E aU vU ++ (W_R E aR vR ++ (W_Q aQ aQA aQF ++ (W_NA E aQA 2 qn ++ (W_Z E aQF 2 u1.2.2.1 ++ (W_V2 E qn qg qu qr u1.2.2.2 ++ (W_J E aO 1 vO))))))))))) hx hb hml hown hg (c_X8_saveSnapshot E l hst aX aB aBw aP aN aNd aH aQ aG aU aR aQA aQF qn qg qu qr vX vN vG vU vR vQF vQV x1 u1 hu1) cy_X8_saveSnapshot ml_L_144 ⟨⟨rfl, rfl⟩, Nat.le_of_ble_eq_true rfl, Nat.le_of_ble_eq_true rfl⟩ hK hE hP hD hS hA [true, true, true, true, true, true, true, true, true, true, true, true, true, true, true, true, true, true, true, true, true, true, true, true, true, true, true, true, true, true, true, true, true, true, true, true, true, true, true, true, true, true, true, true, true, true, true, true, true, true, true, true, true, true, true, true, true, true] rfl rfl rfl 0 rfl rfl rfl hl.1 rfl (Nat.le_of_ble_eq_true rfl) dL_saveSnapshot_4 ⟨Nat.le_of_ble_eq_true rfl, Nat.le_of_ble_eq_true rfl⟩ [.int u1.2.1, .int 0, .ref aO] rfl (fun h0 H locs hP hD hS => ?_) (fun h0 H locs ce q9 hP hD hS hce hcv hcl => ?_)
  rotate_left
  · have hf := ie (Nat.pos_iff_ne_zero.mp h0) hf
    by_cases ho : u1.1 = 4
    · have hf := it ho hf
      rw [ho] at hcl
      refine vx_catch (E := XK 4) hown [] ⟨0, 9, 12, 33⟩ [] htb (fun z hz => absurd hz List.not_mem_nil) rfl (by decide) (hg _ cl_L_33) (va_Nw.use rfl (hE.2.2.2.2.2.2.1 "java/lang/IndexOutOfBoundsException" (by decide))) hce hcv hcl ?_
      refine lv_astore_n (lv' := [(3, .ref q9), (0, .ref aX), (1, .int x1), (2, .ref aO)]) hx hb dL_saveSnapshot_12 rfl hl (by decide) rfl (fun ls hl => ?_)
      refine lv_iconst (v := 1) hx hb dL_saveSnapshot_13 (by decide) ?_
      obtain rfl := Option.some.inj hf
      exact lm_iret (v := 1) hx hb hr hlocks hP hS dL_saveSnapshot_14 (Nat.le_of_ble_eq_true rfl) (Nat.le_of_ble_eq_true rfl)
    · have hf := ie ho hf
      cases hf
  have hf := it h0 hf
  refine lv_i2l (v := (Int32.toInt64 u1.2.1)) hx hb dL_saveSnapshot_7 rfl ?_
  obtain ⟨hi, hf⟩ := ck_o hf
  refine al_st (w2 := (W_X aX aB aBw aP aN aNd aH aQ vX ++ (W_N aN aG aU aR vN ++ (W_G E aG vG ++ (W_U E aU vU ++ (W_R E aR vR ++ (W_Q aQ aQA aQF ++ (W_NA E aQA 2 qn ++ (W_Z E aQF 2 u1.2.2.1 ++ (W_V2 E qn qg qu qr u1.2.2.2 ++ (W_J E aO 1 (vp_updL vO (Int32.toNatClampNeg 0) (Int32.toInt64 u1.2.1))))))))))))) hx hb hK hP hD hS 58 rfl hi rfl dL_saveSnapshot_8 (fun H locs hP hD hS => ?_)
  obtain ⟨vO_3, hv, hf⟩ := lt_o hf
  rw [← hv] at hP hD
  clear hv
  refine lv_goto (tgt := 15) hx hb dL_saveSnapshot_9 (by decide) ?_
  refine lv_iconst (v := 0) hx hb dL_saveSnapshot_15 (by decide) ?_
  obtain rfl := Option.some.inj hf
  exact lm_iret (v := 0) hx hb hr hlocks hP hS dL_saveSnapshot_16 (Nat.le_of_ble_eq_true rfl) (Nat.le_of_ble_eq_true rfl)
def F_L_restoreSnapshot (vX : Nat → Int32) (vN : Nat → Int32) (vG : Nat → Nat → Int32) (vU : Nat → Nat → Int32) (vR : Nat → Nat → Int32) (vH : Nat → Int32) (vHV : Nat → NV) (vQF : Nat → Int32) (vQV : Nat → NV) (vO : Nat → Int64) (x1 : Int32) : Option (Int32 × (Nat → Int32) × (Nat → Nat → Int32) × (Nat → Nat → Int32) × (Nat → Nat → Int32) × (Nat → Int32) × (Nat → NV) × (Nat → Int64)) := (F_X8_restoreSnapshot vX vN vG vU vR vH vHV vQF vQV x1).bind (fun u1 => if u1.1 = 0 then (ck 0 1 (lt (vp_updL vO (Int32.toNatClampNeg 0) (Int32.toInt64 u1.2.1)) (fun vO_3 => (some (0, u1.2.2.1, u1.2.2.2.1, u1.2.2.2.2.1, u1.2.2.2.2.2.1, u1.2.2.2.2.2.2.1, u1.2.2.2.2.2.2.2, vO_3))))) else (if u1.1 = 4 then ((some (1, u1.2.2.1, u1.2.2.2.1, u1.2.2.2.2.1, u1.2.2.2.2.2.1, u1.2.2.2.2.2.2.1, u1.2.2.2.2.2.2.2, vO))) else (if u1.1 = 3 then ((some (2, u1.2.2.1, u1.2.2.2.1, u1.2.2.2.2.1, u1.2.2.2.2.2.1, u1.2.2.2.2.2.2.1, u1.2.2.2.2.2.2.2, vO))) else (none))))
abbrev rm_L_restoreSnapshot : Room := { frames := 8, cells := 2, slots := 12, locals := 144 }
set_option maxHeartbeats 4000000 in
set_option maxRecDepth 100000 in
theorem c_L_restoreSnapshot (E : Ev) (l : Launch) (hst : l.stackTraces = false) (aX : Nat) (aB : Nat → Nat) (aBw : Nat → Nat) (aP : Nat) (aN : Nat) (aNd : Nat) (aH : Nat) (aQ : Nat) (aG : Nat → Nat) (aU : Nat → Nat) (aR : Nat → Nat) (aHA : Nat) (kn : Nat → Nat) (kg : Nat → Nat → Nat) (ku : Nat → Nat → Nat) (kr : Nat → Nat → Nat) (aQA : Nat) (aQF : Nat) (qn : Nat → Nat) (qg : Nat → Nat → Nat) (qu : Nat → Nat → Nat) (qr : Nat → Nat → Nat) (aO : Nat) (vX : Nat → Int32) (vN : Nat → Int32) (vG : Nat → Nat → Int32) (vU : Nat → Nat → Int32) (vR : Nat → Nat → Int32) (vH : Nat → Int32) (vHV : Nat → NV) (vQF : Nat → Int32) (vQV : Nat → NV) (vO : Nat → Int64) (x1 : Int32) (r : Int32 × (Nat → Int32) × (Nat → Nat → Int32) × (Nat → Nat → Int32) × (Nat → Nat → Int32) × (Nat → Int32) × (Nat → NV) × (Nat → Int64)) (hf : F_L_restoreSnapshot vX vN vG vU vR vH vHV vQF vQV vO x1 = some r) : LM E l yL_restoreSnapshot (.codeWith yL_restoreSnapshot cL_restoreSnapshot 4 (some .int) [(0, 9, 12, 33), (0, 9, 15, 28)] :: GA) rm_L_restoreSnapshot [.ref aX, .int x1, .ref aO] (W_X aX aB aBw aP aN aNd aH aQ vX ++ (W_N aN aG aU aR vN ++ (W_G E aG vG ++ (W_U E aU vU ++ (W_R E aR vR ++ (W_H aH aHA vH ++ (W_NA E aHA 8 kn ++ (W_V8 E kn kg ku kr vHV ++ (W_Q aQ aQA aQF ++ (W_NA E aQA 2 qn ++ (W_Z E aQF 2 vQF ++ (W_V2 E qn qg qu qr vQV ++ (W_J E aO 1 vO))))))))))))) (some (.int r.1)) (W_X aX aB aBw aP aN aNd aH aQ vX ++ (W_N aN aG aU aR r.2.1 ++ (W_G E aG r.2.2.1 ++ (W_U E aU r.2.2.2.1 ++ (W_R E aR r.2.2.2.2.1 ++ (W_H aH aHA r.2.2.2.2.2.1 ++ (W_NA E aHA 8 kn ++ (W_V8 E kn kg ku kr r.2.2.2.2.2.2.1 ++ (W_Q aQ aQA aQF ++ (W_NA E aQA 2 qn ++ (W_Z E aQF 2 vQF ++ (W_V2 E qn qg qu qr vQV ++ (W_J E aO 1 r.2.2.2.2.2.2.2))))))))))))) 2 := by
  refine LM.of (own := RL) rfl (by decide) (Nat.le_of_ble_eq_true rfl) ?_
  intro p e s m below meth c A ls hx hb hr hml hown hg hlocks hK hE hN hA htb hP hD hS hl
  have hl : lv_has ls 4 [(0, .ref aX), (1, .int x1), (2, .ref aO)] := hl
  unfold F_L_restoreSnapshot at hf
  refine lv_aload_n hx hb dL_restoreSnapshot_0 rfl (lv_at hl 2 rfl) ?_
  refine lv_iconst (v := 0) hx hb dL_restoreSnapshot_1 (by decide) ?_
  refine lv_aload_n hx hb dL_restoreSnapshot_2 rfl (lv_at hl 0 rfl) ?_
  refine lv_iload_n hx hb dL_restoreSnapshot_3 rfl (lv_at hl 1 rfl) ?_
  obtain ⟨u1, hu1, hf⟩ := bn hf
  refine xm_V (As := [.int x1]) (rest := [.int 0, .ref aO]) (w2 := (W_X aX aB aBw aP aN aNd aH aQ vX ++ (W_N aN aG aU aR u1.2.2.1 ++ (W_G E aG u1.2.2.2.1 ++ (W_U E aU u1.2.2.2.2.1 ++ (W_R E aR u1.2.2.2.2.2.1 ++ (W_H aH aHA u1.2.2.2.2.2.2.1 ++ (W_NA E aHA 8 kn ++ (W_V8 E kn kg ku kr u1.2.2.2.2.2.2.2 ++ (W_Q aQ aQA aQF ++ (W_NA E aQA 2 qn ++ (W_Z E aQF 2 vQF ++ (W_V2 E qn qg qu qr vQV ++ (W_J E aO 1 vO)))))))))))))) hx hb hml hown hg (c_X8_restoreSnapshot E l hst aX aB aBw aP aN aNd aH aQ aG aU aR aHA kn kg ku kr aQA aQF qn qg qu qr vX vN vG vU vR vH vHV vQF vQV x1 u1 hu1) cy_X8_restoreSnapshot ml_L_147 ⟨⟨rfl, rfl⟩, Nat.le_of_ble_eq_true rfl, Nat.le_of_ble_eq_true rfl⟩ hK hE hP hD hS hA [true, true, true, true, true, true, true, true, true, true, true, true, true, true, true, true, true, true, true, true, true, true, true, true, true, true, true, true, true, true, true, true, true, true, true, true, true, true, true, true, true, true, true, true, true, true, true, true, true, true, true, true, true, true, true, true, true, true, true, true, true, true, true, true, true, true, true, true, true, true, true, true, true, true, true, true, true, true, true, true, true, true, true, true, true, true, true, true, true, true, true, true, true, true, true, true, true, true, true, true, true, true, true, true, true, true, true, true, true, true, true, true, true, true, true, true, true, true, true, true, true, true, true, true, true, true, true, true, true, true, true, true, true, true, true, true, true, true, true, true, true, true, true, true, true, true, true, true, true, true, true, true, true, true, true, true, true, true, true, true, true, true, true, true, true, true, true, true, true, true, true, true, true, true, true, true, true, true, true, true, true, true, true, true, true, true, true, true, true, true, true, true, true, true, true, true, true, true, true, true, true, true, true, true] rfl rfl rfl 0 rfl rfl rfl hl.1 rfl (Nat.le_of_ble_eq_true rfl) dL_restoreSnapshot_4 ⟨Nat.le_of_ble_eq_true rfl, Nat.le_of_ble_eq_true rfl⟩ [.int u1.2.1, .int 0, .ref aO] rfl (fun h0 H locs hP hD hS => ?_) (fun h0 H locs ce q9 hP hD hS hce hcv hcl => ?_)
  rotate_left
  · have hf := ie (Nat.pos_iff_ne_zero.mp h0) hf
    by_cases ho : u1.1 = 4
    · have hf := it ho hf
      rw [ho] at hcl
      refine vx_catch (E := XK 4) hown [] ⟨0, 9, 12, 33⟩ [⟨0, 9, 15, 28⟩] htb (fun z hz => absurd hz List.not_mem_nil) rfl (by decide) (hg _ cl_L_33) (va_Nw.use rfl (hE.2.2.2.2.2.2.1 "java/lang/IndexOutOfBoundsException" (by decide))) hce hcv hcl ?_
      refine lv_astore_n (lv' := [(3, .ref q9), (0, .ref aX), (1, .int x1), (2, .ref aO)]) hx hb dL_restoreSnapshot_12 rfl hl (by decide) rfl (fun ls hl => ?_)
      refine lv_iconst (v := 1) hx hb dL_restoreSnapshot_13 (by decide) ?_
      obtain rfl := Option.some.inj hf
      exact lm_iret (v := 1) hx hb hr hlocks hP hS dL_restoreSnapshot_14 (Nat.le_of_ble_eq_true rfl) (Nat.le_of_ble_eq_true rfl)
    · have hf := ie ho hf
      by_cases ho : u1.1 = 3
      · have hf := it ho hf
        rw [ho] at hcl
        refine vx_catch (E := XK 3) hown [⟨0, 9, 12, 33⟩] ⟨0, 9, 15, 28⟩ [] htb (fun z hz => by
      simp only [List.mem_cons, List.not_mem_nil, or_false] at hz
      rcases hz with rfl
      · exact Or.inr ⟨(by decide), _, hg _ cl_L_33, hN ("java/util/NoSuchElementException", "java/lang/IndexOutOfBoundsException") (by decide)⟩) rfl (by decide) (hg _ cl_L_28) (va_Nw.use rfl (hE.2.2.2.2.2.2.1 "java/util/NoSuchElementException" (by decide))) hce hcv hcl ?_
        refine lv_astore_n (lv' := [(3, .ref q9), (0, .ref aX), (1, .int x1), (2, .ref aO)]) hx hb dL_restoreSnapshot_15 rfl hl (by decide) rfl (fun ls hl => ?_)
        refine lv_iconst (v := 2) hx hb dL_restoreSnapshot_16 (by decide) ?_
        obtain rfl := Option.some.inj hf
        exact lm_iret (v := 2) hx hb hr hlocks hP hS dL_restoreSnapshot_17 (Nat.le_of_ble_eq_true rfl) (Nat.le_of_ble_eq_true rfl)
      · have hf := ie ho hf
        cases hf
  have hf := it h0 hf
  refine lv_i2l (v := (Int32.toInt64 u1.2.1)) hx hb dL_restoreSnapshot_7 rfl ?_
  obtain ⟨hi, hf⟩ := ck_o hf
  refine al_st (w2 := (W_X aX aB aBw aP aN aNd aH aQ vX ++ (W_N aN aG aU aR u1.2.2.1 ++ (W_G E aG u1.2.2.2.1 ++ (W_U E aU u1.2.2.2.2.1 ++ (W_R E aR u1.2.2.2.2.2.1 ++ (W_H aH aHA u1.2.2.2.2.2.2.1 ++ (W_NA E aHA 8 kn ++ (W_V8 E kn kg ku kr u1.2.2.2.2.2.2.2 ++ (W_Q aQ aQA aQF ++ (W_NA E aQA 2 qn ++ (W_Z E aQF 2 vQF ++ (W_V2 E qn qg qu qr vQV ++ (W_J E aO 1 (vp_updL vO (Int32.toNatClampNeg 0) (Int32.toInt64 u1.2.1)))))))))))))))) hx hb hK hP hD hS 204 rfl hi rfl dL_restoreSnapshot_8 (fun H locs hP hD hS => ?_)
  obtain ⟨vO_3, hv, hf⟩ := lt_o hf
  rw [← hv] at hP hD
  clear hv
  refine lv_goto (tgt := 18) hx hb dL_restoreSnapshot_9 (by decide) ?_
  refine lv_iconst (v := 0) hx hb dL_restoreSnapshot_18 (by decide) ?_
  obtain rfl := Option.some.inj hf
  exact lm_iret (v := 0) hx hb hr hlocks hP hS dL_restoreSnapshot_19 (Nat.le_of_ble_eq_true rfl) (Nat.le_of_ble_eq_true rfl)
def F_L_writeEntries (vX : Nat → Int32) (vN : Nat → Int32) (vG : Nat → Nat → Int32) (vR : Nat → Nat → Int32) (vBw : Nat → Nat → Int32) (vO : Nat → Int64) (x1 : Int32) : Option (Int32 × (Nat → Nat → Int32) × (Nat → Int64)) := (F_X8_writeEntries vX vN vG vR vBw x1).bind (fun u1 => if u1.1 = 0 then (ck 0 1 (lt (vp_updL vO (Int32.toNatClampNeg 0) (Int32.toInt64 u1.2.1)) (fun vO_3 => (some (0, u1.2.2, vO_3))))) else (if u1.1 = 4 then ((some (1, u1.2.2, vO))) else (none)))
abbrev rm_L_writeEntries : Room := { frames := 8, cells := 1, slots := 6, locals := 132 }
set_option maxHeartbeats 4000000 in
set_option maxRecDepth 100000 in
theorem c_L_writeEntries (E : Ev) (l : Launch) (hst : l.stackTraces = false) (aX : Nat) (aB : Nat → Nat) (aBw : Nat → Nat) (aP : Nat) (aN : Nat) (aNd : Nat) (aH : Nat) (aQ : Nat) (aG : Nat → Nat) (aU : Nat → Nat) (aR : Nat → Nat) (aO : Nat) (vX : Nat → Int32) (vN : Nat → Int32) (vG : Nat → Nat → Int32) (vR : Nat → Nat → Int32) (vBw : Nat → Nat → Int32) (vO : Nat → Int64) (x1 : Int32) (r : Int32 × (Nat → Nat → Int32) × (Nat → Int64)) (hf : F_L_writeEntries vX vN vG vR vBw vO x1 = some r) : LM E l yL_writeEntries (.codeWith yL_writeEntries cL_writeEntries 4 (some .int) [(0, 9, 12, 33)] :: GA) rm_L_writeEntries [.ref aX, .int x1, .ref aO] (W_X aX aB aBw aP aN aNd aH aQ vX ++ (W_N aN aG aU aR vN ++ (W_G E aG vG ++ (W_R E aR vR ++ (W_B E aBw vBw ++ (W_J E aO 1 vO)))))) (some (.int r.1)) (W_X aX aB aBw aP aN aNd aH aQ vX ++ (W_N aN aG aU aR vN ++ (W_G E aG vG ++ (W_R E aR vR ++ (W_B E aBw r.2.1 ++ (W_J E aO 1 r.2.2)))))) 1 := by
  refine LM.of (own := RL) rfl (by decide) (Nat.le_of_ble_eq_true rfl) ?_
  intro p e s m below meth c A ls hx hb hr hml hown hg hlocks hK hE hN hA htb hP hD hS hl
  have hl : lv_has ls 4 [(0, .ref aX), (1, .int x1), (2, .ref aO)] := hl
  unfold F_L_writeEntries at hf
  refine lv_aload_n hx hb dL_writeEntries_0 rfl (lv_at hl 2 rfl) ?_
  refine lv_iconst (v := 0) hx hb dL_writeEntries_1 (by decide) ?_
  refine lv_aload_n hx hb dL_writeEntries_2 rfl (lv_at hl 0 rfl) ?_
  refine lv_iload_n hx hb dL_writeEntries_3 rfl (lv_at hl 1 rfl) ?_
  obtain ⟨u1, hu1, hf⟩ := bn hf
  refine xm_V (As := [.int x1]) (rest := [.int 0, .ref aO]) (w2 := (W_X aX aB aBw aP aN aNd aH aQ vX ++ (W_N aN aG aU aR vN ++ (W_G E aG vG ++ (W_R E aR vR ++ (W_B E aBw u1.2.2 ++ (W_J E aO 1 vO))))))) hx hb hml hown hg (c_X8_writeEntries E l hst aX aB aBw aP aN aNd aH aQ aG aU aR vX vN vG vR vBw x1 u1 hu1) cy_X8_writeEntries ml_L_150 ⟨⟨rfl, rfl⟩, Nat.le_of_ble_eq_true rfl, Nat.le_of_ble_eq_true rfl⟩ hK hE hP hD hS hA [true, true, true, true, true, true, true, true, true, true, true, true, true, true, true, true, true] rfl rfl rfl 0 rfl rfl rfl hl.1 rfl (Nat.le_of_ble_eq_true rfl) dL_writeEntries_4 ⟨Nat.le_of_ble_eq_true rfl, Nat.le_of_ble_eq_true rfl⟩ [.int u1.2.1, .int 0, .ref aO] rfl (fun h0 H locs hP hD hS => ?_) (fun h0 H locs ce q9 hP hD hS hce hcv hcl => ?_)
  rotate_left
  · have hf := ie (Nat.pos_iff_ne_zero.mp h0) hf
    by_cases ho : u1.1 = 4
    · have hf := it ho hf
      rw [ho] at hcl
      refine vx_catch (E := XK 4) hown [] ⟨0, 9, 12, 33⟩ [] htb (fun z hz => absurd hz List.not_mem_nil) rfl (by decide) (hg _ cl_L_33) (va_Nw.use rfl (hE.2.2.2.2.2.2.1 "java/lang/IndexOutOfBoundsException" (by decide))) hce hcv hcl ?_
      refine lv_astore_n (lv' := [(3, .ref q9), (0, .ref aX), (1, .int x1), (2, .ref aO)]) hx hb dL_writeEntries_12 rfl hl (by decide) rfl (fun ls hl => ?_)
      refine lv_iconst (v := 1) hx hb dL_writeEntries_13 (by decide) ?_
      obtain rfl := Option.some.inj hf
      exact lm_iret (v := 1) hx hb hr hlocks hP hS dL_writeEntries_14 (Nat.le_of_ble_eq_true rfl) (Nat.le_of_ble_eq_true rfl)
    · have hf := ie ho hf
      cases hf
  have hf := it h0 hf
  refine lv_i2l (v := (Int32.toInt64 u1.2.1)) hx hb dL_writeEntries_7 rfl ?_
  obtain ⟨hi, hf⟩ := ck_o hf
  refine al_st (w2 := (W_X aX aB aBw aP aN aNd aH aQ vX ++ (W_N aN aG aU aR vN ++ (W_G E aG vG ++ (W_R E aR vR ++ (W_B E aBw u1.2.2 ++ (W_J E aO 1 (vp_updL vO (Int32.toNatClampNeg 0) (Int32.toInt64 u1.2.1))))))))) hx hb hK hP hD hS 17 rfl hi rfl dL_writeEntries_8 (fun H locs hP hD hS => ?_)
  obtain ⟨vO_3, hv, hf⟩ := lt_o hf
  rw [← hv] at hP hD
  clear hv
  refine lv_goto (tgt := 15) hx hb dL_writeEntries_9 (by decide) ?_
  refine lv_iconst (v := 0) hx hb dL_writeEntries_15 (by decide) ?_
  obtain rfl := Option.some.inj hf
  exact lm_iret (v := 0) hx hb hr hlocks hP hS dL_writeEntries_16 (Nat.le_of_ble_eq_true rfl) (Nat.le_of_ble_eq_true rfl)
def F_L_writtenByte (vX : Nat → Int32) (vBw : Nat → Nat → Int32) (vO : Nat → Int64) (x1 : Int32) : Option (Int32 × (Nat → Int64)) := (F_X8_writtenByte vX vBw x1).bind (fun u1 => if u1.1 = 0 then (ck 0 1 (lt (vp_updL vO (Int32.toNatClampNeg 0) (Int32.toInt64 u1.2)) (fun vO_3 => (some (0, vO_3))))) else (if u1.1 = 4 then ((some (1, vO))) else (none)))
abbrev rm_L_writtenByte : Room := { frames := 7, cells := 1, slots := 6, locals := 111 }
set_option maxHeartbeats 4000000 in
set_option maxRecDepth 100000 in
theorem c_L_writtenByte (E : Ev) (l : Launch) (hst : l.stackTraces = false) (aX : Nat) (aB : Nat → Nat) (aBw : Nat → Nat) (aP : Nat) (aN : Nat) (aNd : Nat) (aH : Nat) (aQ : Nat) (aO : Nat) (vX : Nat → Int32) (vBw : Nat → Nat → Int32) (vO : Nat → Int64) (x1 : Int32) (r : Int32 × (Nat → Int64)) (hf : F_L_writtenByte vX vBw vO x1 = some r) : LM E l yL_writtenByte (.codeWith yL_writtenByte cL_writtenByte 4 (some .int) [(0, 9, 12, 33)] :: GA) rm_L_writtenByte [.ref aX, .int x1, .ref aO] (W_X aX aB aBw aP aN aNd aH aQ vX ++ (W_B E aBw vBw ++ (W_J E aO 1 vO))) (some (.int r.1)) (W_X aX aB aBw aP aN aNd aH aQ vX ++ (W_B E aBw vBw ++ (W_J E aO 1 r.2))) 1 := by
  refine LM.of (own := RL) rfl (by decide) (Nat.le_of_ble_eq_true rfl) ?_
  intro p e s m below meth c A ls hx hb hr hml hown hg hlocks hK hE hN hA htb hP hD hS hl
  have hl : lv_has ls 4 [(0, .ref aX), (1, .int x1), (2, .ref aO)] := hl
  unfold F_L_writtenByte at hf
  refine lv_aload_n hx hb dL_writtenByte_0 rfl (lv_at hl 2 rfl) ?_
  refine lv_iconst (v := 0) hx hb dL_writtenByte_1 (by decide) ?_
  refine lv_aload_n hx hb dL_writtenByte_2 rfl (lv_at hl 0 rfl) ?_
  refine lv_iload_n hx hb dL_writtenByte_3 rfl (lv_at hl 1 rfl) ?_
  obtain ⟨u1, hu1, hf⟩ := bn hf
  refine xm_V (As := [.int x1]) (rest := [.int 0, .ref aO]) (w2 := (W_X aX aB aBw aP aN aNd aH aQ vX ++ (W_B E aBw vBw ++ (W_J E aO 1 vO)))) hx hb hml hown hg (c_X8_writtenByte E l hst aX aB aBw aP aN aNd aH aQ vX vBw x1 u1 hu1) cy_X8_writtenByte ml_L_153 ⟨⟨rfl, rfl⟩, Nat.le_of_ble_eq_true rfl, Nat.le_of_ble_eq_true rfl⟩ hK hE hP hD hS hA [true, true, true] rfl rfl rfl 0 rfl rfl rfl hl.1 rfl (Nat.le_of_ble_eq_true rfl) dL_writtenByte_4 ⟨Nat.le_of_ble_eq_true rfl, Nat.le_of_ble_eq_true rfl⟩ [.int u1.2, .int 0, .ref aO] rfl (fun h0 H locs hP hD hS => ?_) (fun h0 H locs ce q9 hP hD hS hce hcv hcl => ?_)
  rotate_left
  · have hf := ie (Nat.pos_iff_ne_zero.mp h0) hf
    by_cases ho : u1.1 = 4
    · have hf := it ho hf
      rw [ho] at hcl
      refine vx_catch (E := XK 4) hown [] ⟨0, 9, 12, 33⟩ [] htb (fun z hz => absurd hz List.not_mem_nil) rfl (by decide) (hg _ cl_L_33) (va_Nw.use rfl (hE.2.2.2.2.2.2.1 "java/lang/IndexOutOfBoundsException" (by decide))) hce hcv hcl ?_
      refine lv_astore_n (lv' := [(3, .ref q9), (0, .ref aX), (1, .int x1), (2, .ref aO)]) hx hb dL_writtenByte_12 rfl hl (by decide) rfl (fun ls hl => ?_)
      refine lv_iconst (v := 1) hx hb dL_writtenByte_13 (by decide) ?_
      obtain rfl := Option.some.inj hf
      exact lm_iret (v := 1) hx hb hr hlocks hP hS dL_writtenByte_14 (Nat.le_of_ble_eq_true rfl) (Nat.le_of_ble_eq_true rfl)
    · have hf := ie ho hf
      cases hf
  have hf := it h0 hf
  refine lv_i2l (v := (Int32.toInt64 u1.2)) hx hb dL_writtenByte_7 rfl ?_
  obtain ⟨hi, hf⟩ := ck_o hf
  refine al_st (w2 := (W_X aX aB aBw aP aN aNd aH aQ vX ++ (W_B E aBw vBw ++ (W_J E aO 1 (vp_updL vO (Int32.toNatClampNeg 0) (Int32.toInt64 u1.2)))))) hx hb hK hP hD hS 3 rfl hi rfl dL_writtenByte_8 (fun H locs hP hD hS => ?_)
  obtain ⟨vO_3, hv, hf⟩ := lt_o hf
  rw [← hv] at hP hD
  clear hv
  refine lv_goto (tgt := 15) hx hb dL_writtenByte_9 (by decide) ?_
  refine lv_iconst (v := 0) hx hb dL_writtenByte_15 (by decide) ?_
  obtain rfl := Option.some.inj hf
  exact lm_iret (v := 0) hx hb hr hlocks hP hS dL_writtenByte_16 (Nat.le_of_ble_eq_true rfl) (Nat.le_of_ble_eq_true rfl)
