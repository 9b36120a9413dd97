def F_X3_clear (vN : Nat → Int32) (vG : Nat → Nat → Int32) (vU : Nat → Nat → Int32) (vR : Nat → Nat → Int32) : Option ((Nat → Int32) × (Nat → Nat → Int32) × (Nat → Nat → Int32) × (Nat → Nat → Int32)) := lt (va_up vN 0 0) (fun vN_21 => lt (va_up vN_21 1 0) (fun vN_22 => lt (va_up vN_22 2 0) (fun vN_23 => lt (va_up vN_23 3 0) (fun vN_24 => lt (va_up vN_24 4 0) (fun vN_25 => lt (va_up vN_25 5 0) (fun vN_26 => lt (va_up vN_26 6 0) (fun vN_27 => lt (va_up vG 0 (fun _ => 0)) (fun vG_28 => lt (va_up vU 0 (fun _ => 0)) (fun vU_29 => lt (va_up vR 0 (fun _ => 0)) (fun vR_30 => (some (vN_27, vG_28, vU_29, vR_30))))))))))))
abbrev rm_X3_clear : Room := { frames := 0, cells := 0, slots := 0, locals := 0 }
set_option maxHeartbeats 4000000 in
set_option maxRecDepth 100000 in
theorem c_X3_clear (E : Ev) (l : Launch) (aN : Nat) (aG : Nat → Nat) (aU : Nat → Nat) (aR : Nat → Nat) (vN : Nat → Int32) (vG : Nat → Nat → Int32) (vU : Nat → Nat → Int32) (vR : Nat → Nat → Int32) (r : (Nat → Int32) × (Nat → Nat → Int32) × (Nat → Nat → Int32) × (Nat → Nat → Int32)) (hf : F_X3_clear vN vG vU vR = some r) : CM E l yX3_clear (.code yX3_clear cX3_clear 1 none :: GA) rm_X3_clear [.ref aN] (W_N aN aG aU aR vN ++ (W_G E aG vG ++ (W_U E aU vU ++ (W_R E aR vR)))) none (W_N aN aG aU aR r.1 ++ (W_G E aG r.2.1 ++ (W_U E aU r.2.2.1 ++ (W_R E aR r.2.2.2)))) := by
  refine CM.of (own := RX3) rfl (by decide) (Nat.le_of_ble_eq_true rfl) ?_
  intro p e s m below meth c A ls hx hb hr hml hown hg hlocks hK hE hA hP hD hS hl
  have hl : lv_has ls 1 [(0, .ref aN)] := hl
  unfold F_X3_clear at hf
  refine lv_aload_n hx hb dX3_clear_0 rfl (lv_at hl 0 rfl) ?_
  refine lv_iconst (v := 0) hx hb dX3_clear_1 (by decide) ?_
  refine pf_X3_9 (w2 := (W_N aN aG aU aR (va_up vN 0 0) ++ (W_G E aG vG ++ (W_U E aU vU ++ (W_R E aR vR))))) hx hb hg hown hK hP hD hS 0 rfl (Nat.le_of_ble_eq_true rfl) rfl dX3_clear_2 (fun H locs hP hD hS => ?_)
  obtain ⟨vN_21, hv, hf⟩ := lt_o hf
  rw [← hv] at hP hD
  clear hv
  refine lv_aload_n hx hb dX3_clear_5 rfl (lv_at hl 0 rfl) ?_
  refine lv_iconst (v := 0) hx hb dX3_clear_6 (by decide) ?_
  refine pf_X3_15 (w2 := (W_N aN aG aU aR (va_up vN_21 1 0) ++ (W_G E aG vG ++ (W_U E aU vU ++ (W_R E aR vR))))) hx hb hg hown hK hP hD hS 0 rfl (Nat.le_of_ble_eq_true rfl) rfl dX3_clear_7 (fun H locs hP hD hS => ?_)
  obtain ⟨vN_22, hv, hf⟩ := lt_o hf
  rw [← hv] at hP hD
  clear hv
  refine lv_aload_n hx hb dX3_clear_10 rfl (lv_at hl 0 rfl) ?_
  refine lv_iconst (v := 0) hx hb dX3_clear_11 (by decide) ?_
  refine pf_X3_18 (w2 := (W_N aN aG aU aR (va_up vN_22 2 0) ++ (W_G E aG vG ++ (W_U E aU vU ++ (W_R E aR vR))))) hx hb hg hown hK hP hD hS 0 rfl (Nat.le_of_ble_eq_true rfl) rfl dX3_clear_12 (fun H locs hP hD hS => ?_)
  obtain ⟨vN_23, hv, hf⟩ := lt_o hf
  rw [← hv] at hP hD
  clear hv
  refine lv_aload_n hx hb dX3_clear_15 rfl (lv_at hl 0 rfl) ?_
  refine lv_iconst (v := 0) hx hb dX3_clear_16 (by decide) ?_
  refine pf_X3_21 (w2 := (W_N aN aG aU aR (va_up vN_23 3 0) ++ (W_G E aG vG ++ (W_U E aU vU ++ (W_R E aR vR))))) hx hb hg hown hK hP hD hS 0 rfl (Nat.le_of_ble_eq_true rfl) rfl dX3_clear_17 (fun H locs hP hD hS => ?_)
  obtain ⟨vN_24, hv, hf⟩ := lt_o hf
  rw [← hv] at hP hD
  clear hv
  refine lv_aload_n hx hb dX3_clear_20 rfl (lv_at hl 0 rfl) ?_
  refine lv_iconst (v := 0) hx hb dX3_clear_21 (by decide) ?_
  refine pf_X3_24 (w2 := (W_N aN aG aU aR (va_up vN_24 4 0) ++ (W_G E aG vG ++ (W_U E aU vU ++ (W_R E aR vR))))) hx hb hg hown hK hP hD hS 0 rfl (Nat.le_of_ble_eq_true rfl) rfl dX3_clear_22 (fun H locs hP hD hS => ?_)
  obtain ⟨vN_25, hv, hf⟩ := lt_o hf
  rw [← hv] at hP hD
  clear hv
  refine lv_aload_n hx hb dX3_clear_25 rfl (lv_at hl 0 rfl) ?_
  refine lv_iconst (v := 0) hx hb dX3_clear_26 (by decide) ?_
  refine pf_X3_27 (w2 := (W_N aN aG aU aR (va_up vN_25 5 0) ++ (W_G E aG vG ++ (W_U E aU vU ++ (W_R E aR vR))))) hx hb hg hown hK hP hD hS 0 rfl (Nat.le_of_ble_eq_true rfl) rfl dX3_clear_27 (fun H locs hP hD hS => ?_)
  obtain ⟨vN_26, hv, hf⟩ := lt_o hf
  rw [← hv] at hP hD
  clear hv
  refine lv_aload_n hx hb dX3_clear_30 rfl (lv_at hl 0 rfl) ?_
  refine lv_iconst (v := 0) hx hb dX3_clear_31 (by decide) ?_
  refine pf_X3_30 (w2 := (W_N aN aG aU aR (va_up vN_26 6 0) ++ (W_G E aG vG ++ (W_U E aU vU ++ (W_R E aR vR))))) hx hb hg hown hK hP hD hS 0 rfl (Nat.le_of_ble_eq_true rfl) rfl dX3_clear_32 (fun H locs hP hD hS => ?_)
  obtain ⟨vN_27, hv, hf⟩ := lt_o hf
  rw [← hv] at hP hD
  clear hv
  refine lv_aload_n hx hb dX3_clear_35 rfl (lv_at hl 0 rfl) ?_
  refine gf_X3_36 hx hb hg hown hK hP 0 rfl rfl dX3_clear_36 ?_
  refine lv_iconst (v := 0) hx hb dX3_clear_39 (by decide) ?_
  refine pf_X3_54 (w2 := (W_N aN aG aU aR vN_27 ++ (W_G E aG (va_up vG 0 (fun _ => 0)) ++ (W_U E aU vU ++ (W_R E aR vR))))) hx hb hg hown hK hP hD hS 1 rfl (Nat.le_of_ble_eq_true rfl) rfl dX3_clear_40 (fun H locs hP hD hS => ?_)
  obtain ⟨vG_28, hv, hf⟩ := lt_o hf
  rw [← hv] at hP hD
  clear hv
  refine lv_aload_n hx hb dX3_clear_43 rfl (lv_at hl 0 rfl) ?_
  refine gf_X3_43 hx hb hg hown hK hP 0 rfl rfl dX3_clear_44 ?_
  refine lv_iconst (v := 0) hx hb dX3_clear_47 (by decide) ?_
  refine pf_X3_57 (w2 := (W_N aN aG aU aR vN_27 ++ (W_G E aG vG_28 ++ (W_U E aU (va_up vU 0 (fun _ => 0)) ++ (W_R E aR vR))))) hx hb hg hown hK hP hD hS 10 rfl (Nat.le_of_ble_eq_true rfl) rfl dX3_clear_48 (fun H locs hP hD hS => ?_)
  obtain ⟨vU_29, hv, hf⟩ := lt_o hf
  rw [← hv] at hP hD
  clear hv
  refine lv_aload_n hx hb dX3_clear_51 rfl (lv_at hl 0 rfl) ?_
  refine gf_X3_50 hx hb hg hown hK hP 0 rfl rfl dX3_clear_52 ?_
  refine lv_iconst (v := 0) hx hb dX3_clear_55 (by decide) ?_
  refine pf_X3_58 (w2 := (W_N aN aG aU aR vN_27 ++ (W_G E aG vG_28 ++ (W_U E aU vU_29 ++ (W_R E aR (va_up vR 0 (fun _ => 0))))))) hx hb hg hown hK hP hD hS 14 rfl (Nat.le_of_ble_eq_true rfl) rfl dX3_clear_56 (fun H locs hP hD hS => ?_)
  obtain ⟨vR_30, hv, hf⟩ := lt_o hf
  rw [← hv] at hP hD
  clear hv
  obtain rfl := Option.some.inj hf
  exact cm_vret hx hb hr hlocks hP hS dX3_clear_59
def F_X3_copyFrom (vN : Nat → Int32) (vG : Nat → Nat → Int32) (vU : Nat → Nat → Int32) (vR : Nat → Nat → Int32) (vN1 : Nat → Int32) (vG1 : Nat → Nat → Int32) (vU1 : Nat → Nat → Int32) (vR1 : Nat → Nat → Int32) : Option ((Nat → Int32) × (Nat → Nat → Int32) × (Nat → Nat → Int32) × (Nat → Nat → Int32)) := lt (va_up vN 0 (vN1 0)) (fun vN_15 => lt (va_up vN_15 1 (vN1 1)) (fun vN_16 => lt (va_up vN_16 2 (vN1 2)) (fun vN_17 => lt (va_up vN_17 3 (vN1 3)) (fun vN_18 => lt (va_up vN_18 4 (vN1 4)) (fun vN_19 => lt (va_up vN_19 5 (vN1 5)) (fun vN_20 => lt (va_up vN_20 6 (vN1 6)) (fun vN_21 => (F_X1_copyFrom vG vG1).bind (fun u1 => (F_X7_copyFrom vU vU1).bind (fun u2 => (F_X5_copyFrom vR vR1).bind (fun u3 => (some (vN_21, u1, u2, u3))))))))))))
abbrev rm_X3_copyFrom : Room := { frames := 2, cells := 0, slots := 0, locals := 81 }
set_option maxHeartbeats 4000000 in
set_option maxRecDepth 100000 in
theorem c_X3_copyFrom (E : Ev) (l : Launch) (aN : Nat) (aG : Nat → Nat) (aU : Nat → Nat) (aR : Nat → Nat) (aN1 : Nat) (aG1 : Nat → Nat) (aU1 : Nat → Nat) (aR1 : Nat → Nat) (vN : Nat → Int32) (vG : Nat → Nat → Int32) (vU : Nat → Nat → Int32) (vR : Nat → Nat → Int32) (vN1 : Nat → Int32) (vG1 : Nat → Nat → Int32) (vU1 : Nat → Nat → Int32) (vR1 : Nat → Nat → Int32) (r : (Nat → Int32) × (Nat → Nat → Int32) × (Nat → Nat → Int32) × (Nat → Nat → Int32)) (hf : F_X3_copyFrom vN vG vU vR vN1 vG1 vU1 vR1 = some r) : CM E l yX3_copyFrom (.code yX3_copyFrom cX3_copyFrom 2 none :: GA) rm_X3_copyFrom [.ref aN, .ref aN1] (W_N aN aG aU aR vN ++ (W_G E aG vG ++ (W_U E aU vU ++ (W_R E aR vR ++ (W_N aN1 aG1 aU1 aR1 vN1 ++ (W_G E aG1 vG1 ++ (W_U E aU1 vU1 ++ (W_R E aR1 vR1)))))))) none (W_N aN aG aU aR r.1 ++ (W_G E aG r.2.1 ++ (W_U E aU r.2.2.1 ++ (W_R E aR r.2.2.2 ++ (W_N aN1 aG1 aU1 aR1 vN1 ++ (W_G E aG1 vG1 ++ (W_U E aU1 vU1 ++ (W_R E aR1 vR1)))))))) := by
  refine CM.of (own := RX3) rfl (by decide) (Nat.le_of_ble_eq_true rfl) ?_
  intro p e s m below meth c A ls hx hb hr hml hown hg hlocks hK hE hA hP hD hS hl
  have hl : lv_has ls 2 [(0, .ref aN), (1, .ref aN1)] := hl
  unfold F_X3_copyFrom at hf
  refine lv_aload_n hx hb dX3_copyFrom_0 rfl (lv_at hl 0 rfl) ?_
  refine lv_aload_n hx hb dX3_copyFrom_1 rfl (lv_at hl 1 rfl) ?_
  refine gf_X3_9 hx hb hg hown hK hP 18 rfl rfl dX3_copyFrom_2 ?_
  refine pf_X3_9 (w2 := (W_N aN aG aU aR (va_up vN 0 (vN1 0)) ++ (W_G E aG vG ++ (W_U E aU vU ++ (W_R E aR vR ++ (W_N aN1 aG1 aU1 aR1 vN1 ++ (W_G E aG1 vG1 ++ (W_U E aU1 vU1 ++ (W_R E aR1 vR1))))))))) hx hb hg hown hK hP hD hS 0 rfl (Nat.le_of_ble_eq_true rfl) rfl dX3_copyFrom_5 (fun H locs hP hD hS => ?_)
  obtain ⟨vN_15, hv, hf⟩ := lt_o hf
  rw [← hv] at hP hD
  clear hv
  refine lv_aload_n hx hb dX3_copyFrom_8 rfl (lv_at hl 0 rfl) ?_
  refine lv_aload_n hx hb dX3_copyFrom_9 rfl (lv_at hl 1 rfl) ?_
  refine gf_X3_15 hx hb hg hown hK hP 18 rfl rfl dX3_copyFrom_10 ?_
  refine pf_X3_15 (w2 := (W_N aN aG aU aR (va_up vN_15 1 (vN1 1)) ++ (W_G E aG vG ++ (W_U E aU vU ++ (W_R E aR vR ++ (W_N aN1 aG1 aU1 aR1 vN1 ++ (W_G E aG1 vG1 ++ (W_U E aU1 vU1 ++ (W_R E aR1 vR1))))))))) hx hb hg hown hK hP hD hS 0 rfl (Nat.le_of_ble_eq_true rfl) rfl dX3_copyFrom_13 (fun H locs hP hD hS => ?_)
  obtain ⟨vN_16, hv, hf⟩ := lt_o hf
  rw [← hv] at hP hD
  clear hv
  refine lv_aload_n hx hb dX3_copyFrom_16 rfl (lv_at hl 0 rfl) ?_
  refine lv_aload_n hx hb dX3_copyFrom_17 rfl (lv_at hl 1 rfl) ?_
  refine gf_X3_18 hx hb hg hown hK hP 18 rfl rfl dX3_copyFrom_18 ?_
  refine pf_X3_18 (w2 := (W_N aN aG aU aR (va_up vN_16 2 (vN1 2)) ++ (W_G E aG vG ++ (W_U E aU vU ++ (W_R E aR vR ++ (W_N aN1 aG1 aU1 aR1 vN1 ++ (W_G E aG1 vG1 ++ (W_U E aU1 vU1 ++ (W_R E aR1 vR1))))))))) hx hb hg hown hK hP hD hS 0 rfl (Nat.le_of_ble_eq_true rfl) rfl dX3_copyFrom_21 (fun H locs hP hD hS => ?_)
  obtain ⟨vN_17, hv, hf⟩ := lt_o hf
  rw [← hv] at hP hD
  clear hv
  refine lv_aload_n hx hb dX3_copyFrom_24 rfl (lv_at hl 0 rfl) ?_
  refine lv_aload_n hx hb dX3_copyFrom_25 rfl (lv_at hl 1 rfl) ?_
  refine gf_X3_21 hx hb hg hown hK hP 18 rfl rfl dX3_copyFrom_26 ?_
  refine pf_X3_21 (w2 := (W_N aN aG aU aR (va_up vN_17 3 (vN1 3)) ++ (W_G E aG vG ++ (W_U E aU vU ++ (W_R E aR vR ++ (W_N aN1 aG1 aU1 aR1 vN1 ++ (W_G E aG1 vG1 ++ (W_U E aU1 vU1 ++ (W_R E aR1 vR1))))))))) hx hb hg hown hK hP hD hS 0 rfl (Nat.le_of_ble_eq_true rfl) rfl dX3_copyFrom_29 (fun H locs hP hD hS => ?_)
  obtain ⟨vN_18, hv, hf⟩ := lt_o hf
  rw [← hv] at hP hD
  clear hv
  refine lv_aload_n hx hb dX3_copyFrom_32 rfl (lv_at hl 0 rfl) ?_
  refine lv_aload_n hx hb dX3_copyFrom_33 rfl (lv_at hl 1 rfl) ?_
  refine gf_X3_24 hx hb hg hown hK hP 18 rfl rfl dX3_copyFrom_34 ?_
  refine pf_X3_24 (w2 := (W_N aN aG aU aR (va_up vN_18 4 (vN1 4)) ++ (W_G E aG vG ++ (W_U E aU vU ++ (W_R E aR vR ++ (W_N aN1 aG1 aU1 aR1 vN1 ++ (W_G E aG1 vG1 ++ (W_U E aU1 vU1 ++ (W_R E aR1 vR1))))))))) hx hb hg hown hK hP hD hS 0 rfl (Nat.le_of_ble_eq_true rfl) rfl dX3_copyFrom_37 (fun H locs hP hD hS => ?_)
  obtain ⟨vN_19, hv, hf⟩ := lt_o hf
  rw [← hv] at hP hD
  clear hv
  refine lv_aload_n hx hb dX3_copyFrom_40 rfl (lv_at hl 0 rfl) ?_
  refine lv_aload_n hx hb dX3_copyFrom_41 rfl (lv_at hl 1 rfl) ?_
  refine gf_X3_27 hx hb hg hown hK hP 18 rfl rfl dX3_copyFrom_42 ?_
  refine pf_X3_27 (w2 := (W_N aN aG aU aR (va_up vN_19 5 (vN1 5)) ++ (W_G E aG vG ++ (W_U E aU vU ++ (W_R E aR vR ++ (W_N aN1 aG1 aU1 aR1 vN1 ++ (W_G E aG1 vG1 ++ (W_U E aU1 vU1 ++ (W_R E aR1 vR1))))))))) hx hb hg hown hK hP hD hS 0 rfl (Nat.le_of_ble_eq_true rfl) rfl dX3_copyFrom_45 (fun H locs hP hD hS => ?_)
  obtain ⟨vN_20, hv, hf⟩ := lt_o hf
  rw [← hv] at hP hD
  clear hv
  refine lv_aload_n hx hb dX3_copyFrom_48 rfl (lv_at hl 0 rfl) ?_
  refine lv_aload_n hx hb dX3_copyFrom_49 rfl (lv_at hl 1 rfl) ?_
  refine gf_X3_30 hx hb hg hown hK hP 18 rfl rfl dX3_copyFrom_50 ?_
  refine pf_X3_30 (w2 := (W_N aN aG aU aR (va_up vN_20 6 (vN1 6)) ++ (W_G E aG vG ++ (W_U E aU vU ++ (W_R E aR vR ++ (W_N aN1 aG1 aU1 aR1 vN1 ++ (W_G E aG1 vG1 ++ (W_U E aU1 vU1 ++ (W_R E aR1 vR1))))))))) hx hb hg hown hK hP hD hS 0 rfl (Nat.le_of_ble_eq_true rfl) rfl dX3_copyFrom_53 (fun H locs hP hD hS => ?_)
  obtain ⟨vN_21, hv, hf⟩ := lt_o hf
  rw [← hv] at hP hD
  clear hv
  refine lv_aload_n hx hb dX3_copyFrom_56 rfl (lv_at hl 0 rfl) ?_
  refine gf_X3_36 hx hb hg hown hK hP 0 rfl rfl dX3_copyFrom_57 ?_
  refine lv_aload_n hx hb dX3_copyFrom_60 rfl (lv_at hl 1 rfl) ?_
  refine gf_X3_36 hx hb hg hown hK hP 18 rfl rfl dX3_copyFrom_61 ?_
  obtain ⟨u1, hu1, hf⟩ := bn hf
  refine cm_V (As := [.ref (aG1 0)]) (rest := []) (w2 := (W_N aN aG aU aR vN_21 ++ (W_G E aG u1 ++ (W_U E aU vU ++ (W_R E aR vR ++ (W_N aN1 aG1 aU1 aR1 vN1 ++ (W_G E aG1 vG1 ++ (W_U E aU1 vU1 ++ (W_R E aR1 vR1))))))))) hx hb hml hown hg (c_X1_copyFrom E l aG aG1 vG vG1 u1 hu1) cy_X1_copyFrom ml_X3_59 ⟨⟨rfl, rfl⟩, Nat.le_of_ble_eq_true rfl, Nat.le_of_ble_eq_true rfl⟩ hK hE hP hD hS hA [false, true, true, true, true, true, true, true, true, true, false, false, false, false, false, false, false, false, false, true, true, true, true, true, true, true, true, true] rfl rfl rfl 1 rfl rfl rfl hl.1 rfl (Nat.le_of_ble_eq_true rfl) dX3_copyFrom_64 ⟨Nat.le_of_ble_eq_true rfl, Nat.le_of_ble_eq_true rfl⟩ [] rfl (fun H locs hP hD hS => ?_)
  refine lv_aload_n hx hb dX3_copyFrom_67 rfl (lv_at hl 0 rfl) ?_
  refine gf_X3_43 hx hb hg hown hK hP 0 rfl rfl dX3_copyFrom_68 ?_
  refine lv_aload_n hx hb dX3_copyFrom_71 rfl (lv_at hl 1 rfl) ?_
  refine gf_X3_43 hx hb hg hown hK hP 18 rfl rfl dX3_copyFrom_72 ?_
  obtain ⟨u2, hu2, hf⟩ := bn hf
  refine cm_V (As := [.ref (aU1 0)]) (rest := []) (w2 := (W_N aN aG aU aR vN_21 ++ (W_G E aG u1 ++ (W_U E aU u2 ++ (W_R E aR vR ++ (W_N aN1 aG1 aU1 aR1 vN1 ++ (W_G E aG1 vG1 ++ (W_U E aU1 vU1 ++ (W_R E aR1 vR1))))))))) hx hb hml hown hg (c_X7_copyFrom E l aU aU1 vU vU1 u2 hu2) cy_X7_copyFrom ml_X3_63 ⟨⟨rfl, rfl⟩, Nat.le_of_ble_eq_true rfl, Nat.le_of_ble_eq_true rfl⟩ hK hE hP hD hS hA [false, false, false, false, false, false, false, false, false, false, true, true, true, true, false, false, false, false, false, false, false, false, false, false, false, false, false, false, true, true, true, true] rfl rfl rfl 10 rfl rfl rfl hl.1 rfl (Nat.le_of_ble_eq_true rfl) dX3_copyFrom_75 ⟨Nat.le_of_ble_eq_true rfl, Nat.le_of_ble_eq_true rfl⟩ [] rfl (fun H locs hP hD hS => ?_)
  refine lv_aload_n hx hb dX3_copyFrom_78 rfl (lv_at hl 0 rfl) ?_
  refine gf_X3_50 hx hb hg hown hK hP 0 rfl rfl dX3_copyFrom_79 ?_
  refine lv_aload_n hx hb dX3_copyFrom_82 rfl (lv_at hl 1 rfl) ?_
  refine gf_X3_50 hx hb hg hown hK hP 18 rfl rfl dX3_copyFrom_83 ?_
  obtain ⟨u3, hu3, hf⟩ := bn hf
  refine cm_V (As := [.ref (aR1 0)]) (rest := []) (w2 := (W_N aN aG aU aR vN_21 ++ (W_G E aG u1 ++ (W_U E aU u2 ++ (W_R E aR u3 ++ (W_N aN1 aG1 aU1 aR1 vN1 ++ (W_G E aG1 vG1 ++ (W_U E aU1 vU1 ++ (W_R E aR1 vR1))))))))) hx hb hml hown hg (c_X5_copyFrom E l aR aR1 vR vR1 u3 hu3) cy_X5_copyFrom ml_X3_66 ⟨⟨rfl, rfl⟩, Nat.le_of_ble_eq_true rfl, Nat.le_of_ble_eq_true rfl⟩ hK hE hP hD hS hA [false, false, false, false, false, false, false, false, false, false, false, false, false, false, true, true, true, true, false, false, false, false, false, false, false, false, false, false, false, false, false, false, true, true, true, true] rfl rfl rfl 14 rfl rfl rfl hl.1 rfl (Nat.le_of_ble_eq_true rfl) dX3_copyFrom_86 ⟨Nat.le_of_ble_eq_true rfl, Nat.le_of_ble_eq_true rfl⟩ [] rfl (fun H locs hP hD hS => ?_)
  obtain rfl := Option.some.inj hf
  exact cm_vret hx hb hr hlocks hP hS dX3_copyFrom_89
def F_X3_presentYawn (vN : Nat → Int32) (vR : Nat → Nat → Int32) : Option (Int32) := (F_X5_latestMinute vR).bind (fun u1 => (some (if (((vN 0) - u1) / 30) < 9 then (((vN 0) - u1) / 30) else 9)))
abbrev rm_X3_presentYawn : Room := { frames := 1, cells := 0, slots := 0, locals := 21 }
set_option maxHeartbeats 4000000 in
set_option maxRecDepth 100000 in
theorem c_X3_presentYawn (E : Ev) (l : Launch) (aN : Nat) (aG : Nat → Nat) (aU : Nat → Nat) (aR : Nat → Nat) (vN : Nat → Int32) (vR : Nat → Nat → Int32) (r : Int32) (hf : F_X3_presentYawn vN vR = some r) : CM E l yX3_presentYawn (.code yX3_presentYawn cX3_presentYawn 1 (some .int) :: GA) rm_X3_presentYawn [.ref aN] (W_N aN aG aU aR vN ++ (W_R E aR vR)) (some (.int r)) (W_N aN aG aU aR vN ++ (W_R E aR vR)) := by
  refine CM.of (own := RX3) rfl (by decide) (Nat.le_of_ble_eq_true rfl) ?_
  intro p e s m below meth c A ls hx hb hr hml hown hg hlocks hK hE hA hP hD hS hl
  have hl : lv_has ls 1 [(0, .ref aN)] := hl
  unfold F_X3_presentYawn at hf
  refine lv_bipush (v := 9) hx hb dX3_presentYawn_0 (by decide) ?_
  refine lv_aload_n hx hb dX3_presentYawn_2 rfl (lv_at hl 0 rfl) ?_
  refine gf_X3_9 hx hb hg hown hK hP 0 rfl rfl dX3_presentYawn_3 ?_
  refine lv_aload_n hx hb dX3_presentYawn_6 rfl (lv_at hl 0 rfl) ?_
  refine gf_X3_50 hx hb hg hown hK hP 0 rfl rfl dX3_presentYawn_7 ?_
  obtain ⟨u1, hu1, hf⟩ := bn hf
  refine cm_V (As := []) (rest := [.int (vN 0), .int 9]) (w2 := (W_N aN aG aU aR vN ++ (W_R E aR vR))) hx hb hml hown hg (c_X5_latestMinute E l aR vR u1 hu1) cy_X5_latestMinute ml_X3_69 ⟨⟨rfl, rfl⟩, Nat.le_of_ble_eq_true rfl, Nat.le_of_ble_eq_true rfl⟩ hK hE hP hD hS hA [false, true, true, true, true] rfl rfl rfl 1 rfl rfl rfl hl.1 rfl (Nat.le_of_ble_eq_true rfl) dX3_presentYawn_10 ⟨Nat.le_of_ble_eq_true rfl, Nat.le_of_ble_eq_true rfl⟩ [.int u1, .int (vN 0), .int 9] rfl (fun H locs hP hD hS => ?_)
  refine lv_isub hx hb dX3_presentYawn_13 ?_
  refine lv_bipush (v := 30) hx hb dX3_presentYawn_14 (by decide) ?_
  refine lv_idiv hx hb dX3_presentYawn_16 (by decide) ?_
  refine cm_min hx hb hml hl.1 hown hg ml_X3_73 (Nat.le_of_ble_eq_true rfl) (Nat.le_of_ble_eq_true rfl) ⟨Nat.le_of_ble_eq_true rfl, Nat.le_of_ble_eq_true rfl⟩ dX3_presentYawn_17 ?_
  obtain rfl := Option.some.inj hf
  exact cm_iret hx hb hr hlocks hP hS dX3_presentYawn_20
def F_X3_tipToGive (vN : Nat → Int32) (vG : Nat → Nat → Int32) (vR : Nat → Nat → Int32) (x1 : Int32) : Option (Int32) := ck x1 10 (ck x1 10 ((F_X3_presentYawn vN vR).bind (fun u1 => (some (if 0 < (((vG 3 (Int32.toNatClampNeg x1)) - u1) - (if (vG 6 (Int32.toNatClampNeg x1)) = 0 then 0 else 1)) then (((vG 3 (Int32.toNatClampNeg x1)) - u1) - (if (vG 6 (Int32.toNatClampNeg x1)) = 0 then 0 else 1)) else 0)))))
abbrev rm_X3_tipToGive : Room := { frames := 2, cells := 0, slots := 0, locals := 41 }
set_option maxHeartbeats 4000000 in
set_option maxRecDepth 100000 in
theorem c_X3_tipToGive (E : Ev) (l : Launch) (aN : Nat) (aG : Nat → Nat) (aU : Nat → Nat) (aR : Nat → Nat) (vN : Nat → Int32) (vG : Nat → Nat → Int32) (vR : Nat → Nat → Int32) (x1 : Int32) (r : Int32) (hf : F_X3_tipToGive vN vG vR x1 = some r) : CM E l yX3_tipToGive (.code yX3_tipToGive cX3_tipToGive 3 (some .int) :: GA) rm_X3_tipToGive [.ref aN, .int x1] (W_N aN aG aU aR vN ++ (W_G E aG vG ++ (W_R E aR vR))) (some (.int r)) (W_N aN aG aU aR vN ++ (W_G E aG vG ++ (W_R E aR vR))) := by
  refine CM.of (own := RX3) rfl (by decide) (Nat.le_of_ble_eq_true rfl) ?_
  intro p e s m below meth c A ls hx hb hr hml hown hg hlocks hK hE hA hP hD hS hl
  have hl : lv_has ls 3 [(0, .ref aN), (1, .int x1)] := hl
  unfold F_X3_tipToGive at hf
  refine lv_aload_n hx hb dX3_tipToGive_0 rfl (lv_at hl 0 rfl) ?_
  refine gf_X3_36 hx hb hg hown hK hP 0 rfl rfl dX3_tipToGive_1 ?_
  refine gf_X3_79 hx hb hg hown hK hP 1 rfl rfl dX3_tipToGive_4 ?_
  refine lv_iload_n hx hb dX3_tipToGive_7 rfl (lv_at hl 1 rfl) ?_
  obtain ⟨hi, hf⟩ := ck_o hf
  refine ar_ld hx hb hK hP 7 rfl hi dX3_tipToGive_8 ?_
  refine wj (F0 m 17 ls [.int (if (vG 6 (Int32.toNatClampNeg x1)) = 0 then 0 else 1)]) ?_ (fun jk => ?_)
  rotate_left
  · refine lv_if_eq (tgt := 16) hx hb dX3_tipToGive_9 (by decide) (fun cq => ?_) (fun cq => ?_)
    · rw [if_pos cq] at jk
      refine lv_iconst (v := 0) hx hb dX3_tipToGive_16 (by decide) ?_
      exact jk
    · rw [if_neg cq] at jk
      refine lv_iconst (v := 1) hx hb dX3_tipToGive_12 (by decide) ?_
      refine lv_goto (tgt := 17) hx hb dX3_tipToGive_13 (by decide) ?_
      exact jk
  refine lv_istore_n (lv' := [(2, .int (if (vG 6 (Int32.toNatClampNeg x1)) = 0 then 0 else 1)), (0, .ref aN), (1, .int x1)]) hx hb dX3_tipToGive_17 rfl hl (by decide) rfl (fun ls hl => ?_)
  refine lv_iconst (v := 0) hx hb dX3_tipToGive_18 (by decide) ?_
  refine lv_aload_n hx hb dX3_tipToGive_19 rfl (lv_at hl 1 rfl) ?_
  refine gf_X3_36 hx hb hg hown hK hP 0 rfl rfl dX3_tipToGive_20 ?_
  refine gf_X3_83 hx hb hg hown hK hP 1 rfl rfl dX3_tipToGive_23 ?_
  refine lv_iload_n hx hb dX3_tipToGive_26 rfl (lv_at hl 2 rfl) ?_
  obtain ⟨hi, hf⟩ := ck_o hf
  refine ar_ld hx hb hK hP 4 rfl hi dX3_tipToGive_27 ?_
  refine lv_aload_n hx hb dX3_tipToGive_28 rfl (lv_at hl 1 rfl) ?_
  obtain ⟨u1, hu1, hf⟩ := bn hf
  refine cm_V (As := []) (rest := [.int (vG 3 (Int32.toNatClampNeg x1)), .int 0]) (w2 := (W_N aN aG aU aR vN ++ (W_G E aG vG ++ (W_R E aR vR)))) hx hb hml hown hg (c_X3_presentYawn E l aN aG aU aR vN vR u1 hu1) cy_X3_presentYawn ml_X3_86 ⟨⟨rfl, rfl⟩, Nat.le_of_ble_eq_true rfl, Nat.le_of_ble_eq_true rfl⟩ hK hE hP hD hS hA [true, false, false, false, false, false, false, false, false, false, true, true, true, true] rfl rfl rfl 0 rfl rfl rfl hl.1 rfl (Nat.le_of_ble_eq_true rfl) dX3_tipToGive_29 ⟨Nat.le_of_ble_eq_true rfl, Nat.le_of_ble_eq_true rfl⟩ [.int u1, .int (vG 3 (Int32.toNatClampNeg x1)), .int 0] rfl (fun H locs hP hD hS => ?_)
  refine lv_isub hx hb dX3_tipToGive_32 ?_
  refine lv_iload_n hx hb dX3_tipToGive_33 rfl (lv_at hl 0 rfl) ?_
  refine lv_isub hx hb dX3_tipToGive_34 ?_
  refine cm_max hx hb hml hl.1 hown hg ml_X3_89 (Nat.le_of_ble_eq_true rfl) (Nat.le_of_ble_eq_true rfl) ⟨Nat.le_of_ble_eq_true rfl, Nat.le_of_ble_eq_true rfl⟩ dX3_tipToGive_35 ?_
  obtain rfl := Option.some.inj hf
  exact cm_iret hx hb hr hlocks hP hS dX3_tipToGive_38
def F_X3_umbrellaToTake (vN : Nat → Int32) (vU : Nat → Nat → Int32) (x1 : Int32) : Option (Int32) := (if (vN 1) = 0 then (some (-1)) else (F_X7_firstOwnUsable vU x1).bind (fun u1 => (if u1 = (-1) then (F_X7_driestUsable vU).bind (fun u2 => (some u2)) else (some u1))))
abbrev rm_X3_umbrellaToTake : Room := { frames := 3, cells := 0, slots := 0, locals := 65 }
set_option maxHeartbeats 4000000 in
set_option maxRecDepth 100000 in
theorem c_X3_umbrellaToTake (E : Ev) (l : Launch) (aN : Nat) (aG : Nat → Nat) (aU : Nat → Nat) (aR : Nat → Nat) (vN : Nat → Int32) (vU : Nat → Nat → Int32) (x1 : Int32) (r : Int32) (hf : F_X3_umbrellaToTake vN vU x1 = some r) : CM E l yX3_umbrellaToTake (.code yX3_umbrellaToTake cX3_umbrellaToTake 3 (some .int) :: GA) rm_X3_umbrellaToTake [.ref aN, .int x1] (W_N aN aG aU aR vN ++ (W_U E aU vU)) (some (.int r)) (W_N aN aG aU aR vN ++ (W_U E aU vU)) := by
  refine CM.of (own := RX3) rfl (by decide) (Nat.le_of_ble_eq_true rfl) ?_
  intro p e s m below meth c A ls hx hb hr hml hown hg hlocks hK hE hA hP hD hS hl
  have hl : lv_has ls 3 [(0, .ref aN), (1, .int x1)] := hl
  unfold F_X3_umbrellaToTake at hf
  refine lv_aload_n hx hb dX3_umbrellaToTake_0 rfl (lv_at hl 0 rfl) ?_
  refine gf_X3_15 hx hb hg hown hK hP 0 rfl rfl dX3_umbrellaToTake_1 ?_
  refine lv_if_ne (tgt := 9) hx hb dX3_umbrellaToTake_4 (by decide) (fun cq => ?_) (fun cq => ?_)
  · have hf := ie cq hf
    refine lv_aload_n hx hb dX3_umbrellaToTake_9 rfl (lv_at hl 0 rfl) ?_
    refine gf_X3_43 hx hb hg hown hK hP 0 rfl rfl dX3_umbrellaToTake_10 ?_
    refine lv_iload_n hx hb dX3_umbrellaToTake_13 rfl (lv_at hl 1 rfl) ?_
    obtain ⟨u1, hu1, hf⟩ := bn hf
    refine cm_V (As := [.int x1]) (rest := []) (w2 := (W_N aN aG aU aR vN ++ (W_U E aU vU))) hx hb hml hown hg (c_X7_firstOwnUsable E l aU vU x1 u1 hu1) cy_X7_firstOwnUsable ml_X3_92 ⟨⟨rfl, rfl⟩, Nat.le_of_ble_eq_true rfl, Nat.le_of_ble_eq_true rfl⟩ hK hE hP hD hS hA [false, true, true, true, true] rfl rfl rfl 1 rfl rfl rfl hl.1 rfl (Nat.le_of_ble_eq_true rfl) dX3_umbrellaToTake_14 ⟨Nat.le_of_ble_eq_true rfl, Nat.le_of_ble_eq_true rfl⟩ [.int u1] rfl (fun H locs hP hD hS => ?_)
    refine lv_istore_n (lv' := [(2, .int u1), (0, .ref aN), (1, .int x1)]) hx hb dX3_umbrellaToTake_17 rfl hl (by decide) rfl (fun ls hl => ?_)
    refine lv_iload_n hx hb dX3_umbrellaToTake_18 rfl (lv_at hl 0 rfl) ?_
    refine lv_iconst (v := (-1)) hx hb dX3_umbrellaToTake_19 (by decide) ?_
    refine lv_icmp_eq (tgt := 27) hx hb dX3_umbrellaToTake_20 (by decide) (fun cq => ?_) (fun cq => ?_)
    · have hf := it cq hf
      refine lv_aload_n hx hb dX3_umbrellaToTake_27 rfl (lv_at hl 1 rfl) ?_
      refine gf_X3_43 hx hb hg hown hK hP 0 rfl rfl dX3_umbrellaToTake_28 ?_
      obtain ⟨u2, hu2, hf⟩ := bn hf
      refine cm_V (As := []) (rest := []) (w2 := (W_N aN aG aU aR vN ++ (W_U E aU vU))) hx hb hml hown hg (c_X7_driestUsable E l aU vU u2 hu2) cy_X7_driestUsable ml_X3_96 ⟨⟨rfl, rfl⟩, Nat.le_of_ble_eq_true rfl, Nat.le_of_ble_eq_true rfl⟩ hK hE hP hD hS hA [false, true, true, true, true] rfl rfl rfl 1 rfl rfl rfl hl.1 rfl (Nat.le_of_ble_eq_true rfl) dX3_umbrellaToTake_31 ⟨Nat.le_of_ble_eq_true rfl, Nat.le_of_ble_eq_true rfl⟩ [.int u2] rfl (fun H locs hP hD hS => ?_)
      obtain rfl := Option.some.inj hf
      exact cm_iret hx hb hr hlocks hP hS dX3_umbrellaToTake_34
    · have hf := ie cq hf
      refine lv_iload_n hx hb dX3_umbrellaToTake_23 rfl (lv_at hl 0 rfl) ?_
      refine lv_goto (tgt := 34) hx hb dX3_umbrellaToTake_24 (by decide) ?_
      obtain rfl := Option.some.inj hf
      exact cm_iret hx hb hr hlocks hP hS dX3_umbrellaToTake_34
  · have hf := it cq hf
    refine lv_iconst (v := (-1)) hx hb dX3_umbrellaToTake_7 (by decide) ?_
    obtain rfl := Option.some.inj hf
    exact cm_iret hx hb hr hlocks hP hS dX3_umbrellaToTake_8
def J_X3_letLeave_21 (vN : Nat → Int32) (x1 : Int32) (vG : Nat → Nat → Int32) (vU : Nat → Nat → Int32) (vR : Nat → Nat → Int32) : Option ((Nat → Nat → Int32) × (Nat → Nat → Int32) × (Nat → Nat → Int32)) := ck x1 10 (lt (va_up vG 6 (upd (vG 6) (Int32.toNatClampNeg x1) 0)) (fun vG_9 => ck x1 10 (lt (va_up vG_9 5 (upd (vG_9 5) (Int32.toNatClampNeg x1) (vN 0))) (fun vG_10 => (F_X5_enter vR (vN 0) x1 45).bind (fun u1 => (some (vG_10, vU, u1)))))))
def F_X3_letLeave (vN : Nat → Int32) (vG : Nat → Nat → Int32) (vU : Nat → Nat → Int32) (vR : Nat → Nat → Int32) (x1 : Int32) : Option ((Nat → Nat → Int32) × (Nat → Nat → Int32) × (Nat → Nat → Int32)) := (F_X3_umbrellaToTake vN vU x1).bind (fun u1 => (if u1 = (-1) then (J_X3_letLeave_21 vN x1 vG vU vR) else ck u1 12 (lt (va_up vU 3 (upd (vU 3) (Int32.toNatClampNeg u1) x1)) (fun vU_11 => (J_X3_letLeave_21 vN x1 vG vU_11 vR)))))
abbrev rm_X3_letLeave : Room := { frames := 4, cells := 0, slots := 0, locals := 87 }
set_option maxHeartbeats 4000000 in
set_option maxRecDepth 100000 in
theorem c_X3_letLeave (E : Ev) (l : Launch) (aN : Nat) (aG : Nat → Nat) (aU : Nat → Nat) (aR : Nat → Nat) (vN : Nat → Int32) (vG : Nat → Nat → Int32) (vU : Nat → Nat → Int32) (vR : Nat → Nat → Int32) (x1 : Int32) (r : (Nat → Nat → Int32) × (Nat → Nat → Int32) × (Nat → Nat → Int32)) (hf : F_X3_letLeave vN vG vU vR x1 = some r) : CM E l yX3_letLeave (.code yX3_letLeave cX3_letLeave 3 none :: GA) rm_X3_letLeave [.ref aN, .int x1] (W_N aN aG aU aR vN ++ (W_G E aG vG ++ (W_U E aU vU ++ (W_R E aR vR)))) none (W_N aN aG aU aR vN ++ (W_G E aG r.1 ++ (W_U E aU r.2.1 ++ (W_R E aR r.2.2)))) := by
  refine CM.of (own := RX3) rfl (by decide) (Nat.le_of_ble_eq_true rfl) ?_
  intro p e s m below meth c A ls hx hb hr hml hown hg hlocks hK hE hA hP hD hS hl
  have hl : lv_has ls 3 [(0, .ref aN), (1, .int x1)] := hl
  have jp_21 : ∀ (vG : Nat → Nat → Int32) (vU : Nat → Nat → Int32) (vR : Nat → Nat → Int32) (H : Heap) (locs : List Loc) (ls : Array Slot), J_X3_letLeave_21 vN x1 vG vU vR = some r → va_P E.1 vwCl (W_N aN aG aU aR vN ++ (W_G E aG vG ++ (W_U E aU vU ++ (W_R E aR vR)))) H → va_D A (W_N aN aG aU aR vN ++ (W_G E aG vG ++ (W_U E aU vU ++ (W_R E aR vR)))) → va_S A s.heap H locs → lv_has ls 3 [(0, .ref aN), (1, .int x1)] → W p l e rm_X3_letLeave s m ([.ref aN, .int x1] : List Value).toArray below meth c H locs 0 0 (MQ below (QW E none (W_N aN aG aU aR vN ++ (W_G E aG r.1 ++ (W_U E aU r.2.1 ++ (W_R E aR r.2.2)))) A) ([.ref aN, .int x1] : List Value).toArray s 0 0 A) (F0 m 21 ls []) := by
    intro vG vU vR H locs ls hf hP hD hS hl
    unfold J_X3_letLeave_21 at hf
    refine lv_aload_n hx hb dX3_letLeave_21 rfl (lv_at hl 0 rfl) ?_
    refine gf_X3_36 hx hb hg hown hK hP 0 rfl rfl dX3_letLeave_22 ?_
    refine gf_X3_79 hx hb hg hown hK hP 1 rfl rfl dX3_letLeave_25 ?_
    refine lv_iload_n hx hb dX3_letLeave_28 rfl (lv_at hl 1 rfl) ?_
    refine lv_iconst (v := 0) hx hb dX3_letLeave_29 (by decide) ?_
    obtain ⟨hi, hf⟩ := ck_o hf
    refine ar_st (w2 := (W_N aN aG aU aR vN ++ (W_G E aG (va_up vG 6 (upd (vG 6) (Int32.toNatClampNeg x1) 0)) ++ (W_U E aU vU ++ (W_R E aR vR))))) hx hb hK hP hD hS 7 rfl hi rfl dX3_letLeave_30 (fun H locs hP hD hS => ?_)
    obtain ⟨vG_9, hv, hf⟩ := lt_o hf
    rw [← hv] at hP hD
    clear hv
    refine lv_aload_n hx hb dX3_letLeave_31 rfl (lv_at hl 0 rfl) ?_
    refine gf_X3_36 hx hb hg hown hK hP 0 rfl rfl dX3_letLeave_32 ?_
    refine gf_X3_105 hx hb hg hown hK hP 1 rfl rfl dX3_letLeave_35 ?_
    refine lv_iload_n hx hb dX3_letLeave_38 rfl (lv_at hl 1 rfl) ?_
    refine lv_aload_n hx hb dX3_letLeave_39 rfl (lv_at hl 0 rfl) ?_
    refine gf_X3_9 hx hb hg hown hK hP 0 rfl rfl dX3_letLeave_40 ?_
    obtain ⟨hi, hf⟩ := ck_o hf
    refine ar_st (w2 := (W_N aN aG aU aR vN ++ (W_G E aG (va_up vG_9 5 (upd (vG_9 5) (Int32.toNatClampNeg x1) (vN 0))) ++ (W_U E aU vU ++ (W_R E aR vR))))) hx hb hK hP hD hS 6 rfl hi rfl dX3_letLeave_43 (fun H locs hP hD hS => ?_)
    obtain ⟨vG_10, hv, hf⟩ := lt_o hf
    rw [← hv] at hP hD
    clear hv
    refine lv_aload_n hx hb dX3_letLeave_44 rfl (lv_at hl 0 rfl) ?_
    refine gf_X3_50 hx hb hg hown hK hP 0 rfl rfl dX3_letLeave_45 ?_
    refine lv_aload_n hx hb dX3_letLeave_48 rfl (lv_at hl 0 rfl) ?_
    refine gf_X3_9 hx hb hg hown hK hP 0 rfl rfl dX3_letLeave_49 ?_
    refine lv_iload_n hx hb dX3_letLeave_52 rfl (lv_at hl 1 rfl) ?_
    refine lv_bipush (v := 45) hx hb dX3_letLeave_53 (by decide) ?_
    obtain ⟨u1, hu1, hf⟩ := bn hf
    refine cm_V (As := [.int (vN 0), .int x1, .int 45]) (rest := []) (w2 := (W_N aN aG aU aR vN ++ (W_G E aG vG_10 ++ (W_U E aU vU ++ (W_R E aR u1))))) hx hb hml hown hg (c_X5_enter E l aR vR (vN 0) x1 45 u1 hu1) cy_X5_enter ml_X3_108 ⟨⟨rfl, rfl⟩, Nat.le_of_ble_eq_true rfl, Nat.le_of_ble_eq_true rfl⟩ hK hE hP hD hS hA [false, false, false, false, false, false, false, false, false, false, false, false, false, false, true, true, true, true] rfl rfl rfl 14 rfl rfl rfl hl.1 rfl (Nat.le_of_ble_eq_true rfl) dX3_letLeave_55 ⟨Nat.le_of_ble_eq_true rfl, Nat.le_of_ble_eq_true rfl⟩ [] rfl (fun H locs hP hD hS => ?_)
    obtain rfl := Option.some.inj hf
    exact cm_vret hx hb hr hlocks hP hS dX3_letLeave_58
  unfold F_X3_letLeave at hf
  refine lv_aload_n hx hb dX3_letLeave_0 rfl (lv_at hl 0 rfl) ?_
  refine lv_iload_n hx hb dX3_letLeave_1 rfl (lv_at hl 1 rfl) ?_
  obtain ⟨u1, hu1, hf⟩ := bn hf
  refine cm_V (As := [.int x1]) (rest := []) (w2 := (W_N aN aG aU aR vN ++ (W_G E aG vG ++ (W_U E aU vU ++ (W_R E aR vR))))) hx hb hml hown hg (c_X3_umbrellaToTake E l aN aG aU aR vN vU x1 u1 hu1) cy_X3_umbrellaToTake ml_X3_99 ⟨⟨rfl, rfl⟩, Nat.le_of_ble_eq_true rfl, Nat.le_of_ble_eq_true rfl⟩ hK hE hP hD hS hA [true, false, false, false, false, false, false, false, false, false, true, true, true, true] rfl rfl rfl 0 rfl rfl rfl hl.1 rfl (Nat.le_of_ble_eq_true rfl) dX3_letLeave_2 ⟨Nat.le_of_ble_eq_true rfl, Nat.le_of_ble_eq_true rfl⟩ [.int u1] rfl (fun H locs hP hD hS => ?_)
  refine lv_istore_n (lv' := [(2, .int u1), (0, .ref aN), (1, .int x1)]) hx hb dX3_letLeave_5 rfl hl (by decide) rfl (fun ls hl => ?_)
  refine lv_iload_n hx hb dX3_letLeave_6 rfl (lv_at hl 0 rfl) ?_
  refine lv_iconst (v := (-1)) hx hb dX3_letLeave_7 (by decide) ?_
  refine lv_icmp_eq (tgt := 21) hx hb dX3_letLeave_8 (by decide) (fun cq => ?_) (fun cq => ?_)
  · have hf := it cq hf
    exact jp_21 _ _ _ _ _ _ hf hP hD hS (lv_sub hl [1, 2] rfl)
  · have hf := ie cq hf
    refine lv_aload_n hx hb dX3_letLeave_11 rfl (lv_at hl 1 rfl) ?_
    refine gf_X3_43 hx hb hg hown hK hP 0 rfl rfl dX3_letLeave_12 ?_
    refine gf_X3_102 hx hb hg hown hK hP 10 rfl rfl dX3_letLeave_15 ?_
    refine lv_iload_n hx hb dX3_letLeave_18 rfl (lv_at hl 0 rfl) ?_
    refine lv_iload_n hx hb dX3_letLeave_19 rfl (lv_at hl 2 rfl) ?_
    obtain ⟨hi, hf⟩ := ck_o hf
    refine ar_st (w2 := (W_N aN aG aU aR vN ++ (W_G E aG vG ++ (W_U E aU (va_up vU 3 (upd (vU 3) (Int32.toNatClampNeg u1) x1)) ++ (W_R E aR vR))))) hx hb hK hP hD hS 13 rfl hi rfl dX3_letLeave_20 (fun H locs hP hD hS => ?_)
    obtain ⟨vU_11, hv, hf⟩ := lt_o hf
    rw [← hv] at hP hD
    clear hv
    exact jp_21 _ _ _ _ _ _ hf hP hD hS (lv_sub hl [1, 2] rfl)
def J_X3_letReturn_30 (x1 : Int32) (x2 : Int32) (vN : Nat → Int32) (vG : Nat → Nat → Int32) (vU : Nat → Nat → Int32) (vR : Nat → Nat → Int32) : Option (Int32 × (Nat → Int32) × (Nat → Nat → Int32) × (Nat → Nat → Int32) × (Nat → Nat → Int32)) := ck x1 10 (lt (va_up vG 5 (upd (vG 5) (Int32.toNatClampNeg x1) (-1))) (fun vG_9 => lt (va_up vN 6 ((vN 6) + x2)) (fun vN_10 => (F_X5_enter vR (vN_10 0) x1 43).bind (fun u1 => (some (x2, vN_10, vG_9, vU, u1))))))
def F_X3_letReturn (vN : Nat → Int32) (vG : Nat → Nat → Int32) (vU : Nat → Nat → Int32) (vR : Nat → Nat → Int32) (x1 : Int32) : Option (Int32 × (Nat → Int32) × (Nat → Nat → Int32) × (Nat → Nat → Int32) × (Nat → Nat → Int32)) := (F_X3_tipToGive vN vG vR x1).bind (fun u1 => (F_X7_carriedBy vU x1).bind (fun u2 => (if u2 = (-1) then (J_X3_letReturn_30 x1 u1 vN vG vU vR) else ck u2 12 (lt (va_up vU 3 (upd (vU 3) (Int32.toNatClampNeg u2) (-1))) (fun vU_11 => (J_X3_letReturn_30 x1 u1 vN vG vU_11 vR))))))
abbrev rm_X3_letReturn : Room := { frames := 3, cells := 0, slots := 0, locals := 63 }
set_option maxHeartbeats 4000000 in
set_option maxRecDepth 100000 in
theorem c_X3_letReturn (E : Ev) (l : Launch) (aN : Nat) (aG : Nat → Nat) (aU : Nat → Nat) (aR : Nat → Nat) (vN : Nat → Int32) (vG : Nat → Nat → Int32) (vU : Nat → Nat → Int32) (vR : Nat → Nat → Int32) (x1 : Int32) (r : Int32 × (Nat → Int32) × (Nat → Nat → Int32) × (Nat → Nat → Int32) × (Nat → Nat → Int32)) (hf : F_X3_letReturn vN vG vU vR x1 = some r) : CM E l yX3_letReturn (.code yX3_letReturn cX3_letReturn 4 (some .int) :: GA) rm_X3_letReturn [.ref aN, .int x1] (W_N aN aG aU aR vN ++ (W_G E aG vG ++ (W_U E aU vU ++ (W_R E aR vR)))) (some (.int r.1)) (W_N aN aG aU aR r.2.1 ++ (W_G E aG r.2.2.1 ++ (W_U E aU r.2.2.2.1 ++ (W_R E aR r.2.2.2.2)))) := by
  refine CM.of (own := RX3) rfl (by decide) (Nat.le_of_ble_eq_true rfl) ?_
  intro p e s m below meth c A ls hx hb hr hml hown hg hlocks hK hE hA hP hD hS hl
  have hl : lv_has ls 4 [(0, .ref aN), (1, .int x1)] := hl
  have jp_30 : ∀ (x2 : Int32) (vN : Nat → Int32) (vG : Nat → Nat → Int32) (vU : Nat → Nat → Int32) (vR : Nat → Nat → Int32) (H : Heap) (locs : List Loc) (ls : Array Slot), J_X3_letReturn_30 x1 x2 vN vG vU vR = some r → va_P E.1 vwCl (W_N aN aG aU aR vN ++ (W_G E aG vG ++ (W_U E aU vU ++ (W_R E aR vR)))) H → va_D A (W_N aN aG aU aR vN ++ (W_G E aG vG ++ (W_U E aU vU ++ (W_R E aR vR)))) → va_S A s.heap H locs → lv_has ls 4 [(0, .ref aN), (1, .int x1), (2, .int x2)] → W p l e rm_X3_letReturn s m ([.ref aN, .int x1] : List Value).toArray below meth c H locs 0 0 (MQ below (QW E (some (.int r.1)) (W_N aN aG aU aR r.2.1 ++ (W_G E aG r.2.2.1 ++ (W_U E aU r.2.2.2.1 ++ (W_R E aR r.2.2.2.2)))) A) ([.ref aN, .int x1] : List Value).toArray s 0 0 A) (F0 m 30 ls []) := by
    intro x2 vN vG vU vR H locs ls hf hP hD hS hl
    unfold J_X3_letReturn_30 at hf
    refine lv_aload_n hx hb dX3_letReturn_30 rfl (lv_at hl 0 rfl) ?_
    refine gf_X3_36 hx hb hg hown hK hP 0 rfl rfl dX3_letReturn_31 ?_
    refine gf_X3_105 hx hb hg hown hK hP 1 rfl rfl dX3_letReturn_34 ?_
    refine lv_iload_n hx hb dX3_letReturn_37 rfl (lv_at hl 1 rfl) ?_
    refine lv_iconst (v := (-1)) hx hb dX3_letReturn_38 (by decide) ?_
    obtain ⟨hi, hf⟩ := ck_o hf
    refine ar_st (w2 := (W_N aN aG aU aR vN ++ (W_G E aG (va_up vG 5 (upd (vG 5) (Int32.toNatClampNeg x1) (-1))) ++ (W_U E aU vU ++ (W_R E aR vR))))) hx hb hK hP hD hS 6 rfl hi rfl dX3_letReturn_39 (fun H locs hP hD hS => ?_)
    obtain ⟨vG_9, hv, hf⟩ := lt_o hf
    rw [← hv] at hP hD
    clear hv
    refine lv_aload_n hx hb dX3_letReturn_40 rfl (lv_at hl 0 rfl) ?_
    refine lv_dup hx hb dX3_letReturn_41 rfl ?_
    refine gf_X3_30 hx hb hg hown hK hP 0 rfl rfl dX3_letReturn_42 ?_
    refine lv_iload_n hx hb dX3_letReturn_45 rfl (lv_at hl 2 rfl) ?_
    refine lv_iadd hx hb dX3_letReturn_46 ?_
    refine pf_X3_30 (w2 := (W_N aN aG aU aR (va_up vN 6 ((vN 6) + x2)) ++ (W_G E aG vG_9 ++ (W_U E aU vU ++ (W_R E aR vR))))) hx hb hg hown hK hP hD hS 0 rfl (Nat.le_of_ble_eq_true rfl) rfl dX3_letReturn_47 (fun H locs hP hD hS => ?_)
    obtain ⟨vN_10, hv, hf⟩ := lt_o hf
    rw [← hv] at hP hD
    clear hv
    refine lv_aload_n hx hb dX3_letReturn_50 rfl (lv_at hl 0 rfl) ?_
    refine gf_X3_50 hx hb hg hown hK hP 0 rfl rfl dX3_letReturn_51 ?_
    refine lv_aload_n hx hb dX3_letReturn_54 rfl (lv_at hl 0 rfl) ?_
    refine gf_X3_9 hx hb hg hown hK hP 0 rfl rfl dX3_letReturn_55 ?_
    refine lv_iload_n hx hb dX3_letReturn_58 rfl (lv_at hl 1 rfl) ?_
    refine lv_bipush (v := 43) hx hb dX3_letReturn_59 (by decide) ?_
    obtain ⟨u1, hu1, hf⟩ := bn hf
    refine cm_V (As := [.int (vN_10 0), .int x1, .int 43]) (rest := []) (w2 := (W_N aN aG aU aR vN_10 ++ (W_G E aG vG_9 ++ (W_U E aU vU ++ (W_R E aR u1))))) hx hb hml hown hg (c_X5_enter E l aR vR (vN_10 0) x1 43 u1 hu1) cy_X5_enter ml_X3_108 ⟨⟨rfl, rfl⟩, Nat.le_of_ble_eq_true rfl, Nat.le_of_ble_eq_true rfl⟩ hK hE hP hD hS hA [false, false, false, false, false, false, false, false, false, false, false, false, false, false, true, true, true, true] rfl rfl rfl 14 rfl rfl rfl hl.1 rfl (Nat.le_of_ble_eq_true rfl) dX3_letReturn_61 ⟨Nat.le_of_ble_eq_true rfl, Nat.le_of_ble_eq_true rfl⟩ [] rfl (fun H locs hP hD hS => ?_)
    refine lv_iload_n hx hb dX3_letReturn_64 rfl (lv_at hl 2 rfl) ?_
    obtain rfl := Option.some.inj hf
    exact cm_iret hx hb hr hlocks hP hS dX3_letReturn_65
  unfold F_X3_letReturn at hf
  refine lv_aload_n hx hb dX3_letReturn_0 rfl (lv_at hl 0 rfl) ?_
  refine lv_iload_n hx hb dX3_letReturn_1 rfl (lv_at hl 1 rfl) ?_
  obtain ⟨u1, hu1, hf⟩ := bn hf
  refine cm_V (As := [.int x1]) (rest := []) (w2 := (W_N aN aG aU aR vN ++ (W_G E aG vG ++ (W_U E aU vU ++ (W_R E aR vR))))) hx hb hml hown hg (c_X3_tipToGive E l aN aG aU aR vN vG vR x1 u1 hu1) cy_X3_tipToGive ml_X3_112 ⟨⟨rfl, rfl⟩, Nat.le_of_ble_eq_true rfl, Nat.le_of_ble_eq_true rfl⟩ hK hE hP hD hS hA [true, true, true, true, true, true, true, true, true, true, false, false, false, false, true, true, true, true] rfl rfl rfl 0 rfl rfl rfl hl.1 rfl (Nat.le_of_ble_eq_true rfl) dX3_letReturn_2 ⟨Nat.le_of_ble_eq_true rfl, Nat.le_of_ble_eq_true rfl⟩ [.int u1] rfl (fun H locs hP hD hS => ?_)
  refine lv_istore_n (lv' := [(2, .int u1), (0, .ref aN), (1, .int x1)]) hx hb dX3_letReturn_5 rfl hl (by decide) rfl (fun ls hl => ?_)
  refine lv_aload_n hx hb dX3_letReturn_6 rfl (lv_at hl 1 rfl) ?_
  refine gf_X3_43 hx hb hg hown hK hP 0 rfl rfl dX3_letReturn_7 ?_
  refine lv_iload_n hx hb dX3_letReturn_10 rfl (lv_at hl 2 rfl) ?_
  obtain ⟨u2, hu2, hf⟩ := bn hf
  refine cm_V (As := [.int x1]) (rest := []) (w2 := (W_N aN aG aU aR vN ++ (W_G E aG vG ++ (W_U E aU vU ++ (W_R E aR vR))))) hx hb hml hown hg (c_X7_carriedBy E l aU vU x1 u2 hu2) cy_X7_carriedBy ml_X3_115 ⟨⟨rfl, rfl⟩, Nat.le_of_ble_eq_true rfl, Nat.le_of_ble_eq_true rfl⟩ hK hE hP hD hS hA [false, false, false, false, false, false, false, false, false, false, true, true, true, true] rfl rfl rfl 10 rfl rfl rfl hl.1 rfl (Nat.le_of_ble_eq_true rfl) dX3_letReturn_11 ⟨Nat.le_of_ble_eq_true rfl, Nat.le_of_ble_eq_true rfl⟩ [.int u2] rfl (fun H locs hP hD hS => ?_)
  refine lv_istore_n (lv' := [(3, .int u2), (2, .int u1), (0, .ref aN), (1, .int x1)]) hx hb dX3_letReturn_14 rfl hl (by decide) rfl (fun ls hl => ?_)
  refine lv_iload_n hx hb dX3_letReturn_15 rfl (lv_at hl 0 rfl) ?_
  refine lv_iconst (v := (-1)) hx hb dX3_letReturn_16 (by decide) ?_
  refine lv_icmp_eq (tgt := 30) hx hb dX3_letReturn_17 (by decide) (fun cq => ?_) (fun cq => ?_)
  · have hf := it cq hf
    exact jp_30 _ _ _ _ _ _ _ _ hf hP hD hS (lv_sub hl [2, 3, 1] rfl)
  · have hf := ie cq hf
    refine lv_aload_n hx hb dX3_letReturn_20 rfl (lv_at hl 2 rfl) ?_
    refine gf_X3_43 hx hb hg hown hK hP 0 rfl rfl dX3_letReturn_21 ?_
    refine gf_X3_102 hx hb hg hown hK hP 10 rfl rfl dX3_letReturn_24 ?_
    refine lv_iload_n hx hb dX3_letReturn_27 rfl (lv_at hl 0 rfl) ?_
    refine lv_iconst (v := (-1)) hx hb dX3_letReturn_28 (by decide) ?_
    obtain ⟨hi, hf⟩ := ck_o hf
    refine ar_st (w2 := (W_N aN aG aU aR vN ++ (W_G E aG vG ++ (W_U E aU (va_up vU 3 (upd (vU 3) (Int32.toNatClampNeg u2) (-1))) ++ (W_R E aR vR))))) hx hb hK hP hD hS 13 rfl hi rfl dX3_letReturn_29 (fun H locs hP hD hS => ?_)
    obtain ⟨vU_11, hv, hf⟩ := lt_o hf
    rw [← hv] at hP hD
    clear hv
    exact jp_30 _ _ _ _ _ _ _ _ hf hP hD hS (lv_sub hl [2, 3, 1] rfl)
def B_X3_soakGuests_2 (rec : Int32 → (Nat → Nat → Int32) → Option ((Nat → Nat → Int32))) (vN : Nat → Int32) (vU : Nat → Nat → Int32) (x1 : Int32) (vG : Nat → Nat → Int32) : Option ((Nat → Nat → Int32)) := (if (vG 0 0) ≤ x1 then (some vG) else (F_X1_isAway vG x1).bind (fun u1 => (if u1 = 0 then (rec (x1 + 1) vG) else (F_X7_carriedBy vU x1).bind (fun u2 => (if u2 = (-1) then (F_X1_soakBy vG x1 (vN 1)).bind (fun u3 => (rec (x1 + 1) u3)) else (rec (x1 + 1) vG))))))
def L_X3_soakGuests_2 (vN : Nat → Int32) (vU : Nat → Nat → Int32) : Nat → Int32 → (Nat → Nat → Int32) → Option ((Nat → Nat → Int32))
  | 0 => fun _ _ => none
  | n + 1 => fun x1 vG => B_X3_soakGuests_2 (L_X3_soakGuests_2 vN vU n) vN vU x1 vG
def F_X3_soakGuests (vN : Nat → Int32) (vG : Nat → Nat → Int32) (vU : Nat → Nat → Int32) : Option ((Nat → Nat → Int32)) := (L_X3_soakGuests_2 vN vU FU 0 vG)
abbrev rm_X3_soakGuests : Room := { frames := 2, cells := 0, slots := 0, locals := 43 }
set_option maxHeartbeats 4000000 in
set_option maxRecDepth 100000 in
theorem c_X3_soakGuests (E : Ev) (l : Launch) (aN : Nat) (aG : Nat → Nat) (aU : Nat → Nat) (aR : Nat → Nat) (vN : Nat → Int32) (vG : Nat → Nat → Int32) (vU : Nat → Nat → Int32) (r : (Nat → Nat → Int32)) (hf : F_X3_soakGuests vN vG vU = some r) : CM E l yX3_soakGuests (.code yX3_soakGuests cX3_soakGuests 2 none :: GA) rm_X3_soakGuests [.ref aN] (W_N aN aG aU aR vN ++ (W_G E aG vG ++ (W_U E aU vU))) none (W_N aN aG aU aR vN ++ (W_G E aG r ++ (W_U E aU vU))) := by
  refine CM.of (own := RX3) rfl (by decide) (Nat.le_of_ble_eq_true rfl) ?_
  intro p e s m below meth c A ls hx hb hr hml hown hg hlocks hK hE hA hP hD hS hl
  have hl : lv_has ls 2 [(0, .ref aN)] := hl
  have lp_2 : ∀ (n : Nat) (x1 : Int32) (vG : Nat → Nat → Int32) (H : Heap) (locs : List Loc) (ls : Array Slot), L_X3_soakGuests_2 vN vU n x1 vG = some r → va_P E.1 vwCl (W_N aN aG aU aR vN ++ (W_G E aG vG ++ (W_U E aU vU))) H → va_D A (W_N aN aG aU aR vN ++ (W_G E aG vG ++ (W_U E aU vU))) → va_S A s.heap H locs → lv_has ls 2 [(0, .ref aN), (1, .int x1)] → W p l e rm_X3_soakGuests s m ([.ref aN] : List Value).toArray below meth c H locs 0 0 (MQ below (QW E none (W_N aN aG aU aR vN ++ (W_G E aG r ++ (W_U E aU vU))) A) ([.ref aN] : List Value).toArray s 0 0 A) (F0 m 2 ls []) := by
    intro n
    induction n with
    | zero => intro x1 vG H locs ls hf; cases hf
    | succ n ih =>
      intro x1 vG H locs ls hf hP hD hS hl
      replace hf : B_X3_soakGuests_2 (L_X3_soakGuests_2 vN vU n) vN vU x1 vG = some r := hf
      unfold B_X3_soakGuests_2 at hf
      refine lv_iload_n hx hb dX3_soakGuests_2 rfl (lv_at hl 1 rfl) ?_
      refine lv_aload_n hx hb dX3_soakGuests_3 rfl (lv_at hl 0 rfl) ?_
      refine gf_X3_36 hx hb hg hown hK hP 0 rfl rfl dX3_soakGuests_4 ?_
      refine gf_X3_54 hx hb hg hown hK hP 1 rfl rfl dX3_soakGuests_7 ?_
      refine lv_icmp_ge (tgt := 54) hx hb dX3_soakGuests_10 (by decide) (fun cq => ?_) (fun cq => ?_)
      · have hf := it cq hf
        obtain rfl := Option.some.inj hf
        exact cm_vret hx hb hr hlocks hP hS dX3_soakGuests_54
      · have hf := ie cq hf
        refine lv_aload_n hx hb dX3_soakGuests_13 rfl (lv_at hl 0 rfl) ?_
        refine gf_X3_36 hx hb hg hown hK hP 0 rfl rfl dX3_soakGuests_14 ?_
        refine lv_iload_n hx hb dX3_soakGuests_17 rfl (lv_at hl 1 rfl) ?_
        obtain ⟨u1, hu1, hf⟩ := bn hf
        refine cm_V (As := [.int x1]) (rest := []) (w2 := (W_N aN aG aU aR vN ++ (W_G E aG vG ++ (W_U E aU vU)))) hx hb hml hown hg (c_X1_isAway E l aG vG x1 u1 hu1) cy_X1_isAway ml_X3_127 ⟨⟨rfl, rfl⟩, Nat.le_of_ble_eq_true rfl, Nat.le_of_ble_eq_true rfl⟩ hK hE hP hD hS hA [false, true, true, true, true, true, true, true, true, true] rfl rfl rfl 1 rfl rfl rfl hl.1 rfl (Nat.le_of_ble_eq_true rfl) dX3_soakGuests_18 ⟨Nat.le_of_ble_eq_true rfl, Nat.le_of_ble_eq_true rfl⟩ [.int u1] rfl (fun H locs hP hD hS => ?_)
        refine lv_if_eq (tgt := 48) hx hb dX3_soakGuests_21 (by decide) (fun cq => ?_) (fun cq => ?_)
        · have hf := it cq hf
          refine lv_iinc (v := (x1 + 1)) (lv' := [(1, .int (x1 + 1)), (0, .ref aN)]) hx hb dX3_soakGuests_48 hl (k := 1) rfl rfl (by decide) rfl (fun ls hl => ?_)
          refine lv_goto (tgt := 2) hx hb dX3_soakGuests_51 (by decide) ?_
          exact ih _ _ _ _ _ hf hP hD hS (lv_sub hl [1, 0] rfl)
        · have hf := ie cq hf
          refine lv_aload_n hx hb dX3_soakGuests_24 rfl (lv_at hl 0 rfl) ?_
          refine gf_X3_43 hx hb hg hown hK hP 0 rfl rfl dX3_soakGuests_25 ?_
          refine lv_iload_n hx hb dX3_soakGuests_28 rfl (lv_at hl 1 rfl) ?_
          obtain ⟨u2, hu2, hf⟩ := bn hf
          refine cm_V (As := [.int x1]) (rest := []) (w2 := (W_N aN aG aU aR vN ++ (W_G E aG vG ++ (W_U E aU vU)))) hx hb hml hown hg (c_X7_carriedBy E l aU vU x1 u2 hu2) cy_X7_carriedBy ml_X3_115 ⟨⟨rfl, rfl⟩, Nat.le_of_ble_eq_true rfl, Nat.le_of_ble_eq_true rfl⟩ hK hE hP hD hS hA [false, false, false, false, false, false, false, false, false, false, true, true, true, true] rfl rfl rfl 10 rfl rfl rfl hl.1 rfl (Nat.le_of_ble_eq_true rfl) dX3_soakGuests_29 ⟨Nat.le_of_ble_eq_true rfl, Nat.le_of_ble_eq_true rfl⟩ [.int u2] rfl (fun H locs hP hD hS => ?_)
          refine lv_iconst (v := (-1)) hx hb dX3_soakGuests_32 (by decide) ?_
          refine lv_icmp_ne (tgt := 48) hx hb dX3_soakGuests_33 (by decide) (fun cq => ?_) (fun cq => ?_)
          · have hf := ie cq hf
            refine lv_iinc (v := (x1 + 1)) (lv' := [(1, .int (x1 + 1)), (0, .ref aN)]) hx hb dX3_soakGuests_48 hl (k := 1) rfl rfl (by decide) rfl (fun ls hl => ?_)
            refine lv_goto (tgt := 2) hx hb dX3_soakGuests_51 (by decide) ?_
            exact ih _ _ _ _ _ hf hP hD hS (lv_sub hl [1, 0] rfl)
          · have hf := it cq hf
            refine lv_aload_n hx hb dX3_soakGuests_36 rfl (lv_at hl 0 rfl) ?_
            refine gf_X3_36 hx hb hg hown hK hP 0 rfl rfl dX3_soakGuests_37 ?_
            refine lv_iload_n hx hb dX3_soakGuests_40 rfl (lv_at hl 1 rfl) ?_
            refine lv_aload_n hx hb dX3_soakGuests_41 rfl (lv_at hl 0 rfl) ?_
            refine gf_X3_15 hx hb hg hown hK hP 0 rfl rfl dX3_soakGuests_42 ?_
            obtain ⟨u3, hu3, hf⟩ := bn hf
            refine cm_V (As := [.int x1, .int (vN 1)]) (rest := []) (w2 := (W_N aN aG aU aR vN ++ (W_G E aG u3 ++ (W_U E aU vU)))) hx hb hml hown hg (c_X1_soakBy E l aG vG x1 (vN 1) u3 hu3) cy_X1_soakBy ml_X3_131 ⟨⟨rfl, rfl⟩, Nat.le_of_ble_eq_true rfl, Nat.le_of_ble_eq_true rfl⟩ hK hE hP hD hS hA [false, true, true, true, true, true, true, true, true, true] rfl rfl rfl 1 rfl rfl rfl hl.1 rfl (Nat.le_of_ble_eq_true rfl) dX3_soakGuests_45 ⟨Nat.le_of_ble_eq_true rfl, Nat.le_of_ble_eq_true rfl⟩ [] rfl (fun H locs hP hD hS => ?_)
            refine lv_iinc (v := (x1 + 1)) (lv' := [(1, .int (x1 + 1)), (0, .ref aN)]) hx hb dX3_soakGuests_48 hl (k := 1) rfl rfl (by decide) rfl (fun ls hl => ?_)
            refine lv_goto (tgt := 2) hx hb dX3_soakGuests_51 (by decide) ?_
            exact ih _ _ _ _ _ hf hP hD hS (lv_sub hl [1, 0] rfl)
  unfold F_X3_soakGuests at hf
  refine lv_iconst (v := 0) hx hb dX3_soakGuests_0 (by decide) ?_
  refine lv_istore_n (lv' := [(1, .int 0), (0, .ref aN)]) hx hb dX3_soakGuests_1 rfl hl (by decide) rfl (fun ls hl => ?_)
  exact lp_2 FU _ _ _ _ _ hf hP hD hS (lv_sub hl [1, 0] rfl)
def F_X3_passOne (vN : Nat → Int32) (vG : Nat → Nat → Int32) (vU : Nat → Nat → Int32) : Option ((Nat → Int32) × (Nat → Nat → Int32) × (Nat → Nat → Int32)) := lt (va_up vN 0 ((vN 0) + 1)) (fun vN_13 => (F_X7_passOneIn vU (vN_13 1)).bind (fun u1 => lt (va_up vN_13 5 ((vN_13 5) + u1.1)) (fun vN_14 => (F_X3_soakGuests vN_14 vG u1.2).bind (fun u2 => (F_X1_noiseAt u2 (vN_14 0)).bind (fun u3 => lt (va_up vN_14 3 ((vN_14 3) + u3)) (fun vN_15 => (if ((vN_15 0) - (vN_15 0) / 60 * 60) = 0 then (if (vN_15 3) ≤ (vN_15 2) then lt (va_up vN_15 3 0) (fun vN_16 => (some (vN_16, u2, u1.2))) else lt (va_up vN_15 4 ((vN_15 4) + 1)) (fun vN_17 => lt (va_up vN_17 3 0) (fun vN_18 => (some (vN_18, u2, u1.2))))) else (some (vN_15, u2, u1.2)))))))))
abbrev rm_X3_passOne : Room := { frames := 3, cells := 0, slots := 0, locals := 67 }
set_option maxHeartbeats 4000000 in
set_option maxRecDepth 100000 in
theorem c_X3_passOne (E : Ev) (l : Launch) (aN : Nat) (aG : Nat → Nat) (aU : Nat → Nat) (aR : Nat → Nat) (vN : Nat → Int32) (vG : Nat → Nat → Int32) (vU : Nat → Nat → Int32) (r : (Nat → Int32) × (Nat → Nat → Int32) × (Nat → Nat → Int32)) (hf : F_X3_passOne vN vG vU = some r) : CM E l yX3_passOne (.code yX3_passOne cX3_passOne 1 none :: GA) rm_X3_passOne [.ref aN] (W_N aN aG aU aR vN ++ (W_G E aG vG ++ (W_U E aU vU))) none (W_N aN aG aU aR r.1 ++ (W_G E aG r.2.1 ++ (W_U E aU r.2.2))) := by
  refine CM.of (own := RX3) rfl (by decide) (Nat.le_of_ble_eq_true rfl) ?_
  intro p e s m below meth c A ls hx hb hr hml hown hg hlocks hK hE hA hP hD hS hl
  have hl : lv_has ls 1 [(0, .ref aN)] := hl
  unfold F_X3_passOne at hf
  refine lv_aload_n hx hb dX3_passOne_0 rfl (lv_at hl 0 rfl) ?_
  refine lv_dup hx hb dX3_passOne_1 rfl ?_
  refine gf_X3_9 hx hb hg hown hK hP 0 rfl rfl dX3_passOne_2 ?_
  refine lv_iconst (v := 1) hx hb dX3_passOne_5 (by decide) ?_
  refine lv_iadd hx hb dX3_passOne_6 ?_
  refine pf_X3_9 (w2 := (W_N aN aG aU aR (va_up vN 0 ((vN 0) + 1)) ++ (W_G E aG vG ++ (W_U E aU vU)))) hx hb hg hown hK hP hD hS 0 rfl (Nat.le_of_ble_eq_true rfl) rfl dX3_passOne_7 (fun H locs hP hD hS => ?_)
  obtain ⟨vN_13, hv, hf⟩ := lt_o hf
  rw [← hv] at hP hD
  clear hv
  refine lv_aload_n hx hb dX3_passOne_10 rfl (lv_at hl 0 rfl) ?_
  refine lv_dup hx hb dX3_passOne_11 rfl ?_
  refine gf_X3_27 hx hb hg hown hK hP 0 rfl rfl dX3_passOne_12 ?_
  refine lv_aload_n hx hb dX3_passOne_15 rfl (lv_at hl 0 rfl) ?_
  refine gf_X3_43 hx hb hg hown hK hP 0 rfl rfl dX3_passOne_16 ?_
  refine lv_aload_n hx hb dX3_passOne_19 rfl (lv_at hl 0 rfl) ?_
  refine gf_X3_15 hx hb hg hown hK hP 0 rfl rfl dX3_passOne_20 ?_
  obtain ⟨u1, hu1, hf⟩ := bn hf
  refine cm_V (As := [.int (vN_13 1)]) (rest := [.int (vN_13 5), .ref aN]) (w2 := (W_N aN aG aU aR vN_13 ++ (W_G E aG vG ++ (W_U E aU u1.2)))) hx hb hml hown hg (c_X7_passOneIn E l aU vU (vN_13 1) u1 hu1) cy_X7_passOneIn ml_X3_118 ⟨⟨rfl, rfl⟩, Nat.le_of_ble_eq_true rfl, Nat.le_of_ble_eq_true rfl⟩ hK hE hP hD hS hA [false, false, false, false, false, false, false, false, false, false, true, true, true, true] rfl rfl rfl 10 rfl rfl rfl hl.1 rfl (Nat.le_of_ble_eq_true rfl) dX3_passOne_23 ⟨Nat.le_of_ble_eq_true rfl, Nat.le_of_ble_eq_true rfl⟩ [.int u1.1, .int (vN_13 5), .ref aN] rfl (fun H locs hP hD hS => ?_)
  refine lv_iadd hx hb dX3_passOne_26 ?_
  refine pf_X3_27 (w2 := (W_N aN aG aU aR (va_up vN_13 5 ((vN_13 5) + u1.1)) ++ (W_G E aG vG ++ (W_U E aU u1.2)))) hx hb hg hown hK hP hD hS 0 rfl (Nat.le_of_ble_eq_true rfl) rfl dX3_passOne_27 (fun H locs hP hD hS => ?_)
  obtain ⟨vN_14, hv, hf⟩ := lt_o hf
  rw [← hv] at hP hD
  clear hv
  refine lv_aload_n hx hb dX3_passOne_30 rfl (lv_at hl 0 rfl) ?_
  obtain ⟨u2, hu2, hf⟩ := bn hf
  refine cm_V (As := []) (rest := []) (w2 := (W_N aN aG aU aR vN_14 ++ (W_G E aG u2 ++ (W_U E aU u1.2)))) hx hb hml hown hg (c_X3_soakGuests E l aN aG aU aR vN_14 vG u1.2 u2 hu2) cy_X3_soakGuests ml_X3_121 ⟨⟨rfl, rfl⟩, Nat.le_of_ble_eq_true rfl, Nat.le_of_ble_eq_true rfl⟩ hK hE hP hD hS hA [true, true, true, true, true, true, true, true, true, true, true, true, true, true] rfl rfl rfl 0 rfl rfl rfl hl.1 rfl (Nat.le_of_ble_eq_true rfl) dX3_passOne_31 ⟨Nat.le_of_ble_eq_true rfl, Nat.le_of_ble_eq_true rfl⟩ [] rfl (fun H locs hP hD hS => ?_)
  refine lv_aload_n hx hb dX3_passOne_34 rfl (lv_at hl 0 rfl) ?_
  refine lv_dup hx hb dX3_passOne_35 rfl ?_
  refine gf_X3_21 hx hb hg hown hK hP 0 rfl rfl dX3_passOne_36 ?_
  refine lv_aload_n hx hb dX3_passOne_39 rfl (lv_at hl 0 rfl) ?_
  refine gf_X3_36 hx hb hg hown hK hP 0 rfl rfl dX3_passOne_40 ?_
  refine lv_aload_n hx hb dX3_passOne_43 rfl (lv_at hl 0 rfl) ?_
  refine gf_X3_9 hx hb hg hown hK hP 0 rfl rfl dX3_passOne_44 ?_
  obtain ⟨u3, hu3, hf⟩ := bn hf
  refine cm_V (As := [.int (vN_14 0)]) (rest := [.int (vN_14 3), .ref aN]) (w2 := (W_N aN aG aU aR vN_14 ++ (W_G E aG u2 ++ (W_U E aU u1.2)))) hx hb hml hown hg (c_X1_noiseAt E l aG u2 (vN_14 0) u3 hu3) cy_X1_noiseAt ml_X3_124 ⟨⟨rfl, rfl⟩, Nat.le_of_ble_eq_true rfl, Nat.le_of_ble_eq_true rfl⟩ hK hE hP hD hS hA [false, true, true, true, true, true, true, true, true, true] rfl rfl rfl 1 rfl rfl rfl hl.1 rfl (Nat.le_of_ble_eq_true rfl) dX3_passOne_47 ⟨Nat.le_of_ble_eq_true rfl, Nat.le_of_ble_eq_true rfl⟩ [.int u3, .int (vN_14 3), .ref aN] rfl (fun H locs hP hD hS => ?_)
  refine lv_iadd hx hb dX3_passOne_50 ?_
  refine pf_X3_21 (w2 := (W_N aN aG aU aR (va_up vN_14 3 ((vN_14 3) + u3)) ++ (W_G E aG u2 ++ (W_U E aU u1.2)))) hx hb hg hown hK hP hD hS 0 rfl (Nat.le_of_ble_eq_true rfl) rfl dX3_passOne_51 (fun H locs hP hD hS => ?_)
  obtain ⟨vN_15, hv, hf⟩ := lt_o hf
  rw [← hv] at hP hD
  clear hv
  refine lv_aload_n hx hb dX3_passOne_54 rfl (lv_at hl 0 rfl) ?_
  refine gf_X3_9 hx hb hg hown hK hP 0 rfl rfl dX3_passOne_55 ?_
  refine lv_bipush (v := 60) hx hb dX3_passOne_58 (by decide) ?_
  refine lv_irem hx hb dX3_passOne_60 (by decide) ?_
  refine lv_if_ne (tgt := 90) hx hb dX3_passOne_61 (by decide) (fun cq => ?_) (fun cq => ?_)
  · have hf := ie cq hf
    obtain rfl := Option.some.inj hf
    exact cm_vret hx hb hr hlocks hP hS dX3_passOne_90
  · have hf := it cq hf
    refine lv_aload_n hx hb dX3_passOne_64 rfl (lv_at hl 0 rfl) ?_
    refine gf_X3_21 hx hb hg hown hK hP 0 rfl rfl dX3_passOne_65 ?_
    refine lv_aload_n hx hb dX3_passOne_68 rfl (lv_at hl 0 rfl) ?_
    refine gf_X3_18 hx hb hg hown hK hP 0 rfl rfl dX3_passOne_69 ?_
    refine lv_icmp_le (tgt := 85) hx hb dX3_passOne_72 (by decide) (fun cq => ?_) (fun cq => ?_)
    · have hf := it cq hf
      refine lv_aload_n hx hb dX3_passOne_85 rfl (lv_at hl 0 rfl) ?_
      refine lv_iconst (v := 0) hx hb dX3_passOne_86 (by decide) ?_
      refine pf_X3_21 (w2 := (W_N aN aG aU aR (va_up vN_15 3 0) ++ (W_G E aG u2 ++ (W_U E aU u1.2)))) hx hb hg hown hK hP hD hS 0 rfl (Nat.le_of_ble_eq_true rfl) rfl dX3_passOne_87 (fun H locs hP hD hS => ?_)
      obtain ⟨vN_16, hv, hf⟩ := lt_o hf
      rw [← hv] at hP hD
      clear hv
      obtain rfl := Option.some.inj hf
      exact cm_vret hx hb hr hlocks hP hS dX3_passOne_90
    · have hf := ie cq hf
      refine lv_aload_n hx hb dX3_passOne_75 rfl (lv_at hl 0 rfl) ?_
      refine lv_dup hx hb dX3_passOne_76 rfl ?_
      refine gf_X3_24 hx hb hg hown hK hP 0 rfl rfl dX3_passOne_77 ?_
      refine lv_iconst (v := 1) hx hb dX3_passOne_80 (by decide) ?_
      refine lv_iadd hx hb dX3_passOne_81 ?_
      refine pf_X3_24 (w2 := (W_N aN aG aU aR (va_up vN_15 4 ((vN_15 4) + 1)) ++ (W_G E aG u2 ++ (W_U E aU u1.2)))) hx hb hg hown hK hP hD hS 0 rfl (Nat.le_of_ble_eq_true rfl) rfl dX3_passOne_82 (fun H locs hP hD hS => ?_)
      obtain ⟨vN_17, hv, hf⟩ := lt_o hf
      rw [← hv] at hP hD
      clear hv
      refine lv_aload_n hx hb dX3_passOne_85 rfl (lv_at hl 0 rfl) ?_
      refine lv_iconst (v := 0) hx hb dX3_passOne_86 (by decide) ?_
      refine pf_X3_21 (w2 := (W_N aN aG aU aR (va_up vN_17 3 0) ++ (W_G E aG u2 ++ (W_U E aU u1.2)))) hx hb hg hown hK hP hD hS 0 rfl (Nat.le_of_ble_eq_true rfl) rfl dX3_passOne_87 (fun H locs hP hD hS => ?_)
      obtain ⟨vN_18, hv, hf⟩ := lt_o hf
      rw [← hv] at hP hD
      clear hv
      obtain rfl := Option.some.inj hf
      exact cm_vret hx hb hr hlocks hP hS dX3_passOne_90
def B_X3_foreseeComplaints_13 (rec : Int32 → Int32 → Int32 → Option (Int32)) (vN : Nat → Int32) (vG : Nat → Nat → Int32) (x1 : Int32) (x2 : Int32) (x3 : Int32) (x4 : Int32) : Option (Int32) := (if x1 < x4 then (some x2) else (F_X1_noiseAt vG ((vN 0) + x4)).bind (fun u1 => (if (((vN 0) + x4) - ((vN 0) + x4) / 60 * 60) = 0 then (if (x3 + u1) ≤ (vN 2) then (rec x2 0 (x4 + 1)) else (rec (x2 + 1) 0 (x4 + 1))) else (rec x2 (x3 + u1) (x4 + 1)))))
def L_X3_foreseeComplaints_13 (vN : Nat → Int32) (vG : Nat → Nat → Int32) (x1 : Int32) : Nat → Int32 → Int32 → Int32 → Option (Int32)
  | 0 => fun _ _ _ => none
  | n + 1 => fun x2 x3 x4 => B_X3_foreseeComplaints_13 (L_X3_foreseeComplaints_13 vN vG x1 n) vN vG x1 x2 x3 x4
def F_X3_foreseeComplaints (vN : Nat → Int32) (vG : Nat → Nat → Int32) (x1 : Int32) : Option (Int32) := (L_X3_foreseeComplaints_13 vN vG x1 FU (vN 4) (vN 3) 1)
abbrev rm_X3_foreseeComplaints : Room := { frames := 3, cells := 0, slots := 0, locals := 67 }
set_option maxHeartbeats 4000000 in
set_option maxRecDepth 100000 in
theorem c_X3_foreseeComplaints (E : Ev) (l : Launch) (aN : Nat) (aG : Nat → Nat) (aU : Nat → Nat) (aR : Nat → Nat) (vN : Nat → Int32) (vG : Nat → Nat → Int32) (x1 : Int32) (r : Int32) (hf : F_X3_foreseeComplaints vN vG x1 = some r) : CM E l yX3_foreseeComplaints (.code yX3_foreseeComplaints cX3_foreseeComplaints 5 (some .int) :: GA) rm_X3_foreseeComplaints [.ref aN, .int x1] (W_N aN aG aU aR vN ++ (W_G E aG vG)) (some (.int r)) (W_N aN aG aU aR vN ++ (W_G E aG vG)) := by
  refine CM.of (own := RX3) rfl (by decide) (Nat.le_of_ble_eq_true rfl) ?_
  intro p e s m below meth c A ls hx hb hr hml hown hg hlocks hK hE hA hP hD hS hl
  have hl : lv_has ls 5 [(0, .ref aN), (1, .int x1)] := hl
  have lp_13 : ∀ (n : Nat) (x2 : Int32) (x3 : Int32) (x4 : Int32) (H : Heap) (locs : List Loc) (ls : Array Slot), L_X3_foreseeComplaints_13 vN vG x1 n x2 x3 x4 = some r → va_P E.1 vwCl (W_N aN aG aU aR vN ++ (W_G E aG vG)) H → va_D A (W_N aN aG aU aR vN ++ (W_G E aG vG)) → va_S A s.heap H locs → lv_has ls 5 [(0, .ref aN), (1, .int x1), (2, .int x2), (3, .int x3), (4, .int x4)] → W p l e rm_X3_foreseeComplaints s m ([.ref aN, .int x1] : List Value).toArray below meth c H locs 0 0 (MQ below (QW E (some (.int r)) (W_N aN aG aU aR vN ++ (W_G E aG vG)) A) ([.ref aN, .int x1] : List Value).toArray s 0 0 A) (F0 m 13 ls []) := by
    intro n
    induction n with
    | zero => intro x2 x3 x4 H locs ls hf; cases hf
    | succ n ih =>
      intro x2 x3 x4 H locs ls hf hP hD hS hl
      replace hf : B_X3_foreseeComplaints_13 (L_X3_foreseeComplaints_13 vN vG x1 n) vN vG x1 x2 x3 x4 = some r := hf
      unfold B_X3_foreseeComplaints_13 at hf
      refine lv_iload hx hb dX3_foreseeComplaints_13 (lv_at hl 4 rfl) ?_
      refine lv_iload_n hx hb dX3_foreseeComplaints_15 rfl (lv_at hl 1 rfl) ?_
      refine lv_icmp_gt (tgt := 68) hx hb dX3_foreseeComplaints_16 (by decide) (fun cq => ?_) (fun cq => ?_)
      · have hf := it cq hf
        refine lv_iload_n hx hb dX3_foreseeComplaints_68 rfl (lv_at hl 2 rfl) ?_
        obtain rfl := Option.some.inj hf
        exact cm_iret hx hb hr hlocks hP hS dX3_foreseeComplaints_69
      · have hf := ie cq hf
        refine lv_iload_n hx hb dX3_foreseeComplaints_19 rfl (lv_at hl 3 rfl) ?_
        refine lv_aload_n hx hb dX3_foreseeComplaints_20 rfl (lv_at hl 0 rfl) ?_
        refine gf_X3_36 hx hb hg hown hK hP 0 rfl rfl dX3_foreseeComplaints_21 ?_
        refine lv_aload_n hx hb dX3_foreseeComplaints_24 rfl (lv_at hl 0 rfl) ?_
        refine gf_X3_9 hx hb hg hown hK hP 0 rfl rfl dX3_foreseeComplaints_25 ?_
        refine lv_iload hx hb dX3_foreseeComplaints_28 (lv_at hl 4 rfl) ?_
        refine lv_iadd hx hb dX3_foreseeComplaints_30 ?_
        obtain ⟨u1, hu1, hf⟩ := bn hf
        refine cm_V (As := [.int ((vN 0) + x4)]) (rest := [.int x3]) (w2 := (W_N aN aG aU aR vN ++ (W_G E aG vG))) hx hb hml hown hg (c_X1_noiseAt E l aG vG ((vN 0) + x4) u1 hu1) cy_X1_noiseAt ml_X3_124 ⟨⟨rfl, rfl⟩, Nat.le_of_ble_eq_true rfl, Nat.le_of_ble_eq_true rfl⟩ hK hE hP hD hS hA [false, true, true, true, true, true, true, true, true, true] rfl rfl rfl 1 rfl rfl rfl hl.1 rfl (Nat.le_of_ble_eq_true rfl) dX3_foreseeComplaints_31 ⟨Nat.le_of_ble_eq_true rfl, Nat.le_of_ble_eq_true rfl⟩ [.int u1, .int x3] rfl (fun H locs hP hD hS => ?_)
        refine lv_iadd hx hb dX3_foreseeComplaints_34 ?_
        refine lv_istore_n (lv' := [(3, .int (x3 + u1)), (0, .ref aN), (1, .int x1), (2, .int x2), (4, .int x4)]) hx hb dX3_foreseeComplaints_35 rfl hl (by decide) rfl (fun ls hl => ?_)
        refine lv_aload_n hx hb dX3_foreseeComplaints_36 rfl (lv_at hl 1 rfl) ?_
        refine gf_X3_9 hx hb hg hown hK hP 0 rfl rfl dX3_foreseeComplaints_37 ?_
        refine lv_iload hx hb dX3_foreseeComplaints_40 (lv_at hl 4 rfl) ?_
        refine lv_iadd hx hb dX3_foreseeComplaints_42 ?_
        refine lv_bipush (v := 60) hx hb dX3_foreseeComplaints_43 (by decide) ?_
        refine lv_irem hx hb dX3_foreseeComplaints_45 (by decide) ?_
        refine lv_if_ne (tgt := 62) hx hb dX3_foreseeComplaints_46 (by decide) (fun cq => ?_) (fun cq => ?_)
        · have hf := ie cq hf
          refine lv_iinc (v := (x4 + 1)) (lv' := [(4, .int (x4 + 1)), (3, .int (x3 + u1)), (0, .ref aN), (1, .int x1), (2, .int x2)]) hx hb dX3_foreseeComplaints_62 hl (k := 4) rfl rfl (by decide) rfl (fun ls hl => ?_)
          refine lv_goto (tgt := 13) hx hb dX3_foreseeComplaints_65 (by decide) ?_
          exact ih _ _ _ _ _ _ hf hP hD hS (lv_sub hl [2, 3, 4, 1, 0] rfl)
        · have hf := it cq hf
          refine lv_iload_n hx hb dX3_foreseeComplaints_49 rfl (lv_at hl 0 rfl) ?_
          refine lv_aload_n hx hb dX3_foreseeComplaints_50 rfl (lv_at hl 1 rfl) ?_
          refine gf_X3_18 hx hb hg hown hK hP 0 rfl rfl dX3_foreseeComplaints_51 ?_
          refine lv_icmp_le (tgt := 60) hx hb dX3_foreseeComplaints_54 (by decide) (fun cq => ?_) (fun cq => ?_)
          · have hf := it cq hf
            refine lv_iconst (v := 0) hx hb dX3_foreseeComplaints_60 (by decide) ?_
            refine lv_istore_n (lv' := [(3, .int 0), (0, .ref aN), (1, .int x1), (2, .int x2), (4, .int x4)]) hx hb dX3_foreseeComplaints_61 rfl hl (by decide) rfl (fun ls hl => ?_)
            refine lv_iinc (v := (x4 + 1)) (lv' := [(4, .int (x4 + 1)), (3, .int 0), (0, .ref aN), (1, .int x1), (2, .int x2)]) hx hb dX3_foreseeComplaints_62 hl (k := 4) rfl rfl (by decide) rfl (fun ls hl => ?_)
            refine lv_goto (tgt := 13) hx hb dX3_foreseeComplaints_65 (by decide) ?_
            exact ih _ _ _ _ _ _ hf hP hD hS (lv_sub hl [2, 3, 4, 1, 0] rfl)
          · have hf := ie cq hf
            refine lv_iinc (v := (x2 + 1)) (lv' := [(2, .int (x2 + 1)), (3, .int (x3 + u1)), (0, .ref aN), (1, .int x1), (4, .int x4)]) hx hb dX3_foreseeComplaints_57 hl (k := 3) rfl rfl (by decide) rfl (fun ls hl => ?_)
            refine lv_iconst (v := 0) hx hb dX3_foreseeComplaints_60 (by decide) ?_
            refine lv_istore_n (lv' := [(3, .int 0), (2, .int (x2 + 1)), (0, .ref aN), (1, .int x1), (4, .int x4)]) hx hb dX3_foreseeComplaints_61 rfl hl (by decide) rfl (fun ls hl => ?_)
            refine lv_iinc (v := (x4 + 1)) (lv' := [(4, .int (x4 + 1)), (3, .int 0), (2, .int (x2 + 1)), (0, .ref aN), (1, .int x1)]) hx hb dX3_foreseeComplaints_62 hl (k := 4) rfl rfl (by decide) rfl (fun ls hl => ?_)
            refine lv_goto (tgt := 13) hx hb dX3_foreseeComplaints_65 (by decide) ?_
            exact ih _ _ _ _ _ _ hf hP hD hS (lv_sub hl [3, 4, 2, 1, 0] rfl)
  unfold F_X3_foreseeComplaints at hf
  refine lv_aload_n hx hb dX3_foreseeComplaints_0 rfl (lv_at hl 0 rfl) ?_
  refine gf_X3_24 hx hb hg hown hK hP 0 rfl rfl dX3_foreseeComplaints_1 ?_
  refine lv_istore_n (lv' := [(2, .int (vN 4)), (0, .ref aN), (1, .int x1)]) hx hb dX3_foreseeComplaints_4 rfl hl (by decide) rfl (fun ls hl => ?_)
  refine lv_aload_n hx hb dX3_foreseeComplaints_5 rfl (lv_at hl 1 rfl) ?_
  refine gf_X3_21 hx hb hg hown hK hP 0 rfl rfl dX3_foreseeComplaints_6 ?_
  refine lv_istore_n (lv' := [(3, .int (vN 3)), (2, .int (vN 4)), (0, .ref aN), (1, .int x1)]) hx hb dX3_foreseeComplaints_9 rfl hl (by decide) rfl (fun ls hl => ?_)
  refine lv_iconst (v := 1) hx hb dX3_foreseeComplaints_10 (by decide) ?_
  refine lv_istore (lv' := [(4, .int 1), (3, .int (vN 3)), (2, .int (vN 4)), (0, .ref aN), (1, .int x1)]) hx hb dX3_foreseeComplaints_11 hl (by decide) rfl (fun ls hl => ?_)
  exact lp_13 FU _ _ _ _ _ _ hf hP hD hS (lv_sub hl [3, 4, 2, 1, 0] rfl)
def F_X3_sumOfMinutesAway (vN : Nat → Int32) (vR : Nat → Nat → Int32) (x1 : Int32) (x2 : Int32) : Option (Int32) := (F_X5_minutesAway vR x1 x2 0 (vN 0)).bind (fun u1 => (some u1))
abbrev rm_X3_sumOfMinutesAway : Room := { frames := 2, cells := 0, slots := 0, locals := 52 }
set_option maxHeartbeats 4000000 in
set_option maxRecDepth 100000 in
theorem c_X3_sumOfMinutesAway (E : Ev) (l : Launch) (aN : Nat) (aG : Nat → Nat) (aU : Nat → Nat) (aR : Nat → Nat) (vN : Nat → Int32) (vR : Nat → Nat → Int32) (x1 : Int32) (x2 : Int32) (r : Int32) (hf : F_X3_sumOfMinutesAway vN vR x1 x2 = some r) : CM E l yX3_sumOfMinutesAway (.code yX3_sumOfMinutesAway cX3_sumOfMinutesAway 3 (some .int) :: GA) rm_X3_sumOfMinutesAway [.ref aN, .int x1, .int x2] (W_N aN aG aU aR vN ++ (W_R E aR vR)) (some (.int r)) (W_N aN aG aU aR vN ++ (W_R E aR vR)) := by
  refine CM.of (own := RX3) rfl (by decide) (Nat.le_of_ble_eq_true rfl) ?_
  intro p e s m below meth c A ls hx hb hr hml hown hg hlocks hK hE hA hP hD hS hl
  have hl : lv_has ls 3 [(0, .ref aN), (1, .int x1), (2, .int x2)] := hl
  unfold F_X3_sumOfMinutesAway at hf
  refine lv_aload_n hx hb dX3_sumOfMinutesAway_0 rfl (lv_at hl 0 rfl) ?_
  refine gf_X3_50 hx hb hg hown hK hP 0 rfl rfl dX3_sumOfMinutesAway_1 ?_
  refine lv_iload_n hx hb dX3_sumOfMinutesAway_4 rfl (lv_at hl 1 rfl) ?_
  refine lv_iload_n hx hb dX3_sumOfMinutesAway_5 rfl (lv_at hl 2 rfl) ?_
  refine lv_iconst (v := 0) hx hb dX3_sumOfMinutesAway_6 (by decide) ?_
  refine lv_aload_n hx hb dX3_sumOfMinutesAway_7 rfl (lv_at hl 0 rfl) ?_
  refine gf_X3_9 hx hb hg hown hK hP 0 rfl rfl dX3_sumOfMinutesAway_8 ?_
  obtain ⟨u1, hu1, hf⟩ := bn hf
  refine cm_V (As := [.int x1, .int x2, .int 0, .int (vN 0)]) (rest := []) (w2 := (W_N aN aG aU aR vN ++ (W_R E aR vR))) hx hb hml hown hg (c_X5_minutesAway E l aR vR x1 x2 0 (vN 0) u1 hu1) cy_X5_minutesAway ml_X3_135 ⟨⟨rfl, rfl⟩, Nat.le_of_ble_eq_true rfl, Nat.le_of_ble_eq_true rfl⟩ hK hE hP hD hS hA [false, true, true, true, true] rfl rfl rfl 1 rfl rfl rfl hl.1 rfl (Nat.le_of_ble_eq_true rfl) dX3_sumOfMinutesAway_11 ⟨Nat.le_of_ble_eq_true rfl, Nat.le_of_ble_eq_true rfl⟩ [.int u1] rfl (fun H locs hP hD hS => ?_)
  obtain rfl := Option.some.inj hf
  exact cm_iret hx hb hr hlocks hP hS dX3_sumOfMinutesAway_14
def B_X3_countSuspects_5 (rec : Int32 → Int32 → Option (Int32)) (vN : Nat → Int32) (vG : Nat → Nat → Int32) (vR : Nat → Nat → Int32) (x1 : Int32) (x2 : Int32) (x3 : Int32) (x4 : Int32) : Option (Int32) := (if (vG 0 0) ≤ x4 then (some x3) else (F_X5_wasInAllThrough vR x4 x1 x2).bind (fun u1 => (if u1 = 0 then (rec (x3 + 1) (x4 + 1)) else (rec x3 (x4 + 1)))))
def L_X3_countSuspects_5 (vN : Nat → Int32) (vG : Nat → Nat → Int32) (vR : Nat → Nat → Int32) (x1 : Int32) (x2 : Int32) : Nat → Int32 → Int32 → Option (Int32)
  | 0 => fun _ _ => none
  | n + 1 => fun x3 x4 => B_X3_countSuspects_5 (L_X3_countSuspects_5 vN vG vR x1 x2 n) vN vG vR x1 x2 x3 x4
def F_X3_countSuspects (vN : Nat → Int32) (vG : Nat → Nat → Int32) (vR : Nat → Nat → Int32) (x1 : Int32) (x2 : Int32) : Option (Int32) := (L_X3_countSuspects_5 vN vG vR x1 x2 FU 0 0)
abbrev rm_X3_countSuspects : Room := { frames := 3, cells := 0, slots := 0, locals := 75 }
set_option maxHeartbeats 4000000 in
set_option maxRecDepth 100000 in
theorem c_X3_countSuspects (E : Ev) (l : Launch) (aN : Nat) (aG : Nat → Nat) (aU : Nat → Nat) (aR : Nat → Nat) (vN : Nat → Int32) (vG : Nat → Nat → Int32) (vR : Nat → Nat → Int32) (x1 : Int32) (x2 : Int32) (r : Int32) (hf : F_X3_countSuspects vN vG vR x1 x2 = some r) : CM E l yX3_countSuspects (.code yX3_countSuspects cX3_countSuspects 5 (some .int) :: GA) rm_X3_countSuspects [.ref aN, .int x1, .int x2] (W_N aN aG aU aR vN ++ (W_G E aG vG ++ (W_R E aR vR))) (some (.int r)) (W_N aN aG aU aR vN ++ (W_G E aG vG ++ (W_R E aR vR))) := by
  refine CM.of (own := RX3) rfl (by decide) (Nat.le_of_ble_eq_true rfl) ?_
  intro p e s m below meth c A ls hx hb hr hml hown hg hlocks hK hE hA hP hD hS hl
  have hl : lv_has ls 5 [(0, .ref aN), (1, .int x1), (2, .int x2)] := hl
  have lp_5 : ∀ (n : Nat) (x3 : Int32) (x4 : Int32) (H : Heap) (locs : List Loc) (ls : Array Slot), L_X3_countSuspects_5 vN vG vR x1 x2 n x3 x4 = some r → va_P E.1 vwCl (W_N aN aG aU aR vN ++ (W_G E aG vG ++ (W_R E aR vR))) H → va_D A (W_N aN aG aU aR vN ++ (W_G E aG vG ++ (W_R E aR vR))) → va_S A s.heap H locs → lv_has ls 5 [(0, .ref aN), (1, .int x1), (2, .int x2), (3, .int x3), (4, .int x4)] → W p l e rm_X3_countSuspects s m ([.ref aN, .int x1, .int x2] : List Value).toArray below meth c H locs 0 0 (MQ below (QW E (some (.int r)) (W_N aN aG aU aR vN ++ (W_G E aG vG ++ (W_R E aR vR))) A) ([.ref aN, .int x1, .int x2] : List Value).toArray s 0 0 A) (F0 m 5 ls []) := by
    intro n
    induction n with
    | zero => intro x3 x4 H locs ls hf; cases hf
    | succ n ih =>
      intro x3 x4 H locs ls hf hP hD hS hl
      replace hf : B_X3_countSuspects_5 (L_X3_countSuspects_5 vN vG vR x1 x2 n) vN vG vR x1 x2 x3 x4 = some r := hf
      unfold B_X3_countSuspects_5 at hf
      refine lv_iload hx hb dX3_countSuspects_5 (lv_at hl 4 rfl) ?_
      refine lv_aload_n hx hb dX3_countSuspects_7 rfl (lv_at hl 0 rfl) ?_
      refine gf_X3_36 hx hb hg hown hK hP 0 rfl rfl dX3_countSuspects_8 ?_
      refine gf_X3_54 hx hb hg hown hK hP 1 rfl rfl dX3_countSuspects_11 ?_
      refine lv_icmp_ge (tgt := 40) hx hb dX3_countSuspects_14 (by decide) (fun cq => ?_) (fun cq => ?_)
      · have hf := it cq hf
        refine lv_iload_n hx hb dX3_countSuspects_40 rfl (lv_at hl 3 rfl) ?_
        obtain rfl := Option.some.inj hf
        exact cm_iret hx hb hr hlocks hP hS dX3_countSuspects_41
      · have hf := ie cq hf
        refine lv_aload_n hx hb dX3_countSuspects_17 rfl (lv_at hl 0 rfl) ?_
        refine gf_X3_50 hx hb hg hown hK hP 0 rfl rfl dX3_countSuspects_18 ?_
        refine lv_iload hx hb dX3_countSuspects_21 (lv_at hl 4 rfl) ?_
        refine lv_iload_n hx hb dX3_countSuspects_23 rfl (lv_at hl 1 rfl) ?_
        refine lv_iload_n hx hb dX3_countSuspects_24 rfl (lv_at hl 2 rfl) ?_
        obtain ⟨u1, hu1, hf⟩ := bn hf
        refine cm_V (As := [.int x4, .int x1, .int x2]) (rest := []) (w2 := (W_N aN aG aU aR vN ++ (W_G E aG vG ++ (W_R E aR vR)))) hx hb hml hown hg (c_X5_wasInAllThrough E l aR vR x4 x1 x2 u1 hu1) cy_X5_wasInAllThrough ml_X3_139 ⟨⟨rfl, rfl⟩, Nat.le_of_ble_eq_true rfl, Nat.le_of_ble_eq_true rfl⟩ hK hE hP hD hS hA [false, false, false, false, false, false, false, false, false, false, true, true, true, true] rfl rfl rfl 10 rfl rfl rfl hl.1 rfl (Nat.le_of_ble_eq_true rfl) dX3_countSuspects_25 ⟨Nat.le_of_ble_eq_true rfl, Nat.le_of_ble_eq_true rfl⟩ [.int u1] rfl (fun H locs hP hD hS => ?_)
        refine lv_if_ne (tgt := 34) hx hb dX3_countSuspects_28 (by decide) (fun cq => ?_) (fun cq => ?_)
        · have hf := ie cq hf
          refine lv_iinc (v := (x4 + 1)) (lv' := [(4, .int (x4 + 1)), (0, .ref aN), (1, .int x1), (2, .int x2), (3, .int x3)]) hx hb dX3_countSuspects_34 hl (k := 4) rfl rfl (by decide) rfl (fun ls hl => ?_)
          refine lv_goto (tgt := 5) hx hb dX3_countSuspects_37 (by decide) ?_
          exact ih _ _ _ _ _ hf hP hD hS (lv_sub hl [1, 2, 3, 4, 0] rfl)
        · have hf := it cq hf
          refine lv_iinc (v := (x3 + 1)) (lv' := [(3, .int (x3 + 1)), (0, .ref aN), (1, .int x1), (2, .int x2), (4, .int x4)]) hx hb dX3_countSuspects_31 hl (k := 3) rfl rfl (by decide) rfl (fun ls hl => ?_)
          refine lv_iinc (v := (x4 + 1)) (lv' := [(4, .int (x4 + 1)), (3, .int (x3 + 1)), (0, .ref aN), (1, .int x1), (2, .int x2)]) hx hb dX3_countSuspects_34 hl (k := 4) rfl rfl (by decide) rfl (fun ls hl => ?_)
          refine lv_goto (tgt := 5) hx hb dX3_countSuspects_37 (by decide) ?_
          exact ih _ _ _ _ _ hf hP hD hS (lv_sub hl [2, 3, 4, 1, 0] rfl)
  unfold F_X3_countSuspects at hf
  refine lv_iconst (v := 0) hx hb dX3_countSuspects_0 (by decide) ?_
  refine lv_istore_n (lv' := [(3, .int 0), (0, .ref aN), (1, .int x1), (2, .int x2)]) hx hb dX3_countSuspects_1 rfl hl (by decide) rfl (fun ls hl => ?_)
  refine lv_iconst (v := 0) hx hb dX3_countSuspects_2 (by decide) ?_
  refine lv_istore (lv' := [(4, .int 0), (3, .int 0), (0, .ref aN), (1, .int x1), (2, .int x2)]) hx hb dX3_countSuspects_3 hl (by decide) rfl (fun ls hl => ?_)
  exact lp_5 FU _ _ _ _ _ hf hP hD hS (lv_sub hl [2, 3, 4, 1, 0] rfl)
def B_X3_firstSuspect_2 (rec : Int32 → Option (Int32)) (vN : Nat → Int32) (vG : Nat → Nat → Int32) (vR : Nat → Nat → Int32) (x1 : Int32) (x2 : Int32) (x3 : Int32) : Option (Int32) := (if (vG 0 0) ≤ x3 then (some (-1)) else (F_X5_wasInAllThrough vR x3 x1 x2).bind (fun u1 => (if u1 = 0 then (some x3) else (rec (x3 + 1)))))
def L_X3_firstSuspect_2 (vN : Nat → Int32) (vG : Nat → Nat → Int32) (vR : Nat → Nat → Int32) (x1 : Int32) (x2 : Int32) : Nat → Int32 → Option (Int32)
  | 0 => fun _ => none
  | n + 1 => fun x3 => B_X3_firstSuspect_2 (L_X3_firstSuspect_2 vN vG vR x1 x2 n) vN vG vR x1 x2 x3
def F_X3_firstSuspect (vN : Nat → Int32) (vG : Nat → Nat → Int32) (vR : Nat → Nat → Int32) (x1 : Int32) (x2 : Int32) : Option (Int32) := (L_X3_firstSuspect_2 vN vG vR x1 x2 FU 0)
abbrev rm_X3_firstSuspect : Room := { frames := 3, cells := 0, slots := 0, locals := 75 }
set_option maxHeartbeats 4000000 in
set_option maxRecDepth 100000 in
theorem c_X3_firstSuspect (E : Ev) (l : Launch) (aN : Nat) (aG : Nat → Nat) (aU : Nat → Nat) (aR : Nat → Nat) (vN : Nat → Int32) (vG : Nat → Nat → Int32) (vR : Nat → Nat → Int32) (x1 : Int32) (x2 : Int32) (r : Int32) (hf : F_X3_firstSuspect vN vG vR x1 x2 = some r) : CM E l yX3_firstSuspect (.code yX3_firstSuspect cX3_firstSuspect 4 (some .int) :: GA) rm_X3_firstSuspect [.ref aN, .int x1, .int x2] (W_N aN aG aU aR vN ++ (W_G E aG vG ++ (W_R E aR vR))) (some (.int r)) (W_N aN aG aU aR vN ++ (W_G E aG vG ++ (W_R E aR vR))) := by
  refine CM.of (own := RX3) rfl (by decide) (Nat.le_of_ble_eq_true rfl) ?_
  intro p e s m below meth c A ls hx hb hr hml hown hg hlocks hK hE hA hP hD hS hl
  have hl : lv_has ls 4 [(0, .ref aN), (1, .int x1), (2, .int x2)] := hl
  have lp_2 : ∀ (n : Nat) (x3 : Int32) (H : Heap) (locs : List Loc) (ls : Array Slot), L_X3_firstSuspect_2 vN vG vR x1 x2 n x3 = some r → va_P E.1 vwCl (W_N aN aG aU aR vN ++ (W_G E aG vG ++ (W_R E aR vR))) H → va_D A (W_N aN aG aU aR vN ++ (W_G E aG vG ++ (W_R E aR vR))) → va_S A s.heap H locs → lv_has ls 4 [(0, .ref aN), (1, .int x1), (2, .int x2), (3, .int x3)] → W p l e rm_X3_firstSuspect s m ([.ref aN, .int x1, .int x2] : List Value).toArray below meth c H locs 0 0 (MQ below (QW E (some (.int r)) (W_N aN aG aU aR vN ++ (W_G E aG vG ++ (W_R E aR vR))) A) ([.ref aN, .int x1, .int x2] : List Value).toArray s 0 0 A) (F0 m 2 ls []) := by
    intro n
    induction n with
    | zero => intro x3 H locs ls hf; cases hf
    | succ n ih =>
      intro x3 H locs ls hf hP hD hS hl
      replace hf : B_X3_firstSuspect_2 (L_X3_firstSuspect_2 vN vG vR x1 x2 n) vN vG vR x1 x2 x3 = some r := hf
      unfold B_X3_firstSuspect_2 at hf
      refine lv_iload_n hx hb dX3_firstSuspect_2 rfl (lv_at hl 3 rfl) ?_
      refine lv_aload_n hx hb dX3_firstSuspect_3 rfl (lv_at hl 0 rfl) ?_
      refine gf_X3_36 hx hb hg hown hK hP 0 rfl rfl dX3_firstSuspect_4 ?_
      refine gf_X3_54 hx hb hg hown hK hP 1 rfl rfl dX3_firstSuspect_7 ?_
      refine lv_icmp_ge (tgt := 34) hx hb dX3_firstSuspect_10 (by decide) (fun cq => ?_) (fun cq => ?_)
      · have hf := it cq hf
        refine lv_iconst (v := (-1)) hx hb dX3_firstSuspect_34 (by decide) ?_
        obtain rfl := Option.some.inj hf
        exact cm_iret hx hb hr hlocks hP hS dX3_firstSuspect_35
      · have hf := ie cq hf
        refine lv_aload_n hx hb dX3_firstSuspect_13 rfl (lv_at hl 0 rfl) ?_
        refine gf_X3_50 hx hb hg hown hK hP 0 rfl rfl dX3_firstSuspect_14 ?_
        refine lv_iload_n hx hb dX3_firstSuspect_17 rfl (lv_at hl 3 rfl) ?_
        refine lv_iload_n hx hb dX3_firstSuspect_18 rfl (lv_at hl 1 rfl) ?_
        refine lv_iload_n hx hb dX3_firstSuspect_19 rfl (lv_at hl 2 rfl) ?_
        obtain ⟨u1, hu1, hf⟩ := bn hf
        refine cm_V (As := [.int x3, .int x1, .int x2]) (rest := []) (w2 := (W_N aN aG aU aR vN ++ (W_G E aG vG ++ (W_R E aR vR)))) hx hb hml hown hg (c_X5_wasInAllThrough E l aR vR x3 x1 x2 u1 hu1) cy_X5_wasInAllThrough ml_X3_139 ⟨⟨rfl, rfl⟩, Nat.le_of_ble_eq_true rfl, Nat.le_of_ble_eq_true rfl⟩ hK hE hP hD hS hA [false, false, false, false, false, false, false, false, false, false, true, true, true, true] rfl rfl rfl 10 rfl rfl rfl hl.1 rfl (Nat.le_of_ble_eq_true rfl) dX3_firstSuspect_20 ⟨Nat.le_of_ble_eq_true rfl, Nat.le_of_ble_eq_true rfl⟩ [.int u1] rfl (fun H locs hP hD hS => ?_)
        refine lv_if_ne (tgt := 28) hx hb dX3_firstSuspect_23 (by decide) (fun cq => ?_) (fun cq => ?_)
        · have hf := ie cq hf
          refine lv_iinc (v := (x3 + 1)) (lv' := [(3, .int (x3 + 1)), (0, .ref aN), (1, .int x1), (2, .int x2)]) hx hb dX3_firstSuspect_28 hl (k := 3) rfl rfl (by decide) rfl (fun ls hl => ?_)
          refine lv_goto (tgt := 2) hx hb dX3_firstSuspect_31 (by decide) ?_
          exact ih _ _ _ _ hf hP hD hS (lv_sub hl [1, 2, 3, 0] rfl)
        · have hf := it cq hf
          refine lv_iload_n hx hb dX3_firstSuspect_26 rfl (lv_at hl 3 rfl) ?_
          obtain rfl := Option.some.inj hf
          exact cm_iret hx hb hr hlocks hP hS dX3_firstSuspect_27
  unfold F_X3_firstSuspect at hf
  refine lv_iconst (v := 0) hx hb dX3_firstSuspect_0 (by decide) ?_
  refine lv_istore_n (lv' := [(3, .int 0), (0, .ref aN), (1, .int x1), (2, .int x2)]) hx hb dX3_firstSuspect_1 rfl hl (by decide) rfl (fun ls hl => ?_)
  exact lp_2 FU _ _ _ _ hf hP hD hS (lv_sub hl [1, 2, 3, 0] rfl)
