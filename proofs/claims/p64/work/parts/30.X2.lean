def F_X1_copyFrom_r (vG1 : Nat → Nat → Int32) (vG : Nat → Nat → Int32) : Option ((Nat → Nat → Int32)) := lt (va_up vG 0 (fun _ => (vG1 0 0))) (fun vG_19 => lt (va_up vG_19 1 (va_cpy (vG1 1) (vG_19 1) 0 0 50)) (fun vG_20 => lt (va_up vG_20 2 (va_cpy (vG1 2) (vG_20 2) 0 0 10)) (fun vG_21 => lt (va_up vG_21 3 (va_cpy (vG1 3) (vG_21 3) 0 0 10)) (fun vG_22 => lt (va_up vG_22 4 (va_cpy (vG1 4) (vG_22 4) 0 0 10)) (fun vG_23 => lt (va_up vG_23 5 (va_cpy (vG1 5) (vG_23 5) 0 0 10)) (fun vG_24 => lt (va_up vG_24 6 (va_cpy (vG1 6) (vG_24 6) 0 0 10)) (fun vG_25 => lt (va_up vG_25 7 (va_cpy (vG1 7) (vG_25 7) 0 0 10)) (fun vG_26 => lt (va_up vG_26 8 (va_cpy (vG1 8) (vG_26 8) 0 0 10)) (fun vG_27 => (some vG_27))))))))))
abbrev rm_X1_copyFrom_r : Room := { frames := 1, cells := 0, slots := 0, locals := 60 }
set_option maxHeartbeats 4000000 in
set_option maxRecDepth 100000 in
theorem c_X1_copyFrom_r (E : Ev) (l : Launch) (aG1 : Nat → Nat) (aG : Nat → Nat) (vG1 : Nat → Nat → Int32) (vG : Nat → Nat → Int32) (r : (Nat → Nat → Int32)) (hf : F_X1_copyFrom_r vG1 vG = some r) : CM E l yX1_copyFrom (.code yX1_copyFrom cX1_copyFrom 2 none :: GA) rm_X1_copyFrom_r [.ref (aG 0), .ref (aG1 0)] (W_G E aG1 vG1 ++ (W_G E aG vG)) none (W_G E aG1 vG1 ++ (W_G E aG r)) := by
  refine CM.of (own := RX1) rfl (by decide) (Nat.le_of_ble_eq_true rfl) ?_
  intro p e s m below meth c A ls hx hb hr hml hown hg hlocks hK hE hA hP hD hS hl
  have hl : lv_has ls 2 [(0, .ref (aG 0)), (1, .ref (aG1 0))] := hl
  unfold F_X1_copyFrom_r at hf
  refine lv_aload_n hx hb dX1_copyFrom_0 rfl (lv_at hl 0 rfl) ?_
  refine lv_aload_n hx hb dX1_copyFrom_1 rfl (lv_at hl 1 rfl) ?_
  refine gf_X1_9 hx hb hg hown hK hP 0 rfl rfl dX1_copyFrom_2 ?_
  refine pf_X1_9 (w2 := (W_G E aG1 vG1 ++ (W_G E aG (va_up vG 0 (fun _ => (vG1 0 0)))))) hx hb hg hown hK hP hD hS 9 rfl (Nat.le_of_ble_eq_true rfl) rfl dX1_copyFrom_5 (fun H locs hP hD hS => ?_)
  obtain ⟨vG_19, hv, hf⟩ := lt_o hf
  rw [← hv] at hP hD
  clear hv
  refine lv_aload_n hx hb dX1_copyFrom_8 rfl (lv_at hl 1 rfl) ?_
  refine gf_X1_15 hx hb hg hown hK hP 0 rfl rfl dX1_copyFrom_9 ?_
  refine lv_iconst (v := 0) hx hb dX1_copyFrom_12 (by decide) ?_
  refine lv_aload_n hx hb dX1_copyFrom_13 rfl (lv_at hl 0 rfl) ?_
  refine gf_X1_15 hx hb hg hown hK hP 9 rfl rfl dX1_copyFrom_14 ?_
  refine lv_iconst (v := 0) hx hb dX1_copyFrom_17 (by decide) ?_
  refine lv_aload_n hx hb dX1_copyFrom_18 rfl (lv_at hl 0 rfl) ?_
  refine gf_X1_15 hx hb hg hown hK hP 9 rfl rfl dX1_copyFrom_19 ?_
  refine va_alen (v := 50) hx hb hK.1 hP 10 0 rfl rfl rfl dX1_copyFrom_22 ?_
  refine ar_cp (w2 := (W_G E aG1 vG1 ++ (W_G E aG (va_up vG_19 1 (va_cpy (vG1 1) (vG_19 1) 0 0 50))))) hx hb hml hl.1 hown hg ml_X1_66 hK hP hD hS 1 10 rfl rfl (by decide) (by decide) (by decide) (Nat.le_of_ble_eq_true rfl) (Nat.le_of_ble_eq_true rfl) (Nat.le_of_ble_eq_true rfl) (Nat.le_of_ble_eq_true rfl) rfl dX1_copyFrom_23 (fun H locs hP hD hS => ?_)
  obtain ⟨vG_20, hv, hf⟩ := lt_o hf
  rw [← hv] at hP hD
  clear hv
  refine lv_aload_n hx hb dX1_copyFrom_26 rfl (lv_at hl 1 rfl) ?_
  refine gf_X1_19 hx hb hg hown hK hP 0 rfl rfl dX1_copyFrom_27 ?_
  refine lv_iconst (v := 0) hx hb dX1_copyFrom_30 (by decide) ?_
  refine lv_aload_n hx hb dX1_copyFrom_31 rfl (lv_at hl 0 rfl) ?_
  refine gf_X1_19 hx hb hg hown hK hP 9 rfl rfl dX1_copyFrom_32 ?_
  refine lv_iconst (v := 0) hx hb dX1_copyFrom_35 (by decide) ?_
  refine lv_bipush (v := 10) hx hb dX1_copyFrom_36 (by decide) ?_
  refine ar_cp (w2 := (W_G E aG1 vG1 ++ (W_G E aG (va_up vG_20 2 (va_cpy (vG1 2) (vG_20 2) 0 0 10))))) hx hb hml hl.1 hown hg ml_X1_66 hK hP hD hS 2 11 rfl rfl (by decide) (by decide) (by decide) (Nat.le_of_ble_eq_true rfl) (Nat.le_of_ble_eq_true rfl) (Nat.le_of_ble_eq_true rfl) (Nat.le_of_ble_eq_true rfl) rfl dX1_copyFrom_38 (fun H locs hP hD hS => ?_)
  obtain ⟨vG_21, hv, hf⟩ := lt_o hf
  rw [← hv] at hP hD
  clear hv
  refine lv_aload_n hx hb dX1_copyFrom_41 rfl (lv_at hl 1 rfl) ?_
  refine gf_X1_22 hx hb hg hown hK hP 0 rfl rfl dX1_copyFrom_42 ?_
  refine lv_iconst (v := 0) hx hb dX1_copyFrom_45 (by decide) ?_
  refine lv_aload_n hx hb dX1_copyFrom_46 rfl (lv_at hl 0 rfl) ?_
  refine gf_X1_22 hx hb hg hown hK hP 9 rfl rfl dX1_copyFrom_47 ?_
  refine lv_iconst (v := 0) hx hb dX1_copyFrom_50 (by decide) ?_
  refine lv_bipush (v := 10) hx hb dX1_copyFrom_51 (by decide) ?_
  refine ar_cp (w2 := (W_G E aG1 vG1 ++ (W_G E aG (va_up vG_21 3 (va_cpy (vG1 3) (vG_21 3) 0 0 10))))) hx hb hml hl.1 hown hg ml_X1_66 hK hP hD hS 3 12 rfl rfl (by decide) (by decide) (by decide) (Nat.le_of_ble_eq_true rfl) (Nat.le_of_ble_eq_true rfl) (Nat.le_of_ble_eq_true rfl) (Nat.le_of_ble_eq_true rfl) rfl dX1_copyFrom_53 (fun H locs hP hD hS => ?_)
  obtain ⟨vG_22, hv, hf⟩ := lt_o hf
  rw [← hv] at hP hD
  clear hv
  refine lv_aload_n hx hb dX1_copyFrom_56 rfl (lv_at hl 1 rfl) ?_
  refine gf_X1_25 hx hb hg hown hK hP 0 rfl rfl dX1_copyFrom_57 ?_
  refine lv_iconst (v := 0) hx hb dX1_copyFrom_60 (by decide) ?_
  refine lv_aload_n hx hb dX1_copyFrom_61 rfl (lv_at hl 0 rfl) ?_
  refine gf_X1_25 hx hb hg hown hK hP 9 rfl rfl dX1_copyFrom_62 ?_
  refine lv_iconst (v := 0) hx hb dX1_copyFrom_65 (by decide) ?_
  refine lv_bipush (v := 10) hx hb dX1_copyFrom_66 (by decide) ?_
  refine ar_cp (w2 := (W_G E aG1 vG1 ++ (W_G E aG (va_up vG_22 4 (va_cpy (vG1 4) (vG_22 4) 0 0 10))))) hx hb hml hl.1 hown hg ml_X1_66 hK hP hD hS 4 13 rfl rfl (by decide) (by decide) (by decide) (Nat.le_of_ble_eq_true rfl) (Nat.le_of_ble_eq_true rfl) (Nat.le_of_ble_eq_true rfl) (Nat.le_of_ble_eq_true rfl) rfl dX1_copyFrom_68 (fun H locs hP hD hS => ?_)
  obtain ⟨vG_23, hv, hf⟩ := lt_o hf
  rw [← hv] at hP hD
  clear hv
  refine lv_aload_n hx hb dX1_copyFrom_71 rfl (lv_at hl 1 rfl) ?_
  refine gf_X1_28 hx hb hg hown hK hP 0 rfl rfl dX1_copyFrom_72 ?_
  refine lv_iconst (v := 0) hx hb dX1_copyFrom_75 (by decide) ?_
  refine lv_aload_n hx hb dX1_copyFrom_76 rfl (lv_at hl 0 rfl) ?_
  refine gf_X1_28 hx hb hg hown hK hP 9 rfl rfl dX1_copyFrom_77 ?_
  refine lv_iconst (v := 0) hx hb dX1_copyFrom_80 (by decide) ?_
  refine lv_bipush (v := 10) hx hb dX1_copyFrom_81 (by decide) ?_
  refine ar_cp (w2 := (W_G E aG1 vG1 ++ (W_G E aG (va_up vG_23 5 (va_cpy (vG1 5) (vG_23 5) 0 0 10))))) hx hb hml hl.1 hown hg ml_X1_66 hK hP hD hS 5 14 rfl rfl (by decide) (by decide) (by decide) (Nat.le_of_ble_eq_true rfl) (Nat.le_of_ble_eq_true rfl) (Nat.le_of_ble_eq_true rfl) (Nat.le_of_ble_eq_true rfl) rfl dX1_copyFrom_83 (fun H locs hP hD hS => ?_)
  obtain ⟨vG_24, hv, hf⟩ := lt_o hf
  rw [← hv] at hP hD
  clear hv
  refine lv_aload_n hx hb dX1_copyFrom_86 rfl (lv_at hl 1 rfl) ?_
  refine gf_X1_31 hx hb hg hown hK hP 0 rfl rfl dX1_copyFrom_87 ?_
  refine lv_iconst (v := 0) hx hb dX1_copyFrom_90 (by decide) ?_
  refine lv_aload_n hx hb dX1_copyFrom_91 rfl (lv_at hl 0 rfl) ?_
  refine gf_X1_31 hx hb hg hown hK hP 9 rfl rfl dX1_copyFrom_92 ?_
  refine lv_iconst (v := 0) hx hb dX1_copyFrom_95 (by decide) ?_
  refine lv_bipush (v := 10) hx hb dX1_copyFrom_96 (by decide) ?_
  refine ar_cp (w2 := (W_G E aG1 vG1 ++ (W_G E aG (va_up vG_24 6 (va_cpy (vG1 6) (vG_24 6) 0 0 10))))) hx hb hml hl.1 hown hg ml_X1_66 hK hP hD hS 6 15 rfl rfl (by decide) (by decide) (by decide) (Nat.le_of_ble_eq_true rfl) (Nat.le_of_ble_eq_true rfl) (Nat.le_of_ble_eq_true rfl) (Nat.le_of_ble_eq_true rfl) rfl dX1_copyFrom_98 (fun H locs hP hD hS => ?_)
  obtain ⟨vG_25, hv, hf⟩ := lt_o hf
  rw [← hv] at hP hD
  clear hv
  refine lv_aload_n hx hb dX1_copyFrom_101 rfl (lv_at hl 1 rfl) ?_
  refine gf_X1_34 hx hb hg hown hK hP 0 rfl rfl dX1_copyFrom_102 ?_
  refine lv_iconst (v := 0) hx hb dX1_copyFrom_105 (by decide) ?_
  refine lv_aload_n hx hb dX1_copyFrom_106 rfl (lv_at hl 0 rfl) ?_
  refine gf_X1_34 hx hb hg hown hK hP 9 rfl rfl dX1_copyFrom_107 ?_
  refine lv_iconst (v := 0) hx hb dX1_copyFrom_110 (by decide) ?_
  refine lv_bipush (v := 10) hx hb dX1_copyFrom_111 (by decide) ?_
  refine ar_cp (w2 := (W_G E aG1 vG1 ++ (W_G E aG (va_up vG_25 7 (va_cpy (vG1 7) (vG_25 7) 0 0 10))))) hx hb hml hl.1 hown hg ml_X1_66 hK hP hD hS 7 16 rfl rfl (by decide) (by decide) (by decide) (Nat.le_of_ble_eq_true rfl) (Nat.le_of_ble_eq_true rfl) (Nat.le_of_ble_eq_true rfl) (Nat.le_of_ble_eq_true rfl) rfl dX1_copyFrom_113 (fun H locs hP hD hS => ?_)
  obtain ⟨vG_26, hv, hf⟩ := lt_o hf
  rw [← hv] at hP hD
  clear hv
  refine lv_aload_n hx hb dX1_copyFrom_116 rfl (lv_at hl 1 rfl) ?_
  refine gf_X1_37 hx hb hg hown hK hP 0 rfl rfl dX1_copyFrom_117 ?_
  refine lv_iconst (v := 0) hx hb dX1_copyFrom_120 (by decide) ?_
  refine lv_aload_n hx hb dX1_copyFrom_121 rfl (lv_at hl 0 rfl) ?_
  refine gf_X1_37 hx hb hg hown hK hP 9 rfl rfl dX1_copyFrom_122 ?_
  refine lv_iconst (v := 0) hx hb dX1_copyFrom_125 (by decide) ?_
  refine lv_bipush (v := 10) hx hb dX1_copyFrom_126 (by decide) ?_
  refine ar_cp (w2 := (W_G E aG1 vG1 ++ (W_G E aG (va_up vG_26 8 (va_cpy (vG1 8) (vG_26 8) 0 0 10))))) hx hb hml hl.1 hown hg ml_X1_66 hK hP hD hS 8 17 rfl rfl (by decide) (by decide) (by decide) (Nat.le_of_ble_eq_true rfl) (Nat.le_of_ble_eq_true rfl) (Nat.le_of_ble_eq_true rfl) (Nat.le_of_ble_eq_true rfl) rfl dX1_copyFrom_128 (fun H locs hP hD hS => ?_)
  obtain ⟨vG_27, hv, hf⟩ := lt_o hf
  rw [← hv] at hP hD
  clear hv
  obtain rfl := Option.some.inj hf
  exact cm_vret hx hb hr hlocks hP hS dX1_copyFrom_131
def F_X7_copyFrom_r (vU1 : Nat → Nat → Int32) (vU : Nat → Nat → Int32) : Option ((Nat → Nat → Int32)) := lt (va_up vU 0 (fun _ => (vU1 0 0))) (fun vU_9 => lt (va_up vU_9 1 (va_cpy (vU1 1) (vU_9 1) 0 0 12)) (fun vU_10 => lt (va_up vU_10 2 (va_cpy (vU1 2) (vU_10 2) 0 0 12)) (fun vU_11 => lt (va_up vU_11 3 (va_cpy (vU1 3) (vU_11 3) 0 0 12)) (fun vU_12 => (some vU_12)))))
abbrev rm_X7_copyFrom_r : Room := { frames := 1, cells := 0, slots := 0, locals := 60 }
set_option maxHeartbeats 4000000 in
set_option maxRecDepth 100000 in
theorem c_X7_copyFrom_r (E : Ev) (l : Launch) (aU1 : Nat → Nat) (aU : Nat → Nat) (vU1 : Nat → Nat → Int32) (vU : Nat → Nat → Int32) (r : (Nat → Nat → Int32)) (hf : F_X7_copyFrom_r vU1 vU = some r) : CM E l yX7_copyFrom (.code yX7_copyFrom cX7_copyFrom 2 none :: GA) rm_X7_copyFrom_r [.ref (aU 0), .ref (aU1 0)] (W_U E aU1 vU1 ++ (W_U E aU vU)) none (W_U E aU1 vU1 ++ (W_U E aU r)) := by
  refine CM.of (own := RX7) rfl (by decide) (Nat.le_of_ble_eq_true rfl) ?_
  intro p e s m below meth c A ls hx hb hr hml hown hg hlocks hK hE hA hP hD hS hl
  have hl : lv_has ls 2 [(0, .ref (aU 0)), (1, .ref (aU1 0))] := hl
  unfold F_X7_copyFrom_r at hf
  refine lv_aload_n hx hb dX7_copyFrom_0 rfl (lv_at hl 0 rfl) ?_
  refine lv_aload_n hx hb dX7_copyFrom_1 rfl (lv_at hl 1 rfl) ?_
  refine gf_X7_9 hx hb hg hown hK hP 0 rfl rfl dX7_copyFrom_2 ?_
  refine pf_X7_9 (w2 := (W_U E aU1 vU1 ++ (W_U E aU (va_up vU 0 (fun _ => (vU1 0 0)))))) hx hb hg hown hK hP hD hS 4 rfl (Nat.le_of_ble_eq_true rfl) rfl dX7_copyFrom_5 (fun H locs hP hD hS => ?_)
  obtain ⟨vU_9, hv, hf⟩ := lt_o hf
  rw [← hv] at hP hD
  clear hv
  refine lv_aload_n hx hb dX7_copyFrom_8 rfl (lv_at hl 1 rfl) ?_
  refine gf_X7_15 hx hb hg hown hK hP 0 rfl rfl dX7_copyFrom_9 ?_
  refine lv_iconst (v := 0) hx hb dX7_copyFrom_12 (by decide) ?_
  refine lv_aload_n hx hb dX7_copyFrom_13 rfl (lv_at hl 0 rfl) ?_
  refine gf_X7_15 hx hb hg hown hK hP 4 rfl rfl dX7_copyFrom_14 ?_
  refine lv_iconst (v := 0) hx hb dX7_copyFrom_17 (by decide) ?_
  refine lv_bipush (v := 12) hx hb dX7_copyFrom_18 (by decide) ?_
  refine ar_cp (w2 := (W_U E aU1 vU1 ++ (W_U E aU (va_up vU_9 1 (va_cpy (vU1 1) (vU_9 1) 0 0 12))))) hx hb hml hl.1 hown hg ml_X7_38 hK hP hD hS 1 5 rfl rfl (by decide) (by decide) (by decide) (Nat.le_of_ble_eq_true rfl) (Nat.le_of_ble_eq_true rfl) (Nat.le_of_ble_eq_true rfl) (Nat.le_of_ble_eq_true rfl) rfl dX7_copyFrom_20 (fun H locs hP hD hS => ?_)
  obtain ⟨vU_10, hv, hf⟩ := lt_o hf
  rw [← hv] at hP hD
  clear hv
  refine lv_aload_n hx hb dX7_copyFrom_23 rfl (lv_at hl 1 rfl) ?_
  refine gf_X7_19 hx hb hg hown hK hP 0 rfl rfl dX7_copyFrom_24 ?_
  refine lv_iconst (v := 0) hx hb dX7_copyFrom_27 (by decide) ?_
  refine lv_aload_n hx hb dX7_copyFrom_28 rfl (lv_at hl 0 rfl) ?_
  refine gf_X7_19 hx hb hg hown hK hP 4 rfl rfl dX7_copyFrom_29 ?_
  refine lv_iconst (v := 0) hx hb dX7_copyFrom_32 (by decide) ?_
  refine lv_bipush (v := 12) hx hb dX7_copyFrom_33 (by decide) ?_
  refine ar_cp (w2 := (W_U E aU1 vU1 ++ (W_U E aU (va_up vU_10 2 (va_cpy (vU1 2) (vU_10 2) 0 0 12))))) hx hb hml hl.1 hown hg ml_X7_38 hK hP hD hS 2 6 rfl rfl (by decide) (by decide) (by decide) (Nat.le_of_ble_eq_true rfl) (Nat.le_of_ble_eq_true rfl) (Nat.le_of_ble_eq_true rfl) (Nat.le_of_ble_eq_true rfl) rfl dX7_copyFrom_35 (fun H locs hP hD hS => ?_)
  obtain ⟨vU_11, hv, hf⟩ := lt_o hf
  rw [← hv] at hP hD
  clear hv
  refine lv_aload_n hx hb dX7_copyFrom_38 rfl (lv_at hl 1 rfl) ?_
  refine gf_X7_22 hx hb hg hown hK hP 0 rfl rfl dX7_copyFrom_39 ?_
  refine lv_iconst (v := 0) hx hb dX7_copyFrom_42 (by decide) ?_
  refine lv_aload_n hx hb dX7_copyFrom_43 rfl (lv_at hl 0 rfl) ?_
  refine gf_X7_22 hx hb hg hown hK hP 4 rfl rfl dX7_copyFrom_44 ?_
  refine lv_iconst (v := 0) hx hb dX7_copyFrom_47 (by decide) ?_
  refine lv_bipush (v := 12) hx hb dX7_copyFrom_48 (by decide) ?_
  refine ar_cp (w2 := (W_U E aU1 vU1 ++ (W_U E aU (va_up vU_11 3 (va_cpy (vU1 3) (vU_11 3) 0 0 12))))) hx hb hml hl.1 hown hg ml_X7_38 hK hP hD hS 3 7 rfl rfl (by decide) (by decide) (by decide) (Nat.le_of_ble_eq_true rfl) (Nat.le_of_ble_eq_true rfl) (Nat.le_of_ble_eq_true rfl) (Nat.le_of_ble_eq_true rfl) rfl dX7_copyFrom_50 (fun H locs hP hD hS => ?_)
  obtain ⟨vU_12, hv, hf⟩ := lt_o hf
  rw [← hv] at hP hD
  clear hv
  obtain rfl := Option.some.inj hf
  exact cm_vret hx hb hr hlocks hP hS dX7_copyFrom_53
def F_X5_copyFrom_r (vR1 : Nat → Nat → Int32) (vR : Nat → Nat → Int32) : Option ((Nat → Nat → Int32)) := lt (va_up vR 0 (fun _ => (vR1 0 0))) (fun vR_9 => lt (va_up vR_9 1 (va_cpy (vR1 1) (vR_9 1) 0 0 60)) (fun vR_10 => lt (va_up vR_10 2 (va_cpy (vR1 2) (vR_10 2) 0 0 60)) (fun vR_11 => lt (va_up vR_11 3 (va_cpy (vR1 3) (vR_11 3) 0 0 60)) (fun vR_12 => (some vR_12)))))
abbrev rm_X5_copyFrom_r : Room := { frames := 1, cells := 0, slots := 0, locals := 60 }
set_option maxHeartbeats 4000000 in
set_option maxRecDepth 100000 in
theorem c_X5_copyFrom_r (E : Ev) (l : Launch) (aR1 : Nat → Nat) (aR : Nat → Nat) (vR1 : Nat → Nat → Int32) (vR : Nat → Nat → Int32) (r : (Nat → Nat → Int32)) (hf : F_X5_copyFrom_r vR1 vR = some r) : CM E l yX5_copyFrom (.code yX5_copyFrom cX5_copyFrom 2 none :: GA) rm_X5_copyFrom_r [.ref (aR 0), .ref (aR1 0)] (W_R E aR1 vR1 ++ (W_R E aR vR)) none (W_R E aR1 vR1 ++ (W_R E aR r)) := by
  refine CM.of (own := RX5) rfl (by decide) (Nat.le_of_ble_eq_true rfl) ?_
  intro p e s m below meth c A ls hx hb hr hml hown hg hlocks hK hE hA hP hD hS hl
  have hl : lv_has ls 2 [(0, .ref (aR 0)), (1, .ref (aR1 0))] := hl
  unfold F_X5_copyFrom_r at hf
  refine lv_aload_n hx hb dX5_copyFrom_0 rfl (lv_at hl 0 rfl) ?_
  refine lv_aload_n hx hb dX5_copyFrom_1 rfl (lv_at hl 1 rfl) ?_
  refine gf_X5_9 hx hb hg hown hK hP 0 rfl rfl dX5_copyFrom_2 ?_
  refine pf_X5_9 (w2 := (W_R E aR1 vR1 ++ (W_R E aR (va_up vR 0 (fun _ => (vR1 0 0)))))) hx hb hg hown hK hP hD hS 4 rfl (Nat.le_of_ble_eq_true rfl) rfl dX5_copyFrom_5 (fun H locs hP hD hS => ?_)
  obtain ⟨vR_9, hv, hf⟩ := lt_o hf
  rw [← hv] at hP hD
  clear hv
  refine lv_aload_n hx hb dX5_copyFrom_8 rfl (lv_at hl 1 rfl) ?_
  refine gf_X5_15 hx hb hg hown hK hP 0 rfl rfl dX5_copyFrom_9 ?_
  refine lv_iconst (v := 0) hx hb dX5_copyFrom_12 (by decide) ?_
  refine lv_aload_n hx hb dX5_copyFrom_13 rfl (lv_at hl 0 rfl) ?_
  refine gf_X5_15 hx hb hg hown hK hP 4 rfl rfl dX5_copyFrom_14 ?_
  refine lv_iconst (v := 0) hx hb dX5_copyFrom_17 (by decide) ?_
  refine lv_bipush (v := 60) hx hb dX5_copyFrom_18 (by decide) ?_
  refine ar_cp (w2 := (W_R E aR1 vR1 ++ (W_R E aR (va_up vR_9 1 (va_cpy (vR1 1) (vR_9 1) 0 0 60))))) hx hb hml hl.1 hown hg ml_X5_47 hK hP hD hS 1 5 rfl rfl (by decide) (by decide) (by decide) (Nat.le_of_ble_eq_true rfl) (Nat.le_of_ble_eq_true rfl) (Nat.le_of_ble_eq_true rfl) (Nat.le_of_ble_eq_true rfl) rfl dX5_copyFrom_20 (fun H locs hP hD hS => ?_)
  obtain ⟨vR_10, hv, hf⟩ := lt_o hf
  rw [← hv] at hP hD
  clear hv
  refine lv_aload_n hx hb dX5_copyFrom_23 rfl (lv_at hl 1 rfl) ?_
  refine gf_X5_19 hx hb hg hown hK hP 0 rfl rfl dX5_copyFrom_24 ?_
  refine lv_iconst (v := 0) hx hb dX5_copyFrom_27 (by decide) ?_
  refine lv_aload_n hx hb dX5_copyFrom_28 rfl (lv_at hl 0 rfl) ?_
  refine gf_X5_19 hx hb hg hown hK hP 4 rfl rfl dX5_copyFrom_29 ?_
  refine lv_iconst (v := 0) hx hb dX5_copyFrom_32 (by decide) ?_
  refine lv_bipush (v := 60) hx hb dX5_copyFrom_33 (by decide) ?_
  refine ar_cp (w2 := (W_R E aR1 vR1 ++ (W_R E aR (va_up vR_10 2 (va_cpy (vR1 2) (vR_10 2) 0 0 60))))) hx hb hml hl.1 hown hg ml_X5_47 hK hP hD hS 2 6 rfl rfl (by decide) (by decide) (by decide) (Nat.le_of_ble_eq_true rfl) (Nat.le_of_ble_eq_true rfl) (Nat.le_of_ble_eq_true rfl) (Nat.le_of_ble_eq_true rfl) rfl dX5_copyFrom_35 (fun H locs hP hD hS => ?_)
  obtain ⟨vR_11, hv, hf⟩ := lt_o hf
  rw [← hv] at hP hD
  clear hv
  refine lv_aload_n hx hb dX5_copyFrom_38 rfl (lv_at hl 1 rfl) ?_
  refine gf_X5_22 hx hb hg hown hK hP 0 rfl rfl dX5_copyFrom_39 ?_
  refine lv_iconst (v := 0) hx hb dX5_copyFrom_42 (by decide) ?_
  refine lv_aload_n hx hb dX5_copyFrom_43 rfl (lv_at hl 0 rfl) ?_
  refine gf_X5_22 hx hb hg hown hK hP 4 rfl rfl dX5_copyFrom_44 ?_
  refine lv_iconst (v := 0) hx hb dX5_copyFrom_47 (by decide) ?_
  refine lv_bipush (v := 60) hx hb dX5_copyFrom_48 (by decide) ?_
  refine ar_cp (w2 := (W_R E aR1 vR1 ++ (W_R E aR (va_up vR_11 3 (va_cpy (vR1 3) (vR_11 3) 0 0 60))))) hx hb hml hl.1 hown hg ml_X5_47 hK hP hD hS 3 7 rfl rfl (by decide) (by decide) (by decide) (Nat.le_of_ble_eq_true rfl) (Nat.le_of_ble_eq_true rfl) (Nat.le_of_ble_eq_true rfl) (Nat.le_of_ble_eq_true rfl) rfl dX5_copyFrom_50 (fun H locs hP hD hS => ?_)
  obtain ⟨vR_12, hv, hf⟩ := lt_o hf
  rw [← hv] at hP hD
  clear hv
  obtain rfl := Option.some.inj hf
  exact cm_vret hx hb hr hlocks hP hS dX5_copyFrom_53
def F_X3_copyFrom_r (vN1 : Nat → Int32) (vG1 : Nat → Nat → Int32) (vU1 : Nat → Nat → Int32) (vR1 : Nat → Nat → Int32) (vN : Nat → Int32) (vG : Nat → Nat → Int32) (vU : Nat → Nat → Int32) (vR : Nat → Nat → Int32) : Option ((Nat → Int32) × (Nat → Nat → Int32) × (Nat → Nat → Int32) × (Nat → Nat → Int32)) := lt (va_up vN 0 (vN1 0)) (fun vN_15 => lt (va_up vN_15 1 (vN1 1)) (fun vN_16 => lt (va_up vN_16 2 (vN1 2)) (fun vN_17 => lt (va_up vN_17 3 (vN1 3)) (fun vN_18 => lt (va_up vN_18 4 (vN1 4)) (fun vN_19 => lt (va_up vN_19 5 (vN1 5)) (fun vN_20 => lt (va_up vN_20 6 (vN1 6)) (fun vN_21 => (F_X1_copyFrom_r vG1 vG).bind (fun u1 => (F_X7_copyFrom_r vU1 vU).bind (fun u2 => (F_X5_copyFrom_r vR1 vR).bind (fun u3 => (some (vN_21, u1, u2, u3))))))))))))
abbrev rm_X3_copyFrom_r : Room := { frames := 2, cells := 0, slots := 0, locals := 81 }
set_option maxHeartbeats 4000000 in
set_option maxRecDepth 100000 in
theorem c_X3_copyFrom_r (E : Ev) (l : Launch) (aN1 : Nat) (aG1 : Nat → Nat) (aU1 : Nat → Nat) (aR1 : Nat → Nat) (aN : Nat) (aG : Nat → Nat) (aU : Nat → Nat) (aR : Nat → Nat) (vN1 : Nat → Int32) (vG1 : Nat → Nat → Int32) (vU1 : Nat → Nat → Int32) (vR1 : Nat → Nat → Int32) (vN : Nat → Int32) (vG : Nat → Nat → Int32) (vU : Nat → Nat → Int32) (vR : Nat → Nat → Int32) (r : (Nat → Int32) × (Nat → Nat → Int32) × (Nat → Nat → Int32) × (Nat → Nat → Int32)) (hf : F_X3_copyFrom_r vN1 vG1 vU1 vR1 vN vG vU vR = some r) : CM E l yX3_copyFrom (.code yX3_copyFrom cX3_copyFrom 2 none :: GA) rm_X3_copyFrom_r [.ref aN, .ref aN1] (W_N aN1 aG1 aU1 aR1 vN1 ++ (W_G E aG1 vG1 ++ (W_U E aU1 vU1 ++ (W_R E aR1 vR1 ++ (W_N aN aG aU aR vN ++ (W_G E aG vG ++ (W_U E aU vU ++ (W_R E aR vR)))))))) none (W_N aN1 aG1 aU1 aR1 vN1 ++ (W_G E aG1 vG1 ++ (W_U E aU1 vU1 ++ (W_R E aR1 vR1 ++ (W_N aN aG aU aR r.1 ++ (W_G E aG r.2.1 ++ (W_U E aU r.2.2.1 ++ (W_R E aR r.2.2.2)))))))) := by
  refine CM.of (own := RX3) rfl (by decide) (Nat.le_of_ble_eq_true rfl) ?_
  intro p e s m below meth c A ls hx hb hr hml hown hg hlocks hK hE hA hP hD hS hl
  have hl : lv_has ls 2 [(0, .ref aN), (1, .ref aN1)] := hl
  unfold F_X3_copyFrom_r at hf
  refine lv_aload_n hx hb dX3_copyFrom_0 rfl (lv_at hl 0 rfl) ?_
  refine lv_aload_n hx hb dX3_copyFrom_1 rfl (lv_at hl 1 rfl) ?_
  refine gf_X3_9 hx hb hg hown hK hP 0 rfl rfl dX3_copyFrom_2 ?_
  refine pf_X3_9 (w2 := (W_N aN1 aG1 aU1 aR1 vN1 ++ (W_G E aG1 vG1 ++ (W_U E aU1 vU1 ++ (W_R E aR1 vR1 ++ (W_N aN aG aU aR (va_up vN 0 (vN1 0)) ++ (W_G E aG vG ++ (W_U E aU vU ++ (W_R E aR vR))))))))) hx hb hg hown hK hP hD hS 18 rfl (Nat.le_of_ble_eq_true rfl) rfl dX3_copyFrom_5 (fun H locs hP hD hS => ?_)
  obtain ⟨vN_15, hv, hf⟩ := lt_o hf
  rw [← hv] at hP hD
  clear hv
  refine lv_aload_n hx hb dX3_copyFrom_8 rfl (lv_at hl 0 rfl) ?_
  refine lv_aload_n hx hb dX3_copyFrom_9 rfl (lv_at hl 1 rfl) ?_
  refine gf_X3_15 hx hb hg hown hK hP 0 rfl rfl dX3_copyFrom_10 ?_
  refine pf_X3_15 (w2 := (W_N aN1 aG1 aU1 aR1 vN1 ++ (W_G E aG1 vG1 ++ (W_U E aU1 vU1 ++ (W_R E aR1 vR1 ++ (W_N aN aG aU aR (va_up vN_15 1 (vN1 1)) ++ (W_G E aG vG ++ (W_U E aU vU ++ (W_R E aR vR))))))))) hx hb hg hown hK hP hD hS 18 rfl (Nat.le_of_ble_eq_true rfl) rfl dX3_copyFrom_13 (fun H locs hP hD hS => ?_)
  obtain ⟨vN_16, hv, hf⟩ := lt_o hf
  rw [← hv] at hP hD
  clear hv
  refine lv_aload_n hx hb dX3_copyFrom_16 rfl (lv_at hl 0 rfl) ?_
  refine lv_aload_n hx hb dX3_copyFrom_17 rfl (lv_at hl 1 rfl) ?_
  refine gf_X3_18 hx hb hg hown hK hP 0 rfl rfl dX3_copyFrom_18 ?_
  refine pf_X3_18 (w2 := (W_N aN1 aG1 aU1 aR1 vN1 ++ (W_G E aG1 vG1 ++ (W_U E aU1 vU1 ++ (W_R E aR1 vR1 ++ (W_N aN aG aU aR (va_up vN_16 2 (vN1 2)) ++ (W_G E aG vG ++ (W_U E aU vU ++ (W_R E aR vR))))))))) hx hb hg hown hK hP hD hS 18 rfl (Nat.le_of_ble_eq_true rfl) rfl dX3_copyFrom_21 (fun H locs hP hD hS => ?_)
  obtain ⟨vN_17, hv, hf⟩ := lt_o hf
  rw [← hv] at hP hD
  clear hv
  refine lv_aload_n hx hb dX3_copyFrom_24 rfl (lv_at hl 0 rfl) ?_
  refine lv_aload_n hx hb dX3_copyFrom_25 rfl (lv_at hl 1 rfl) ?_
  refine gf_X3_21 hx hb hg hown hK hP 0 rfl rfl dX3_copyFrom_26 ?_
  refine pf_X3_21 (w2 := (W_N aN1 aG1 aU1 aR1 vN1 ++ (W_G E aG1 vG1 ++ (W_U E aU1 vU1 ++ (W_R E aR1 vR1 ++ (W_N aN aG aU aR (va_up vN_17 3 (vN1 3)) ++ (W_G E aG vG ++ (W_U E aU vU ++ (W_R E aR vR))))))))) hx hb hg hown hK hP hD hS 18 rfl (Nat.le_of_ble_eq_true rfl) rfl dX3_copyFrom_29 (fun H locs hP hD hS => ?_)
  obtain ⟨vN_18, hv, hf⟩ := lt_o hf
  rw [← hv] at hP hD
  clear hv
  refine lv_aload_n hx hb dX3_copyFrom_32 rfl (lv_at hl 0 rfl) ?_
  refine lv_aload_n hx hb dX3_copyFrom_33 rfl (lv_at hl 1 rfl) ?_
  refine gf_X3_24 hx hb hg hown hK hP 0 rfl rfl dX3_copyFrom_34 ?_
  refine pf_X3_24 (w2 := (W_N aN1 aG1 aU1 aR1 vN1 ++ (W_G E aG1 vG1 ++ (W_U E aU1 vU1 ++ (W_R E aR1 vR1 ++ (W_N aN aG aU aR (va_up vN_18 4 (vN1 4)) ++ (W_G E aG vG ++ (W_U E aU vU ++ (W_R E aR vR))))))))) hx hb hg hown hK hP hD hS 18 rfl (Nat.le_of_ble_eq_true rfl) rfl dX3_copyFrom_37 (fun H locs hP hD hS => ?_)
  obtain ⟨vN_19, hv, hf⟩ := lt_o hf
  rw [← hv] at hP hD
  clear hv
  refine lv_aload_n hx hb dX3_copyFrom_40 rfl (lv_at hl 0 rfl) ?_
  refine lv_aload_n hx hb dX3_copyFrom_41 rfl (lv_at hl 1 rfl) ?_
  refine gf_X3_27 hx hb hg hown hK hP 0 rfl rfl dX3_copyFrom_42 ?_
  refine pf_X3_27 (w2 := (W_N aN1 aG1 aU1 aR1 vN1 ++ (W_G E aG1 vG1 ++ (W_U E aU1 vU1 ++ (W_R E aR1 vR1 ++ (W_N aN aG aU aR (va_up vN_19 5 (vN1 5)) ++ (W_G E aG vG ++ (W_U E aU vU ++ (W_R E aR vR))))))))) hx hb hg hown hK hP hD hS 18 rfl (Nat.le_of_ble_eq_true rfl) rfl dX3_copyFrom_45 (fun H locs hP hD hS => ?_)
  obtain ⟨vN_20, hv, hf⟩ := lt_o hf
  rw [← hv] at hP hD
  clear hv
  refine lv_aload_n hx hb dX3_copyFrom_48 rfl (lv_at hl 0 rfl) ?_
  refine lv_aload_n hx hb dX3_copyFrom_49 rfl (lv_at hl 1 rfl) ?_
  refine gf_X3_30 hx hb hg hown hK hP 0 rfl rfl dX3_copyFrom_50 ?_
  refine pf_X3_30 (w2 := (W_N aN1 aG1 aU1 aR1 vN1 ++ (W_G E aG1 vG1 ++ (W_U E aU1 vU1 ++ (W_R E aR1 vR1 ++ (W_N aN aG aU aR (va_up vN_20 6 (vN1 6)) ++ (W_G E aG vG ++ (W_U E aU vU ++ (W_R E aR vR))))))))) hx hb hg hown hK hP hD hS 18 rfl (Nat.le_of_ble_eq_true rfl) rfl dX3_copyFrom_53 (fun H locs hP hD hS => ?_)
  obtain ⟨vN_21, hv, hf⟩ := lt_o hf
  rw [← hv] at hP hD
  clear hv
  refine lv_aload_n hx hb dX3_copyFrom_56 rfl (lv_at hl 0 rfl) ?_
  refine gf_X3_36 hx hb hg hown hK hP 18 rfl rfl dX3_copyFrom_57 ?_
  refine lv_aload_n hx hb dX3_copyFrom_60 rfl (lv_at hl 1 rfl) ?_
  refine gf_X3_36 hx hb hg hown hK hP 0 rfl rfl dX3_copyFrom_61 ?_
  obtain ⟨u1, hu1, hf⟩ := bn hf
  refine cm_V (As := [.ref (aG1 0)]) (rest := []) (w2 := (W_N aN1 aG1 aU1 aR1 vN1 ++ (W_G E aG1 vG1 ++ (W_U E aU1 vU1 ++ (W_R E aR1 vR1 ++ (W_N aN aG aU aR vN_21 ++ (W_G E aG u1 ++ (W_U E aU vU ++ (W_R E aR vR))))))))) hx hb hml hown hg (c_X1_copyFrom_r E l aG1 aG vG1 vG u1 hu1) cy_X1_copyFrom ml_X3_59 ⟨⟨rfl, rfl⟩, Nat.le_of_ble_eq_true rfl, Nat.le_of_ble_eq_true rfl⟩ hK hE hP hD hS hA [false, true, true, true, true, true, true, true, true, true, false, false, false, false, false, false, false, false, false, true, true, true, true, true, true, true, true, true] rfl rfl rfl 19 rfl rfl rfl hl.1 rfl (Nat.le_of_ble_eq_true rfl) dX3_copyFrom_64 ⟨Nat.le_of_ble_eq_true rfl, Nat.le_of_ble_eq_true rfl⟩ [] rfl (fun H locs hP hD hS => ?_)
  refine lv_aload_n hx hb dX3_copyFrom_67 rfl (lv_at hl 0 rfl) ?_
  refine gf_X3_43 hx hb hg hown hK hP 18 rfl rfl dX3_copyFrom_68 ?_
  refine lv_aload_n hx hb dX3_copyFrom_71 rfl (lv_at hl 1 rfl) ?_
  refine gf_X3_43 hx hb hg hown hK hP 0 rfl rfl dX3_copyFrom_72 ?_
  obtain ⟨u2, hu2, hf⟩ := bn hf
  refine cm_V (As := [.ref (aU1 0)]) (rest := []) (w2 := (W_N aN1 aG1 aU1 aR1 vN1 ++ (W_G E aG1 vG1 ++ (W_U E aU1 vU1 ++ (W_R E aR1 vR1 ++ (W_N aN aG aU aR vN_21 ++ (W_G E aG u1 ++ (W_U E aU u2 ++ (W_R E aR vR))))))))) hx hb hml hown hg (c_X7_copyFrom_r E l aU1 aU vU1 vU u2 hu2) cy_X7_copyFrom ml_X3_63 ⟨⟨rfl, rfl⟩, Nat.le_of_ble_eq_true rfl, Nat.le_of_ble_eq_true rfl⟩ hK hE hP hD hS hA [false, false, false, false, false, false, false, false, false, false, true, true, true, true, false, false, false, false, false, false, false, false, false, false, false, false, false, false, true, true, true, true] rfl rfl rfl 28 rfl rfl rfl hl.1 rfl (Nat.le_of_ble_eq_true rfl) dX3_copyFrom_75 ⟨Nat.le_of_ble_eq_true rfl, Nat.le_of_ble_eq_true rfl⟩ [] rfl (fun H locs hP hD hS => ?_)
  refine lv_aload_n hx hb dX3_copyFrom_78 rfl (lv_at hl 0 rfl) ?_
  refine gf_X3_50 hx hb hg hown hK hP 18 rfl rfl dX3_copyFrom_79 ?_
  refine lv_aload_n hx hb dX3_copyFrom_82 rfl (lv_at hl 1 rfl) ?_
  refine gf_X3_50 hx hb hg hown hK hP 0 rfl rfl dX3_copyFrom_83 ?_
  obtain ⟨u3, hu3, hf⟩ := bn hf
  refine cm_V (As := [.ref (aR1 0)]) (rest := []) (w2 := (W_N aN1 aG1 aU1 aR1 vN1 ++ (W_G E aG1 vG1 ++ (W_U E aU1 vU1 ++ (W_R E aR1 vR1 ++ (W_N aN aG aU aR vN_21 ++ (W_G E aG u1 ++ (W_U E aU u2 ++ (W_R E aR u3))))))))) hx hb hml hown hg (c_X5_copyFrom_r E l aR1 aR vR1 vR u3 hu3) cy_X5_copyFrom ml_X3_66 ⟨⟨rfl, rfl⟩, Nat.le_of_ble_eq_true rfl, Nat.le_of_ble_eq_true rfl⟩ hK hE hP hD hS hA [false, false, false, false, false, false, false, false, false, false, false, false, false, false, true, true, true, true, false, false, false, false, false, false, false, false, false, false, false, false, false, false, true, true, true, true] rfl rfl rfl 32 rfl rfl rfl hl.1 rfl (Nat.le_of_ble_eq_true rfl) dX3_copyFrom_86 ⟨Nat.le_of_ble_eq_true rfl, Nat.le_of_ble_eq_true rfl⟩ [] rfl (fun H locs hP hD hS => ?_)
  obtain rfl := Option.some.inj hf
  exact cm_vret hx hb hr hlocks hP hS dX3_copyFrom_89
def F_X2_remember (vN : Nat → Int32) (vG : Nat → Nat → Int32) (vU : Nat → Nat → Int32) (vR : Nat → Nat → Int32) (vH : Nat → Int32) (vHV : Nat → NV) : Option ((Nat → Int32) × (Nat → NV)) := ck (vH 0) 8 (lt (Int32.toNatClampNeg (vH 0)) (fun j_3 => (F_X3_copyFrom_r vN vG vU vR ((vHV j_3).1) ((vHV j_3).2.1) ((vHV j_3).2.2.1) ((vHV j_3).2.2.2)).bind (fun u1 => lt (va_up vH 0 (((vH 0) + 1) - ((vH 0) + 1) / 8 * 8)) (fun vH_5 => lt (va_up vH_5 1 (if ((vH_5 1) + 1) < 8 then ((vH_5 1) + 1) else 8)) (fun vH_6 => (some (vH_6, (va_up vHV j_3 (u1.1, u1.2.1, u1.2.2.1, u1.2.2.2)))))))))
abbrev rm_X2_remember : Room := { frames := 3, cells := 0, slots := 0, locals := 102 }
set_option maxHeartbeats 4000000 in
set_option maxRecDepth 100000 in
theorem c_X2_remember (E : Ev) (l : Launch) (aN : Nat) (aG : Nat → Nat) (aU : Nat → Nat) (aR : Nat → Nat) (aH : Nat) (aHA : Nat) (kn : Nat → Nat) (kg : Nat → Nat → Nat) (ku : Nat → Nat → Nat) (kr : Nat → Nat → Nat) (vN : Nat → Int32) (vG : Nat → Nat → Int32) (vU : Nat → Nat → Int32) (vR : Nat → Nat → Int32) (vH : Nat → Int32) (vHV : Nat → NV) (r : (Nat → Int32) × (Nat → NV)) (hf : F_X2_remember vN vG vU vR vH vHV = some r) : CM E l yX2_remember (.code yX2_remember cX2_remember 2 none :: GA) rm_X2_remember [.ref aH, .ref aN] (W_N aN aG aU aR vN ++ (W_G E aG vG ++ (W_U E aU vU ++ (W_R E aR vR ++ (W_H aH aHA vH ++ (W_NA E aHA 8 kn ++ (W_V8 E kn kg ku kr vHV))))))) none (W_N aN aG aU aR vN ++ (W_G E aG vG ++ (W_U E aU vU ++ (W_R E aR vR ++ (W_H aH aHA r.1 ++ (W_NA E aHA 8 kn ++ (W_V8 E kn kg ku kr r.2))))))) := by
  refine CM.of (own := RX2) rfl (by decide) (Nat.le_of_ble_eq_true rfl) ?_
  intro p e s m below meth c A ls hx hb hr hml hown hg hlocks hK hE hA hP hD hS hl
  have hl : lv_has ls 2 [(0, .ref aH), (1, .ref aN)] := hl
  unfold F_X2_remember at hf
  refine lv_aload_n hx hb dX2_remember_0 rfl (lv_at hl 0 rfl) ?_
  refine gf_X2_11 hx hb hg hown hK hP 18 rfl rfl dX2_remember_1 ?_
  refine lv_aload_n hx hb dX2_remember_4 rfl (lv_at hl 0 rfl) ?_
  refine gf_X2_17 hx hb hg hown hK hP 18 rfl rfl dX2_remember_5 ?_
  obtain ⟨hi, hf⟩ := ck_o hf
  obtain ⟨j_3, hj_3, hf⟩ := lt_o hf
  have bj_3 : j_3 < 8 := by rw [hj_3]; exact Nat.not_le.mp fun q => hi (Or.inr q)
  refine ar_lq (f := kn) hx hb hK hP 19 rfl hi dX2_remember_8 ?_
  rw [← hj_3]
  refine lv_aload_n hx hb dX2_remember_9 rfl (lv_at hl 1 rfl) ?_
  obtain ⟨u1, hu, hf⟩ := bn hf
  have rst : ∀ (H : Heap) (locs : List Loc), va_P E.1 vwCl (W_N aN aG aU aR vN ++ (W_G E aG vG ++ (W_U E aU vU ++ (W_R E aR vR ++ (W_H aH aHA vH ++ (W_NA E aHA 8 kn ++ (W_V8 E kn kg ku kr (va_up vHV j_3 (u1.1, u1.2.1, u1.2.2.1, u1.2.2.2))))))))) H → va_D A (W_N aN aG aU aR vN ++ (W_G E aG vG ++ (W_U E aU vU ++ (W_R E aR vR ++ (W_H aH aHA vH ++ (W_NA E aHA 8 kn ++ (W_V8 E kn kg ku kr (va_up vHV j_3 (u1.1, u1.2.1, u1.2.2.1, u1.2.2.2))))))))) → va_S A s.heap H locs → W p l e rm_X2_remember s m ([.ref aH, .ref aN] : List Value).toArray below meth c H locs 0 0 (MQ below (QW E none (W_N aN aG aU aR vN ++ (W_G E aG vG ++ (W_U E aU vU ++ (W_R E aR vR ++ (W_H aH aHA r.1 ++ (W_NA E aHA 8 kn ++ (W_V8 E kn kg ku kr r.2))))))) A) ([.ref aH, .ref aN] : List Value).toArray s 0 0 A) (F0 m 13 ls []) := by
    intro H locs hP hD hS
    refine lv_aload_n hx hb dX2_remember_13 rfl (lv_at hl 0 rfl) ?_
    refine lv_aload_n hx hb dX2_remember_14 rfl (lv_at hl 0 rfl) ?_
    refine gf_X2_17 hx hb hg hown hK hP 18 rfl rfl dX2_remember_15 ?_
    refine lv_iconst (v := 1) hx hb dX2_remember_18 (by decide) ?_
    refine lv_iadd hx hb dX2_remember_19 ?_
    refine lv_bipush (v := 8) hx hb dX2_remember_20 (by decide) ?_
    refine lv_irem hx hb dX2_remember_22 (by decide) ?_
    refine pf_X2_17 (w2 := (W_N aN aG aU aR vN ++ (W_G E aG vG ++ (W_U E aU vU ++ (W_R E aR vR ++ (W_H aH aHA (va_up vH 0 (((vH 0) + 1) - ((vH 0) + 1) / 8 * 8)) ++ (W_NA E aHA 8 kn ++ (W_V8 E kn kg ku kr (va_up vHV j_3 (u1.1, u1.2.1, u1.2.2.1, u1.2.2.2)))))))))) hx hb hg hown hK hP hD hS 18 rfl (Nat.le_of_ble_eq_true rfl) rfl dX2_remember_23 (fun H locs hP hD hS => ?_)
    obtain ⟨vH_5, hv, hf⟩ := lt_o hf
    rw [← hv] at hP hD
    clear hv
    refine lv_aload_n hx hb dX2_remember_26 rfl (lv_at hl 0 rfl) ?_
    refine lv_bipush (v := 8) hx hb dX2_remember_27 (by decide) ?_
    refine lv_aload_n hx hb dX2_remember_29 rfl (lv_at hl 0 rfl) ?_
    refine gf_X2_21 hx hb hg hown hK hP 18 rfl rfl dX2_remember_30 ?_
    refine lv_iconst (v := 1) hx hb dX2_remember_33 (by decide) ?_
    refine lv_iadd hx hb dX2_remember_34 ?_
    refine cm_min hx hb hml hl.1 hown hg ml_X2_29 (Nat.le_of_ble_eq_true rfl) (Nat.le_of_ble_eq_true rfl) ⟨Nat.le_of_ble_eq_true rfl, Nat.le_of_ble_eq_true rfl⟩ dX2_remember_35 ?_
    refine pf_X2_21 (w2 := (W_N aN aG aU aR vN ++ (W_G E aG vG ++ (W_U E aU vU ++ (W_R E aR vR ++ (W_H aH aHA (va_up vH_5 1 (if ((vH_5 1) + 1) < 8 then ((vH_5 1) + 1) else 8)) ++ (W_NA E aHA 8 kn ++ (W_V8 E kn kg ku kr (va_up vHV j_3 (u1.1, u1.2.1, u1.2.2.1, u1.2.2.2)))))))))) hx hb hg hown hK hP hD hS 18 rfl (Nat.le_of_ble_eq_true rfl) rfl dX2_remember_38 (fun H locs hP hD hS => ?_)
    obtain ⟨vH_6, hv, hf⟩ := lt_o hf
    rw [← hv] at hP hD
    clear hv
    obtain rfl := Option.some.inj hf
    exact cm_vret hx hb hr hlocks hP hS dX2_remember_41
  clear hf
  match j_3, bj_3, hu, rst with
  | 0, _, hu, rst =>
    refine cm_V (As := [.ref aN]) (rest := []) (w2 := (W_N aN aG aU aR vN ++ (W_G E aG vG ++ (W_U E aU vU ++ (W_R E aR vR ++ (W_H aH aHA vH ++ (W_NA E aHA 8 kn ++ (W_V8 E kn kg ku kr (va_up vHV 0 (u1.1, u1.2.1, u1.2.2.1, u1.2.2.2)))))))))) hx hb hml hown hg (c_X3_copyFrom_r E l aN aG aU aR (kn 0) (kg 0) (ku 0) (kr 0) vN vG vU vR ((vHV 0).1) ((vHV 0).2.1) ((vHV 0).2.2.1) ((vHV 0).2.2.2) u1 hu) cy_X3_copyFrom ml_X2_25 ⟨⟨rfl, rfl⟩, Nat.le_of_ble_eq_true rfl, Nat.le_of_ble_eq_true rfl⟩ hK hE hP hD hS hA [true, true, true, true, true, true, true, true, true, true, true, true, true, true, true, true, true, true, false, false, true, true, true, true, true, true, true, true, true, true, true, true, true, true, true, true, true, true] rfl rfl rfl 20 rfl rfl rfl hl.1 rfl (Nat.le_of_ble_eq_true rfl) dX2_remember_10 ⟨Nat.le_of_ble_eq_true rfl, Nat.le_of_ble_eq_true rfl⟩ [] rfl (fun H locs hP hD hS => ?_)
    exact rst H locs hP hD hS
  | 1, _, hu, rst =>
    refine cm_V (As := [.ref aN]) (rest := []) (w2 := (W_N aN aG aU aR vN ++ (W_G E aG vG ++ (W_U E aU vU ++ (W_R E aR vR ++ (W_H aH aHA vH ++ (W_NA E aHA 8 kn ++ (W_V8 E kn kg ku kr (va_up vHV 1 (u1.1, u1.2.1, u1.2.2.1, u1.2.2.2)))))))))) hx hb hml hown hg (c_X3_copyFrom_r E l aN aG aU aR (kn 1) (kg 1) (ku 1) (kr 1) vN vG vU vR ((vHV 1).1) ((vHV 1).2.1) ((vHV 1).2.2.1) ((vHV 1).2.2.2) u1 hu) cy_X3_copyFrom ml_X2_25 ⟨⟨rfl, rfl⟩, Nat.le_of_ble_eq_true rfl, Nat.le_of_ble_eq_true rfl⟩ hK hE hP hD hS hA [true, true, true, true, true, true, true, true, true, true, true, true, true, true, true, true, true, true, false, false, false, false, false, false, false, false, false, false, false, false, false, false, false, false, false, false, false, false, true, true, true, true, true, true, true, true, true, true, true, true, true, true, true, true, true, true] rfl rfl rfl 38 rfl rfl rfl hl.1 rfl (Nat.le_of_ble_eq_true rfl) dX2_remember_10 ⟨Nat.le_of_ble_eq_true rfl, Nat.le_of_ble_eq_true rfl⟩ [] rfl (fun H locs hP hD hS => ?_)
    exact rst H locs hP hD hS
  | 2, _, hu, rst =>
    refine cm_V (As := [.ref aN]) (rest := []) (w2 := (W_N aN aG aU aR vN ++ (W_G E aG vG ++ (W_U E aU vU ++ (W_R E aR vR ++ (W_H aH aHA vH ++ (W_NA E aHA 8 kn ++ (W_V8 E kn kg ku kr (va_up vHV 2 (u1.1, u1.2.1, u1.2.2.1, u1.2.2.2)))))))))) hx hb hml hown hg (c_X3_copyFrom_r E l aN aG aU aR (kn 2) (kg 2) (ku 2) (kr 2) vN vG vU vR ((vHV 2).1) ((vHV 2).2.1) ((vHV 2).2.2.1) ((vHV 2).2.2.2) u1 hu) cy_X3_copyFrom ml_X2_25 ⟨⟨rfl, rfl⟩, Nat.le_of_ble_eq_true rfl, Nat.le_of_ble_eq_true rfl⟩ hK hE hP hD hS hA [true, true, true, true, true, true, true, true, true, true, true, true, true, true, true, true, true, true, false, false, false, false, false, false, false, false, false, false, false, false, false, false, false, false, false, false, false, false, false, false, false, false, false, false, false, false, false, false, false, false, false, false, false, false, false, false, true, true, true, true, true, true, true, true, true, true, true, true, true, true, true, true, true, true] rfl rfl rfl 56 rfl rfl rfl hl.1 rfl (Nat.le_of_ble_eq_true rfl) dX2_remember_10 ⟨Nat.le_of_ble_eq_true rfl, Nat.le_of_ble_eq_true rfl⟩ [] rfl (fun H locs hP hD hS => ?_)
    exact rst H locs hP hD hS
  | 3, _, hu, rst =>
    refine cm_V (As := [.ref aN]) (rest := []) (w2 := (W_N aN aG aU aR vN ++ (W_G E aG vG ++ (W_U E aU vU ++ (W_R E aR vR ++ (W_H aH aHA vH ++ (W_NA E aHA 8 kn ++ (W_V8 E kn kg ku kr (va_up vHV 3 (u1.1, u1.2.1, u1.2.2.1, u1.2.2.2)))))))))) hx hb hml hown hg (c_X3_copyFrom_r E l aN aG aU aR (kn 3) (kg 3) (ku 3) (kr 3) vN vG vU vR ((vHV 3).1) ((vHV 3).2.1) ((vHV 3).2.2.1) ((vHV 3).2.2.2) u1 hu) cy_X3_copyFrom ml_X2_25 ⟨⟨rfl, rfl⟩, Nat.le_of_ble_eq_true rfl, Nat.le_of_ble_eq_true rfl⟩ hK hE hP hD hS hA [true, true, true, true, true, true, true, true, true, true, true, true, true, true, true, true, true, true, false, false, false, false, false, false, false, false, false, false, false, false, false, false, false, false, false, false, false, false, false, false, false, false, false, false, false, false, false, false, false, false, false, false, false, false, false, false, false, false, false, false, false, false, false, false, false, false, false, false, false, false, false, false, false, false, true, true, true, true, true, true, true, true, true, true, true, true, true, true, true, true, true, true] rfl rfl rfl 74 rfl rfl rfl hl.1 rfl (Nat.le_of_ble_eq_true rfl) dX2_remember_10 ⟨Nat.le_of_ble_eq_true rfl, Nat.le_of_ble_eq_true rfl⟩ [] rfl (fun H locs hP hD hS => ?_)
    exact rst H locs hP hD hS
  | 4, _, hu, rst =>
    refine cm_V (As := [.ref aN]) (rest := []) (w2 := (W_N aN aG aU aR vN ++ (W_G E aG vG ++ (W_U E aU vU ++ (W_R E aR vR ++ (W_H aH aHA vH ++ (W_NA E aHA 8 kn ++ (W_V8 E kn kg ku kr (va_up vHV 4 (u1.1, u1.2.1, u1.2.2.1, u1.2.2.2)))))))))) hx hb hml hown hg (c_X3_copyFrom_r E l aN aG aU aR (kn 4) (kg 4) (ku 4) (kr 4) vN vG vU vR ((vHV 4).1) ((vHV 4).2.1) ((vHV 4).2.2.1) ((vHV 4).2.2.2) u1 hu) cy_X3_copyFrom ml_X2_25 ⟨⟨rfl, rfl⟩, Nat.le_of_ble_eq_true rfl, Nat.le_of_ble_eq_true rfl⟩ hK hE hP hD hS hA [true, true, true, true, true, true, true, true, true, true, true, true, true, true, true, true, true, true, false, false, false, false, false, false, false, false, false, false, false, false, false, false, false, false, false, false, false, false, false, false, false, false, false, false, false, false, false, false, false, false, false, false, false, false, false, false, false, false, false, false, false, false, false, false, false, false, false, false, false, false, false, false, false, false, false, false, false, false, false, false, false, false, false, false, false, false, false, false, false, false, false, false, true, true, true, true, true, true, true, true, true, true, true, true, true, true, true, true, true, true] rfl rfl rfl 92 rfl rfl rfl hl.1 rfl (Nat.le_of_ble_eq_true rfl) dX2_remember_10 ⟨Nat.le_of_ble_eq_true rfl, Nat.le_of_ble_eq_true rfl⟩ [] rfl (fun H locs hP hD hS => ?_)
    exact rst H locs hP hD hS
  | 5, _, hu, rst =>
    refine cm_V (As := [.ref aN]) (rest := []) (w2 := (W_N aN aG aU aR vN ++ (W_G E aG vG ++ (W_U E aU vU ++ (W_R E aR vR ++ (W_H aH aHA vH ++ (W_NA E aHA 8 kn ++ (W_V8 E kn kg ku kr (va_up vHV 5 (u1.1, u1.2.1, u1.2.2.1, u1.2.2.2)))))))))) hx hb hml hown hg (c_X3_copyFrom_r E l aN aG aU aR (kn 5) (kg 5) (ku 5) (kr 5) vN vG vU vR ((vHV 5).1) ((vHV 5).2.1) ((vHV 5).2.2.1) ((vHV 5).2.2.2) u1 hu) cy_X3_copyFrom ml_X2_25 ⟨⟨rfl, rfl⟩, Nat.le_of_ble_eq_true rfl, Nat.le_of_ble_eq_true rfl⟩ hK hE hP hD hS hA [true, true, true, true, true, true, true, true, true, true, true, true, true, true, true, true, true, true, false, false, false, false, false, false, false, false, false, false, false, false, false, false, false, false, false, false, false, false, false, false, false, false, false, false, false, false, false, false, false, false, false, false, false, false, false, false, false, false, false, false, false, false, false, false, false, false, false, false, false, false, false, false, false, false, false, false, false, false, false, false, false, false, false, false, false, false, false, false, false, false, false, false, false, false, false, false, false, false, false, false, false, false, false, false, false, false, false, false, false, false, true, true, true, true, true, true, true, true, true, true, true, true, true, true, true, true, true, true] rfl rfl rfl 110 rfl rfl rfl hl.1 rfl (Nat.le_of_ble_eq_true rfl) dX2_remember_10 ⟨Nat.le_of_ble_eq_true rfl, Nat.le_of_ble_eq_true rfl⟩ [] rfl (fun H locs hP hD hS => ?_)
    exact rst H locs hP hD hS
  | 6, _, hu, rst =>
    refine cm_V (As := [.ref aN]) (rest := []) (w2 := (W_N aN aG aU aR vN ++ (W_G E aG vG ++ (W_U E aU vU ++ (W_R E aR vR ++ (W_H aH aHA vH ++ (W_NA E aHA 8 kn ++ (W_V8 E kn kg ku kr (va_up vHV 6 (u1.1, u1.2.1, u1.2.2.1, u1.2.2.2)))))))))) hx hb hml hown hg (c_X3_copyFrom_r E l aN aG aU aR (kn 6) (kg 6) (ku 6) (kr 6) vN vG vU vR ((vHV 6).1) ((vHV 6).2.1) ((vHV 6).2.2.1) ((vHV 6).2.2.2) u1 hu) cy_X3_copyFrom ml_X2_25 ⟨⟨rfl, rfl⟩, Nat.le_of_ble_eq_true rfl, Nat.le_of_ble_eq_true rfl⟩ hK hE hP hD hS hA [true, true, true, true, true, true, true, true, true, true, true, true, true, true, true, true, true, true, false, false, false, false, false, false, false, false, false, false, false, false, false, false, false, false, false, false, false, false, false, false, false, false, false, false, false, false, false, false, false, false, false, false, false, false, false, false, false, false, false, false, false, false, false, false, false, false, false, false, false, false, false, false, false, false, false, false, false, false, false, false, false, false, false, false, false, false, false, false, false, false, false, false, false, false, false, false, false, false, false, false, false, false, false, false, false, false, false, false, false, false, false, false, false, false, false, false, false, false, false, false, false, false, false, false, false, false, false, false, true, true, true, true, true, true, true, true, true, true, true, true, true, true, true, true, true, true] rfl rfl rfl 128 rfl rfl rfl hl.1 rfl (Nat.le_of_ble_eq_true rfl) dX2_remember_10 ⟨Nat.le_of_ble_eq_true rfl, Nat.le_of_ble_eq_true rfl⟩ [] rfl (fun H locs hP hD hS => ?_)
    exact rst H locs hP hD hS
  | 7, _, hu, rst =>
    refine cm_V (As := [.ref aN]) (rest := []) (w2 := (W_N aN aG aU aR vN ++ (W_G E aG vG ++ (W_U E aU vU ++ (W_R E aR vR ++ (W_H aH aHA vH ++ (W_NA E aHA 8 kn ++ (W_V8 E kn kg ku kr (va_up vHV 7 (u1.1, u1.2.1, u1.2.2.1, u1.2.2.2)))))))))) hx hb hml hown hg (c_X3_copyFrom_r E l aN aG aU aR (kn 7) (kg 7) (ku 7) (kr 7) vN vG vU vR ((vHV 7).1) ((vHV 7).2.1) ((vHV 7).2.2.1) ((vHV 7).2.2.2) u1 hu) cy_X3_copyFrom ml_X2_25 ⟨⟨rfl, rfl⟩, Nat.le_of_ble_eq_true rfl, Nat.le_of_ble_eq_true rfl⟩ hK hE hP hD hS hA [true, true, true, true, true, true, true, true, true, true, true, true, true, true, true, true, true, true, false, false, false, false, false, false, false, false, false, false, false, false, false, false, false, false, false, false, false, false, false, false, false, false, false, false, false, false, false, false, false, false, false, false, false, false, false, false, false, false, false, false, false, false, false, false, false, false, false, false, false, false, false, false, false, false, false, false, false, false, false, false, false, false, false, false, false, false, false, false, false, false, false, false, false, false, false, false, false, false, false, false, false, false, false, false, false, false, false, false, false, false, false, false, false, false, false, false, false, false, false, false, false, false, false, false, false, false, false, false, false, false, false, false, false, false, false, false, false, false, false, false, false, false, false, false, false, false, true, true, true, true, true, true, true, true, true, true, true, true, true, true, true, true, true, true] rfl rfl rfl 146 rfl rfl rfl hl.1 rfl (Nat.le_of_ble_eq_true rfl) dX2_remember_10 ⟨Nat.le_of_ble_eq_true rfl, Nat.le_of_ble_eq_true rfl⟩ [] rfl (fun H locs hP hD hS => ?_)
    exact rst H locs hP hD hS
  | k + 8, hk, _, _ => exact absurd hk (by omega)
def F_X2_takeBack (vN : Nat → Int32) (vG : Nat → Nat → Int32) (vU : Nat → Nat → Int32) (vR : Nat → Nat → Int32) (vH : Nat → Int32) (vHV : Nat → NV) : Option ((Nat → Int32) × (Nat → Nat → Int32) × (Nat → Nat → Int32) × (Nat → Nat → Int32) × (Nat → Int32)) := lt (va_up vH 0 ((((vH 0) + 8) - 1) - (((vH 0) + 8) - 1) / 8 * 8)) (fun vH_5 => lt (va_up vH_5 1 ((vH_5 1) - 1)) (fun vH_6 => ck (vH_6 0) 8 (lt (Int32.toNatClampNeg (vH_6 0)) (fun j_3 => (F_X3_copyFrom vN vG vU vR ((vHV j_3).1) ((vHV j_3).2.1) ((vHV j_3).2.2.1) ((vHV j_3).2.2.2)).bind (fun u1 => (some (u1.1, u1.2.1, u1.2.2.1, u1.2.2.2, vH_6)))))))
abbrev rm_X2_takeBack : Room := { frames := 3, cells := 0, slots := 0, locals := 102 }
set_option maxHeartbeats 4000000 in
set_option maxRecDepth 100000 in
theorem c_X2_takeBack (E : Ev) (l : Launch) (aN : Nat) (aG : Nat → Nat) (aU : Nat → Nat) (aR : Nat → Nat) (aH : Nat) (aHA : Nat) (kn : Nat → Nat) (kg : Nat → Nat → Nat) (ku : Nat → Nat → Nat) (kr : Nat → Nat → Nat) (vN : Nat → Int32) (vG : Nat → Nat → Int32) (vU : Nat → Nat → Int32) (vR : Nat → Nat → Int32) (vH : Nat → Int32) (vHV : Nat → NV) (r : (Nat → Int32) × (Nat → Nat → Int32) × (Nat → Nat → Int32) × (Nat → Nat → Int32) × (Nat → Int32)) (hf : F_X2_takeBack vN vG vU vR vH vHV = some r) : CM E l yX2_takeBack (.code yX2_takeBack cX2_takeBack 2 none :: GA) rm_X2_takeBack [.ref aH, .ref aN] (W_N aN aG aU aR vN ++ (W_G E aG vG ++ (W_U E aU vU ++ (W_R E aR vR ++ (W_H aH aHA vH ++ (W_NA E aHA 8 kn ++ (W_V8 E kn kg ku kr vHV))))))) none (W_N aN aG aU aR r.1 ++ (W_G E aG r.2.1 ++ (W_U E aU r.2.2.1 ++ (W_R E aR r.2.2.2.1 ++ (W_H aH aHA r.2.2.2.2 ++ (W_NA E aHA 8 kn ++ (W_V8 E kn kg ku kr vHV))))))) := by
  refine CM.of (own := RX2) rfl (by decide) (Nat.le_of_ble_eq_true rfl) ?_
  intro p e s m below meth c A ls hx hb hr hml hown hg hlocks hK hE hA hP hD hS hl
  have hl : lv_has ls 2 [(0, .ref aH), (1, .ref aN)] := hl
  unfold F_X2_takeBack at hf
  refine lv_aload_n hx hb dX2_takeBack_0 rfl (lv_at hl 0 rfl) ?_
  refine lv_aload_n hx hb dX2_takeBack_1 rfl (lv_at hl 0 rfl) ?_
  refine gf_X2_17 hx hb hg hown hK hP 18 rfl rfl dX2_takeBack_2 ?_
  refine lv_bipush (v := 8) hx hb dX2_takeBack_5 (by decide) ?_
  refine lv_iadd hx hb dX2_takeBack_7 ?_
  refine lv_iconst (v := 1) hx hb dX2_takeBack_8 (by decide) ?_
  refine lv_isub hx hb dX2_takeBack_9 ?_
  refine lv_bipush (v := 8) hx hb dX2_takeBack_10 (by decide) ?_
  refine lv_irem hx hb dX2_takeBack_12 (by decide) ?_
  refine pf_X2_17 (w2 := (W_N aN aG aU aR vN ++ (W_G E aG vG ++ (W_U E aU vU ++ (W_R E aR vR ++ (W_H aH aHA (va_up vH 0 ((((vH 0) + 8) - 1) - (((vH 0) + 8) - 1) / 8 * 8)) ++ (W_NA E aHA 8 kn ++ (W_V8 E kn kg ku kr vHV)))))))) hx hb hg hown hK hP hD hS 18 rfl (Nat.le_of_ble_eq_true rfl) rfl dX2_takeBack_13 (fun H locs hP hD hS => ?_)
  obtain ⟨vH_5, hv, hf⟩ := lt_o hf
  rw [← hv] at hP hD
  clear hv
  refine lv_aload_n hx hb dX2_takeBack_16 rfl (lv_at hl 0 rfl) ?_
  refine lv_dup hx hb dX2_takeBack_17 rfl ?_
  refine gf_X2_21 hx hb hg hown hK hP 18 rfl rfl dX2_takeBack_18 ?_
  refine lv_iconst (v := 1) hx hb dX2_takeBack_21 (by decide) ?_
  refine lv_isub hx hb dX2_takeBack_22 ?_
  refine pf_X2_21 (w2 := (W_N aN aG aU aR vN ++ (W_G E aG vG ++ (W_U E aU vU ++ (W_R E aR vR ++ (W_H aH aHA (va_up vH_5 1 ((vH_5 1) - 1)) ++ (W_NA E aHA 8 kn ++ (W_V8 E kn kg ku kr vHV)))))))) hx hb hg hown hK hP hD hS 18 rfl (Nat.le_of_ble_eq_true rfl) rfl dX2_takeBack_23 (fun H locs hP hD hS => ?_)
  obtain ⟨vH_6, hv, hf⟩ := lt_o hf
  rw [← hv] at hP hD
  clear hv
  refine lv_aload_n hx hb dX2_takeBack_26 rfl (lv_at hl 1 rfl) ?_
  refine lv_aload_n hx hb dX2_takeBack_27 rfl (lv_at hl 0 rfl) ?_
  refine gf_X2_11 hx hb hg hown hK hP 18 rfl rfl dX2_takeBack_28 ?_
  refine lv_aload_n hx hb dX2_takeBack_31 rfl (lv_at hl 0 rfl) ?_
  refine gf_X2_17 hx hb hg hown hK hP 18 rfl rfl dX2_takeBack_32 ?_
  obtain ⟨hi, hf⟩ := ck_o hf
  obtain ⟨j_3, hj_3, hf⟩ := lt_o hf
  have bj_3 : j_3 < 8 := by rw [hj_3]; exact Nat.not_le.mp fun q => hi (Or.inr q)
  refine ar_lq (f := kn) hx hb hK hP 19 rfl hi dX2_takeBack_35 ?_
  rw [← hj_3]
  obtain ⟨u1, hu, hf⟩ := bn hf
  have rst : ∀ (H : Heap) (locs : List Loc), va_P E.1 vwCl (W_N aN aG aU aR u1.1 ++ (W_G E aG u1.2.1 ++ (W_U E aU u1.2.2.1 ++ (W_R E aR u1.2.2.2 ++ (W_H aH aHA vH_6 ++ (W_NA E aHA 8 kn ++ (W_V8 E kn kg ku kr vHV))))))) H → va_D A (W_N aN aG aU aR u1.1 ++ (W_G E aG u1.2.1 ++ (W_U E aU u1.2.2.1 ++ (W_R E aR u1.2.2.2 ++ (W_H aH aHA vH_6 ++ (W_NA E aHA 8 kn ++ (W_V8 E kn kg ku kr vHV))))))) → va_S A s.heap H locs → W p l e rm_X2_takeBack s m ([.ref aH, .ref aN] : List Value).toArray below meth c H locs 0 0 (MQ below (QW E none (W_N aN aG aU aR r.1 ++ (W_G E aG r.2.1 ++ (W_U E aU r.2.2.1 ++ (W_R E aR r.2.2.2.1 ++ (W_H aH aHA r.2.2.2.2 ++ (W_NA E aHA 8 kn ++ (W_V8 E kn kg ku kr vHV))))))) A) ([.ref aH, .ref aN] : List Value).toArray s 0 0 A) (F0 m 39 ls []) := by
    intro H locs hP hD hS
    obtain rfl := Option.some.inj hf
    exact cm_vret hx hb hr hlocks hP hS dX2_takeBack_39
  clear hf
  match j_3, bj_3, hu, rst with
  | 0, _, hu, rst =>
    refine cm_V (As := [.ref (kn 0)]) (rest := []) (w2 := (W_N aN aG aU aR u1.1 ++ (W_G E aG u1.2.1 ++ (W_U E aU u1.2.2.1 ++ (W_R E aR u1.2.2.2 ++ (W_H aH aHA vH_6 ++ (W_NA E aHA 8 kn ++ (W_V8 E kn kg ku kr vHV)))))))) hx hb hml hown hg (c_X3_copyFrom E l aN aG aU aR (kn 0) (kg 0) (ku 0) (kr 0) vN vG vU vR ((vHV 0).1) ((vHV 0).2.1) ((vHV 0).2.2.1) ((vHV 0).2.2.2) u1 hu) cy_X3_copyFrom ml_X2_25 ⟨⟨rfl, rfl⟩, Nat.le_of_ble_eq_true rfl, Nat.le_of_ble_eq_true rfl⟩ hK hE hP hD hS hA [true, true, true, true, true, true, true, true, true, true, true, true, true, true, true, true, true, true, false, false, true, true, true, true, true, true, true, true, true, true, true, true, true, true, true, true, true, true] rfl rfl rfl 0 rfl rfl rfl hl.1 rfl (Nat.le_of_ble_eq_true rfl) dX2_takeBack_36 ⟨Nat.le_of_ble_eq_true rfl, Nat.le_of_ble_eq_true rfl⟩ [] rfl (fun H locs hP hD hS => ?_)
    exact rst H locs hP hD hS
  | 1, _, hu, rst =>
    refine cm_V (As := [.ref (kn 1)]) (rest := []) (w2 := (W_N aN aG aU aR u1.1 ++ (W_G E aG u1.2.1 ++ (W_U E aU u1.2.2.1 ++ (W_R E aR u1.2.2.2 ++ (W_H aH aHA vH_6 ++ (W_NA E aHA 8 kn ++ (W_V8 E kn kg ku kr vHV)))))))) hx hb hml hown hg (c_X3_copyFrom E l aN aG aU aR (kn 1) (kg 1) (ku 1) (kr 1) vN vG vU vR ((vHV 1).1) ((vHV 1).2.1) ((vHV 1).2.2.1) ((vHV 1).2.2.2) u1 hu) cy_X3_copyFrom ml_X2_25 ⟨⟨rfl, rfl⟩, Nat.le_of_ble_eq_true rfl, Nat.le_of_ble_eq_true rfl⟩ hK hE hP hD hS hA [true, true, true, true, true, true, true, true, true, true, true, true, true, true, true, true, true, true, false, false, false, false, false, false, false, false, false, false, false, false, false, false, false, false, false, false, false, false, true, true, true, true, true, true, true, true, true, true, true, true, true, true, true, true, true, true] rfl rfl rfl 0 rfl rfl rfl hl.1 rfl (Nat.le_of_ble_eq_true rfl) dX2_takeBack_36 ⟨Nat.le_of_ble_eq_true rfl, Nat.le_of_ble_eq_true rfl⟩ [] rfl (fun H locs hP hD hS => ?_)
    exact rst H locs hP hD hS
  | 2, _, hu, rst =>
    refine cm_V (As := [.ref (kn 2)]) (rest := []) (w2 := (W_N aN aG aU aR u1.1 ++ (W_G E aG u1.2.1 ++ (W_U E aU u1.2.2.1 ++ (W_R E aR u1.2.2.2 ++ (W_H aH aHA vH_6 ++ (W_NA E aHA 8 kn ++ (W_V8 E kn kg ku kr vHV)))))))) hx hb hml hown hg (c_X3_copyFrom E l aN aG aU aR (kn 2) (kg 2) (ku 2) (kr 2) vN vG vU vR ((vHV 2).1) ((vHV 2).2.1) ((vHV 2).2.2.1) ((vHV 2).2.2.2) u1 hu) cy_X3_copyFrom ml_X2_25 ⟨⟨rfl, rfl⟩, Nat.le_of_ble_eq_true rfl, Nat.le_of_ble_eq_true rfl⟩ hK hE hP hD hS hA [true, true, true, true, true, true, true, true, true, true, true, true, true, true, true, true, true, true, false, false, false, false, false, false, false, false, false, false, false, false, false, false, false, false, false, false, false, false, false, false, false, false, false, false, false, false, false, false, false, false, false, false, false, false, false, false, true, true, true, true, true, true, true, true, true, true, true, true, true, true, true, true, true, true] rfl rfl rfl 0 rfl rfl rfl hl.1 rfl (Nat.le_of_ble_eq_true rfl) dX2_takeBack_36 ⟨Nat.le_of_ble_eq_true rfl, Nat.le_of_ble_eq_true rfl⟩ [] rfl (fun H locs hP hD hS => ?_)
    exact rst H locs hP hD hS
  | 3, _, hu, rst =>
    refine cm_V (As := [.ref (kn 3)]) (rest := []) (w2 := (W_N aN aG aU aR u1.1 ++ (W_G E aG u1.2.1 ++ (W_U E aU u1.2.2.1 ++ (W_R E aR u1.2.2.2 ++ (W_H aH aHA vH_6 ++ (W_NA E aHA 8 kn ++ (W_V8 E kn kg ku kr vHV)))))))) hx hb hml hown hg (c_X3_copyFrom E l aN aG aU aR (kn 3) (kg 3) (ku 3) (kr 3) vN vG vU vR ((vHV 3).1) ((vHV 3).2.1) ((vHV 3).2.2.1) ((vHV 3).2.2.2) u1 hu) cy_X3_copyFrom ml_X2_25 ⟨⟨rfl, rfl⟩, Nat.le_of_ble_eq_true rfl, Nat.le_of_ble_eq_true rfl⟩ hK hE hP hD hS hA [true, true, true, true, true, true, true, true, true, true, true, true, true, true, true, true, true, true, false, false, false, false, false, false, false, false, false, false, false, false, false, false, false, false, false, false, false, false, false, false, false, false, false, false, false, false, false, false, false, false, false, false, false, false, false, false, false, false, false, false, false, false, false, false, false, false, false, false, false, false, false, false, false, false, true, true, true, true, true, true, true, true, true, true, true, true, true, true, true, true, true, true] rfl rfl rfl 0 rfl rfl rfl hl.1 rfl (Nat.le_of_ble_eq_true rfl) dX2_takeBack_36 ⟨Nat.le_of_ble_eq_true rfl, Nat.le_of_ble_eq_true rfl⟩ [] rfl (fun H locs hP hD hS => ?_)
    exact rst H locs hP hD hS
  | 4, _, hu, rst =>
    refine cm_V (As := [.ref (kn 4)]) (rest := []) (w2 := (W_N aN aG aU aR u1.1 ++ (W_G E aG u1.2.1 ++ (W_U E aU u1.2.2.1 ++ (W_R E aR u1.2.2.2 ++ (W_H aH aHA vH_6 ++ (W_NA E aHA 8 kn ++ (W_V8 E kn kg ku kr vHV)))))))) hx hb hml hown hg (c_X3_copyFrom E l aN aG aU aR (kn 4) (kg 4) (ku 4) (kr 4) vN vG vU vR ((vHV 4).1) ((vHV 4).2.1) ((vHV 4).2.2.1) ((vHV 4).2.2.2) u1 hu) cy_X3_copyFrom ml_X2_25 ⟨⟨rfl, rfl⟩, Nat.le_of_ble_eq_true rfl, Nat.le_of_ble_eq_true rfl⟩ hK hE hP hD hS hA [true, true, true, true, true, true, true, true, true, true, true, true, true, true, true, true, true, true, false, false, false, false, false, false, false, false, false, false, false, false, false, false, false, false, false, false, false, false, false, false, false, false, false, false, false, false, false, false, false, false, false, false, false, false, false, false, false, false, false, false, false, false, false, false, false, false, false, false, false, false, false, false, false, false, false, false, false, false, false, false, false, false, false, false, false, false, false, false, false, false, false, false, true, true, true, true, true, true, true, true, true, true, true, true, true, true, true, true, true, true] rfl rfl rfl 0 rfl rfl rfl hl.1 rfl (Nat.le_of_ble_eq_true rfl) dX2_takeBack_36 ⟨Nat.le_of_ble_eq_true rfl, Nat.le_of_ble_eq_true rfl⟩ [] rfl (fun H locs hP hD hS => ?_)
    exact rst H locs hP hD hS
  | 5, _, hu, rst =>
    refine cm_V (As := [.ref (kn 5)]) (rest := []) (w2 := (W_N aN aG aU aR u1.1 ++ (W_G E aG u1.2.1 ++ (W_U E aU u1.2.2.1 ++ (W_R E aR u1.2.2.2 ++ (W_H aH aHA vH_6 ++ (W_NA E aHA 8 kn ++ (W_V8 E kn kg ku kr vHV)))))))) hx hb hml hown hg (c_X3_copyFrom E l aN aG aU aR (kn 5) (kg 5) (ku 5) (kr 5) vN vG vU vR ((vHV 5).1) ((vHV 5).2.1) ((vHV 5).2.2.1) ((vHV 5).2.2.2) u1 hu) cy_X3_copyFrom ml_X2_25 ⟨⟨rfl, rfl⟩, Nat.le_of_ble_eq_true rfl, Nat.le_of_ble_eq_true rfl⟩ hK hE hP hD hS hA [true, true, true, true, true, true, true, true, true, true, true, true, true, true, true, true, true, true, false, false, false, false, false, false, false, false, false, false, false, false, false, false, false, false, false, false, false, false, false, false, false, false, false, false, false, false, false, false, false, false, false, false, false, false, false, false, false, false, false, false, false, false, false, false, false, false, false, false, false, false, false, false, false, false, false, false, false, false, false, false, false, false, false, false, false, false, false, false, false, false, false, false, false, false, false, false, false, false, false, false, false, false, false, false, false, false, false, false, false, false, true, true, true, true, true, true, true, true, true, true, true, true, true, true, true, true, true, true] rfl rfl rfl 0 rfl rfl rfl hl.1 rfl (Nat.le_of_ble_eq_true rfl) dX2_takeBack_36 ⟨Nat.le_of_ble_eq_true rfl, Nat.le_of_ble_eq_true rfl⟩ [] rfl (fun H locs hP hD hS => ?_)
    exact rst H locs hP hD hS
  | 6, _, hu, rst =>
    refine cm_V (As := [.ref (kn 6)]) (rest := []) (w2 := (W_N aN aG aU aR u1.1 ++ (W_G E aG u1.2.1 ++ (W_U E aU u1.2.2.1 ++ (W_R E aR u1.2.2.2 ++ (W_H aH aHA vH_6 ++ (W_NA E aHA 8 kn ++ (W_V8 E kn kg ku kr vHV)))))))) hx hb hml hown hg (c_X3_copyFrom E l aN aG aU aR (kn 6) (kg 6) (ku 6) (kr 6) vN vG vU vR ((vHV 6).1) ((vHV 6).2.1) ((vHV 6).2.2.1) ((vHV 6).2.2.2) u1 hu) cy_X3_copyFrom ml_X2_25 ⟨⟨rfl, rfl⟩, Nat.le_of_ble_eq_true rfl, Nat.le_of_ble_eq_true rfl⟩ hK hE hP hD hS hA [true, true, true, true, true, true, true, true, true, true, true, true, true, true, true, true, true, true, false, false, false, false, false, false, false, false, false, false, false, false, false, false, false, false, false, false, false, false, false, false, false, false, false, false, false, false, false, false, false, false, false, false, false, false, false, false, false, false, false, false, false, false, false, false, false, false, false, false, false, false, false, false, false, false, false, false, false, false, false, false, false, false, false, false, false, false, false, false, false, false, false, false, false, false, false, false, false, false, false, false, false, false, false, false, false, false, false, false, false, false, false, false, false, false, false, false, false, false, false, false, false, false, false, false, false, false, false, false, true, true, true, true, true, true, true, true, true, true, true, true, true, true, true, true, true, true] rfl rfl rfl 0 rfl rfl rfl hl.1 rfl (Nat.le_of_ble_eq_true rfl) dX2_takeBack_36 ⟨Nat.le_of_ble_eq_true rfl, Nat.le_of_ble_eq_true rfl⟩ [] rfl (fun H locs hP hD hS => ?_)
    exact rst H locs hP hD hS
  | 7, _, hu, rst =>
    refine cm_V (As := [.ref (kn 7)]) (rest := []) (w2 := (W_N aN aG aU aR u1.1 ++ (W_G E aG u1.2.1 ++ (W_U E aU u1.2.2.1 ++ (W_R E aR u1.2.2.2 ++ (W_H aH aHA vH_6 ++ (W_NA E aHA 8 kn ++ (W_V8 E kn kg ku kr vHV)))))))) hx hb hml hown hg (c_X3_copyFrom E l aN aG aU aR (kn 7) (kg 7) (ku 7) (kr 7) vN vG vU vR ((vHV 7).1) ((vHV 7).2.1) ((vHV 7).2.2.1) ((vHV 7).2.2.2) u1 hu) cy_X3_copyFrom ml_X2_25 ⟨⟨rfl, rfl⟩, Nat.le_of_ble_eq_true rfl, Nat.le_of_ble_eq_true rfl⟩ hK hE hP hD hS hA [true, true, true, true, true, true, true, true, true, true, true, true, true, true, true, true, true, true, false, false, false, false, false, false, false, false, false, false, false, false, false, false, false, false, false, false, false, false, false, false, false, false, false, false, false, false, false, false, false, false, false, false, false, false, false, false, false, false, false, false, false, false, false, false, false, false, false, false, false, false, false, false, false, false, false, false, false, false, false, false, false, false, false, false, false, false, false, false, false, false, false, false, false, false, false, false, false, false, false, false, false, false, false, false, false, false, false, false, false, false, false, false, false, false, false, false, false, false, false, false, false, false, false, false, false, false, false, false, false, false, false, false, false, false, false, false, false, false, false, false, false, false, false, false, false, false, true, true, true, true, true, true, true, true, true, true, true, true, true, true, true, true, true, true] rfl rfl rfl 0 rfl rfl rfl hl.1 rfl (Nat.le_of_ble_eq_true rfl) dX2_takeBack_36 ⟨Nat.le_of_ble_eq_true rfl, Nat.le_of_ble_eq_true rfl⟩ [] rfl (fun H locs hP hD hS => ?_)
    exact rst H locs hP hD hS
  | k + 8, hk, _, _ => exact absurd hk (by omega)
def F_X6_put (vN : Nat → Int32) (vG : Nat → Nat → Int32) (vU : Nat → Nat → Int32) (vR : Nat → Nat → Int32) (vQF : Nat → Int32) (vQV : Nat → NV) (x1 : Int32) : Option ((Nat → Int32) × (Nat → NV)) := ck x1 2 (lt (Int32.toNatClampNeg x1) (fun j_3 => (F_X3_copyFrom_r vN vG vU vR ((vQV j_3).1) ((vQV j_3).2.1) ((vQV j_3).2.2.1) ((vQV j_3).2.2.2)).bind (fun u1 => ck x1 2 (lt (upd vQF (Int32.toNatClampNeg x1) 1) (fun vQF_3 => (some (vQF_3, (va_up vQV j_3 (u1.1, u1.2.1, u1.2.2.1, u1.2.2.2)))))))))
abbrev rm_X6_put : Room := { frames := 3, cells := 0, slots := 0, locals := 102 }
set_option maxHeartbeats 4000000 in
set_option maxRecDepth 100000 in
theorem c_X6_put (E : Ev) (l : Launch) (aN : Nat) (aG : Nat → Nat) (aU : Nat → Nat) (aR : Nat → Nat) (aQ : Nat) (aQA : Nat) (aQF : Nat) (qn : Nat → Nat) (qg : Nat → Nat → Nat) (qu : Nat → Nat → Nat) (qr : Nat → Nat → Nat) (vN : Nat → Int32) (vG : Nat → Nat → Int32) (vU : Nat → Nat → Int32) (vR : Nat → Nat → Int32) (vQF : Nat → Int32) (vQV : Nat → NV) (x1 : Int32) (r : (Nat → Int32) × (Nat → NV)) (hf : F_X6_put vN vG vU vR vQF vQV x1 = some r) : CM E l yX6_put (.code yX6_put cX6_put 3 none :: GA) rm_X6_put [.ref aQ, .int x1, .ref aN] (W_N aN aG aU aR vN ++ (W_G E aG vG ++ (W_U E aU vU ++ (W_R E aR vR ++ (W_Q aQ aQA aQF ++ (W_NA E aQA 2 qn ++ (W_Z E aQF 2 vQF ++ (W_V2 E qn qg qu qr vQV)))))))) none (W_N aN aG aU aR vN ++ (W_G E aG vG ++ (W_U E aU vU ++ (W_R E aR vR ++ (W_Q aQ aQA aQF ++ (W_NA E aQA 2 qn ++ (W_Z E aQF 2 r.1 ++ (W_V2 E qn qg qu qr r.2)))))))) := by
  refine CM.of (own := RX6) rfl (by decide) (Nat.le_of_ble_eq_true rfl) ?_
  intro p e s m below meth c A ls hx hb hr hml hown hg hlocks hK hE hA hP hD hS hl
  have hl : lv_has ls 3 [(0, .ref aQ), (1, .int x1), (2, .ref aN)] := hl
  unfold F_X6_put at hf
  refine lv_aload_n hx hb dX6_put_0 rfl (lv_at hl 0 rfl) ?_
  refine gf_X6_11 hx hb hg hown hK hP 18 rfl rfl dX6_put_1 ?_
  refine lv_iload_n hx hb dX6_put_4 rfl (lv_at hl 1 rfl) ?_
  obtain ⟨hi, hf⟩ := ck_o hf
  obtain ⟨j_3, hj_3, hf⟩ := lt_o hf
  have bj_3 : j_3 < 2 := by rw [hj_3]; exact Nat.not_le.mp fun q => hi (Or.inr q)
  refine ar_lq (f := qn) hx hb hK hP 19 rfl hi dX6_put_5 ?_
  rw [← hj_3]
  refine lv_aload_n hx hb dX6_put_6 rfl (lv_at hl 2 rfl) ?_
  obtain ⟨u1, hu, hf⟩ := bn hf
  have rst : ∀ (H : Heap) (locs : List Loc), va_P E.1 vwCl (W_N aN aG aU aR vN ++ (W_G E aG vG ++ (W_U E aU vU ++ (W_R E aR vR ++ (W_Q aQ aQA aQF ++ (W_NA E aQA 2 qn ++ (W_Z E aQF 2 vQF ++ (W_V2 E qn qg qu qr (va_up vQV j_3 (u1.1, u1.2.1, u1.2.2.1, u1.2.2.2)))))))))) H → va_D A (W_N aN aG aU aR vN ++ (W_G E aG vG ++ (W_U E aU vU ++ (W_R E aR vR ++ (W_Q aQ aQA aQF ++ (W_NA E aQA 2 qn ++ (W_Z E aQF 2 vQF ++ (W_V2 E qn qg qu qr (va_up vQV j_3 (u1.1, u1.2.1, u1.2.2.1, u1.2.2.2)))))))))) → va_S A s.heap H locs → W p l e rm_X6_put s m ([.ref aQ, .int x1, .ref aN] : List Value).toArray below meth c H locs 0 0 (MQ below (QW E none (W_N aN aG aU aR vN ++ (W_G E aG vG ++ (W_U E aU vU ++ (W_R E aR vR ++ (W_Q aQ aQA aQF ++ (W_NA E aQA 2 qn ++ (W_Z E aQF 2 r.1 ++ (W_V2 E qn qg qu qr r.2)))))))) A) ([.ref aQ, .int x1, .ref aN] : List Value).toArray s 0 0 A) (F0 m 10 ls []) := by
    intro H locs hP hD hS
    refine lv_aload_n hx hb dX6_put_10 rfl (lv_at hl 0 rfl) ?_
    refine gf_X6_17 hx hb hg hown hK hP 18 rfl rfl dX6_put_11 ?_
    refine lv_iload_n hx hb dX6_put_14 rfl (lv_at hl 1 rfl) ?_
    refine lv_iconst (v := 1) hx hb dX6_put_15 (by decide) ?_
    obtain ⟨hi, hf⟩ := ck_o hf
    refine az_st (w2 := (W_N aN aG aU aR vN ++ (W_G E aG vG ++ (W_U E aU vU ++ (W_R E aR vR ++ (W_Q aQ aQA aQF ++ (W_NA E aQA 2 qn ++ (W_Z E aQF 2 (upd vQF (Int32.toNatClampNeg x1) 1) ++ (W_V2 E qn qg qu qr (va_up vQV j_3 (u1.1, u1.2.1, u1.2.2.1, u1.2.2.2))))))))))) hx hb hK hP hD hS 20 rfl hi rfl rfl dX6_put_16 (fun H locs hP hD hS => ?_)
    obtain ⟨vQF_3, hv, hf⟩ := lt_o hf
    rw [← hv] at hP hD
    clear hv
    obtain rfl := Option.some.inj hf
    exact cm_vret hx hb hr hlocks hP hS dX6_put_17
  clear hf
  match j_3, bj_3, hu, rst with
  | 0, _, hu, rst =>
    refine cm_V (As := [.ref aN]) (rest := []) (w2 := (W_N aN aG aU aR vN ++ (W_G E aG vG ++ (W_U E aU vU ++ (W_R E aR vR ++ (W_Q aQ aQA aQF ++ (W_NA E aQA 2 qn ++ (W_Z E aQF 2 vQF ++ (W_V2 E qn qg qu qr (va_up vQV 0 (u1.1, u1.2.1, u1.2.2.1, u1.2.2.2))))))))))) hx hb hml hown hg (c_X3_copyFrom_r E l aN aG aU aR (qn 0) (qg 0) (qu 0) (qr 0) vN vG vU vR ((vQV 0).1) ((vQV 0).2.1) ((vQV 0).2.2.1) ((vQV 0).2.2.2) u1 hu) cy_X3_copyFrom ml_X6_22 ⟨⟨rfl, rfl⟩, Nat.le_of_ble_eq_true rfl, Nat.le_of_ble_eq_true rfl⟩ hK hE hP hD hS hA [true, true, true, true, true, true, true, true, true, true, true, true, true, true, true, true, true, true, false, false, false, true, true, true, true, true, true, true, true, true, true, true, true, true, true, true, true, true, true] rfl rfl rfl 21 rfl rfl rfl hl.1 rfl (Nat.le_of_ble_eq_true rfl) dX6_put_7 ⟨Nat.le_of_ble_eq_true rfl, Nat.le_of_ble_eq_true rfl⟩ [] rfl (fun H locs hP hD hS => ?_)
    exact rst H locs hP hD hS
  | 1, _, hu, rst =>
    refine cm_V (As := [.ref aN]) (rest := []) (w2 := (W_N aN aG aU aR vN ++ (W_G E aG vG ++ (W_U E aU vU ++ (W_R E aR vR ++ (W_Q aQ aQA aQF ++ (W_NA E aQA 2 qn ++ (W_Z E aQF 2 vQF ++ (W_V2 E qn qg qu qr (va_up vQV 1 (u1.1, u1.2.1, u1.2.2.1, u1.2.2.2))))))))))) hx hb hml hown hg (c_X3_copyFrom_r E l aN aG aU aR (qn 1) (qg 1) (qu 1) (qr 1) vN vG vU vR ((vQV 1).1) ((vQV 1).2.1) ((vQV 1).2.2.1) ((vQV 1).2.2.2) u1 hu) cy_X3_copyFrom ml_X6_22 ⟨⟨rfl, rfl⟩, Nat.le_of_ble_eq_true rfl, Nat.le_of_ble_eq_true rfl⟩ hK hE hP hD hS hA [true, true, true, true, true, true, true, true, true, true, true, true, true, true, true, true, true, true, false, false, false, false, false, false, false, false, false, false, false, false, false, false, false, false, false, false, false, false, false, true, true, true, true, true, true, true, true, true, true, true, true, true, true, true, true, true, true] rfl rfl rfl 39 rfl rfl rfl hl.1 rfl (Nat.le_of_ble_eq_true rfl) dX6_put_7 ⟨Nat.le_of_ble_eq_true rfl, Nat.le_of_ble_eq_true rfl⟩ [] rfl (fun H locs hP hD hS => ?_)
    exact rst H locs hP hD hS
  | k + 2, hk, _, _ => exact absurd hk (by omega)
def B_X6_empty_2 (rec : Int32 → (Nat → Int32) → Option ((Nat → Int32))) (x1 : Int32) (vQF : Nat → Int32) : Option ((Nat → Int32)) := (if 2 ≤ x1 then (some vQF) else ck x1 2 (lt (upd vQF (Int32.toNatClampNeg x1) 0) (fun vQF_4 => (rec (x1 + 1) vQF_4))))
def L_X6_empty_2 : Nat → Int32 → (Nat → Int32) → Option ((Nat → Int32))
  | 0 => fun _ _ => none
  | n + 1 => fun x1 vQF => B_X6_empty_2 (L_X6_empty_2 n) x1 vQF
def F_X6_empty (vQF : Nat → Int32) : Option ((Nat → Int32)) := (L_X6_empty_2 FU 0 vQF)
abbrev rm_X6_empty : Room := { frames := 0, cells := 0, slots := 0, locals := 0 }
set_option maxHeartbeats 4000000 in
set_option maxRecDepth 100000 in
theorem c_X6_empty (E : Ev) (l : Launch) (aQ : Nat) (aQA : Nat) (aQF : Nat) (vQF : Nat → Int32) (r : (Nat → Int32)) (hf : F_X6_empty vQF = some r) : CM E l yX6_empty (.code yX6_empty cX6_empty 2 none :: GA) rm_X6_empty [.ref aQ] (W_Q aQ aQA aQF ++ (W_Z E aQF 2 vQF)) none (W_Q aQ aQA aQF ++ (W_Z E aQF 2 r)) := by
  refine CM.of (own := RX6) rfl (by decide) (Nat.le_of_ble_eq_true rfl) ?_
  intro p e s m below meth c A ls hx hb hr hml hown hg hlocks hK hE hA hP hD hS hl
  have hl : lv_has ls 2 [(0, .ref aQ)] := hl
  have lp_2 : ∀ (n : Nat) (x1 : Int32) (vQF : Nat → Int32) (H : Heap) (locs : List Loc) (ls : Array Slot), L_X6_empty_2 n x1 vQF = some r → va_P E.1 vwCl (W_Q aQ aQA aQF ++ (W_Z E aQF 2 vQF)) H → va_D A (W_Q aQ aQA aQF ++ (W_Z E aQF 2 vQF)) → va_S A s.heap H locs → lv_has ls 2 [(0, .ref aQ), (1, .int x1)] → W p l e rm_X6_empty s m ([.ref aQ] : List Value).toArray below meth c H locs 0 0 (MQ below (QW E none (W_Q aQ aQA aQF ++ (W_Z E aQF 2 r)) A) ([.ref aQ] : List Value).toArray s 0 0 A) (F0 m 2 ls []) := by
    intro n
    induction n with
    | zero => intro x1 vQF H locs ls hf; cases hf
    | succ n ih =>
      intro x1 vQF H locs ls hf hP hD hS hl
      replace hf : B_X6_empty_2 (L_X6_empty_2 n) x1 vQF = some r := hf
      unfold B_X6_empty_2 at hf
      refine lv_iload_n hx hb dX6_empty_2 rfl (lv_at hl 1 rfl) ?_
      refine lv_iconst (v := 2) hx hb dX6_empty_3 (by decide) ?_
      refine lv_icmp_ge (tgt := 20) hx hb dX6_empty_4 (by decide) (fun cq => ?_) (fun cq => ?_)
      · have hf := it cq hf
        obtain rfl := Option.some.inj hf
        exact cm_vret hx hb hr hlocks hP hS dX6_empty_20
      · have hf := ie cq hf
        refine lv_aload_n hx hb dX6_empty_7 rfl (lv_at hl 0 rfl) ?_
        refine gf_X6_17 hx hb hg hown hK hP 0 rfl rfl dX6_empty_8 ?_
        refine lv_iload_n hx hb dX6_empty_11 rfl (lv_at hl 1 rfl) ?_
        refine lv_iconst (v := 0) hx hb dX6_empty_12 (by decide) ?_
        obtain ⟨hi, hf⟩ := ck_o hf
        refine az_st (w2 := (W_Q aQ aQA aQF ++ (W_Z E aQF 2 (upd vQF (Int32.toNatClampNeg x1) 0)))) hx hb hK hP hD hS 1 rfl hi rfl rfl dX6_empty_13 (fun H locs hP hD hS => ?_)
        obtain ⟨vQF_4, hv, hf⟩ := lt_o hf
        rw [← hv] at hP hD
        clear hv
        refine lv_iinc (v := (x1 + 1)) (lv' := [(1, .int (x1 + 1)), (0, .ref aQ)]) hx hb dX6_empty_14 hl (k := 1) rfl rfl (by decide) rfl (fun ls hl => ?_)
        refine lv_goto (tgt := 2) hx hb dX6_empty_17 (by decide) ?_
        exact ih _ _ _ _ _ hf hP hD hS (lv_sub hl [1, 0] rfl)
  unfold F_X6_empty at hf
  refine lv_iconst (v := 0) hx hb dX6_empty_0 (by decide) ?_
  refine lv_istore_n (lv' := [(1, .int 0), (0, .ref aQ)]) hx hb dX6_empty_1 rfl hl (by decide) rfl (fun ls hl => ?_)
  exact lp_2 FU _ _ _ _ _ hf hP hD hS (lv_sub hl [1, 0] rfl)
