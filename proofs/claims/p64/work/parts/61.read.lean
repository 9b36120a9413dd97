/-! the law's questions by naturals -/
def kS : Int32 := -102
def kA : Int32 := -103
def kN : Int32 := -101
def kI : Int32 := -104
theorem x1o : excO 1 = some kS := rfl
theorem x2o : excO 2 = some kA := rfl
theorem x3o : excO 3 = some kN := rfl
theorem x4o : excO 4 = some kI := rfl
theorem q_kS : -nI 102 = kS := rfl
theorem q_kA : -nI 103 = kA := rfl
theorem q_kN : -nI 101 = kN := rfl
theorem q_kI : -nI 104 = kI := rfl
theorem kd (x : Option (Int32 × KV)) : x.bind (fun u => some (u.1, u.2)) = x := by cases x <;> rfl
/-- the object holds the night D -/
def S7 (T : Nat) (v : KV) (D : Dn) : Prop := M8 v.2.2.1 v.2.2.2.1 v.2.2.2.2.1 v.2.2.2.2.2.1 D ∧ OkN T D
theorem nz_if (n : Nat) : nz n = if n = 0 then m1 else nI (n - 1) := rfl
theorem bad_n {G : Nat} (h : G < 2147483648) : badI (nI G) G := Or.inr ⟨G, Nat.le_refl _, h, rfl⟩
theorem past_ok {vX vN : Nat → Int32} {vG vU vR : Nat → Nat → Int32} {D : Dn} {T f t : Nat} (m : M8 vN vG vU vR D) (o : OkD T D) (h1 : f ≤ t) (h2 : t < D.mi) : F_X8_requirePassed vX vN (nI f) (nI t) = some 0 := by
  have hm := o.mi
  simp (disch := omega) only [F_X8_requirePassed, m.mi, q_lit, q_lt]
  rw [if_neg (by omega), if_neg (by omega), if_pos h2]
theorem past_bad {vX vN : Nat → Int32} {vG vU vR : Nat → Nat → Int32} {D : Dn} {T f t : Nat} (m : M8 vN vG vU vR D) (o : OkD T D) (hf : f < 100000) (ht : t < 100000) (h : t < f ∨ D.mi ≤ t) : F_X8_requirePassed vX vN (nI f) (nI t) = some 2 := by
  have hm := o.mi
  simp (disch := omega) only [F_X8_requirePassed, m.mi, q_lit, q_lt]
  rw [if_neg (by omega)]
  split
  · rfl
  · rw [if_neg (by omega)]
theorem past_neg {vX vN : Nat → Int32} {y : Int32} : F_X8_requirePassed vX vN m1 y = some 2 := rfl
theorem rng_ok {x lo hi : Nat} (h1 : lo ≤ x) (h2 : x ≤ hi) (h3 : hi < 100000) : F_X8_requireRange (nI x) (nI lo) (nI hi) = some 0 := by
  simp (disch := omega) only [F_X8_requireRange, q_lt, q_le]
  rw [if_neg (by omega), if_pos h2]
theorem rng_bad {x lo hi : Nat} (h : x < lo ∨ hi < x) (h0 : x < 100000) (h3 : hi < 100000) (h4 : lo < 100000) : F_X8_requireRange (nI x) (nI lo) (nI hi) = some 2 := by
  simp (disch := omega) only [F_X8_requireRange, q_lt, q_le]
  split
  · rfl
  · rw [if_neg (by omega)]
theorem kc2_1 (v : KV) (xa xb : Int32) : F_K_call_ v (nI 1) xa xb = F_arm_addUmbrella v xa xb := kd _
theorem kc1_2 (v : KV) (xa : Int32) : F_K_call__ v (nI 2) xa = F_arm_leave v xa := kd _
theorem kc1_3 (v : KV) (xa : Int32) : F_K_call__ v (nI 3) xa = F_arm_comeBack v xa := kd _
theorem kc1_4 (v : KV) (xa : Int32) : F_K_call__ v (nI 4) xa = F_arm_passMinutes v xa := kd _
theorem kc1_5 (v : KV) (xa : Int32) : F_K_call__ v (nI 5) xa = F_arm_walkDog v xa := kd _
theorem kc1_6 (v : KV) (xa : Int32) : F_K_call__ v (nI 6) xa = F_arm_setRain v xa := kd _
theorem kc1_7 (v : KV) (xa : Int32) : F_K_call__ v (nI 7) xa = F_arm_setNoiseLimit v xa := kd _
theorem kc1_8 (v : KV) (xa : Int32) : F_K_call__ v (nI 8) xa = F_arm_undo v  := kd _
theorem kc1_9 (v : KV) (xa : Int32) : F_K_call__ v (nI 9) xa = F_arm_saveSnapshot v xa := kd _
theorem kc1_10 (v : KV) (xa : Int32) : F_K_call__ v (nI 10) xa = F_arm_restoreSnapshot v xa := kd _
theorem kc1_11 (v : KV) (xa : Int32) : F_K_call__ v (nI 11) xa = F_arm_load v  := kd _
theorem kc5_12 (v : KV) (xa xb xc xd xe : Int32) : F_K_call v (nI 12) xa xb xc xd xe = F_arm_append v xa xb xc xd xe := rfl
theorem kc1_13 (v : KV) (xa : Int32) : F_K_call__ v (nI 13) xa = F_arm_shorten v xa := kd _
theorem kc1_14 (v : KV) (xa : Int32) : F_K_call__ v (nI 14) xa = F_arm_errorOffset v  := kd _
theorem kc1_18 (v : KV) (xa : Int32) : F_K_call__ v (nI 18) xa = F_arm_generosity v xa := kd _
theorem kc1_19 (v : KV) (xa : Int32) : F_K_call__ v (nI 19) xa = F_arm_bark v xa := kd _
theorem kc1_20 (v : KV) (xa : Int32) : F_K_call__ v (nI 20) xa = F_arm_isOut v xa := kd _
theorem kc1_21 (v : KV) (xa : Int32) : F_K_call__ v (nI 21) xa = F_arm_outSince v xa := kd _
theorem kc1_22 (v : KV) (xa : Int32) : F_K_call__ v (nI 22) xa = F_arm_soak v xa := kd _
theorem kc1_23 (v : KV) (xa : Int32) : F_K_call__ v (nI 23) xa = F_arm_wouldBark v xa := kd _
theorem kc1_24 (v : KV) (xa : Int32) : F_K_call__ v (nI 24) xa = F_arm_ownerOf v xa := kd _
theorem kc1_25 (v : KV) (xa : Int32) : F_K_call__ v (nI 25) xa = F_arm_wetness v xa := kd _
theorem kc1_26 (v : KV) (xa : Int32) : F_K_call__ v (nI 26) xa = F_arm_isInStand v xa := kd _
theorem kc1_27 (v : KV) (xa : Int32) : F_K_call__ v (nI 27) xa = F_arm_isUsable v xa := kd _
theorem kc1_28 (v : KV) (xa : Int32) : F_K_call__ v (nI 28) xa = F_arm_carrierOf v xa := kd _
theorem kc1_29 (v : KV) (xa : Int32) : F_K_call__ v (nI 29) xa = F_arm_umbrellaOf v xa := kd _
theorem kc1_30 (v : KV) (xa : Int32) : F_K_call__ v (nI 30) xa = F_arm_entryMinute v xa := kd _
theorem kc1_31 (v : KV) (xa : Int32) : F_K_call__ v (nI 31) xa = F_arm_entryGuest v xa := kd _
theorem kc1_32 (v : KV) (xa : Int32) : F_K_call__ v (nI 32) xa = F_arm_isLeaving v xa := kd _
theorem kc2_33 (v : KV) (xa xb : Int32) : F_K_call_ v (nI 33) xa xb = F_arm_wasOut v xa xb := kd _
theorem kc5_34 (v : KV) (xa xb xc xd xe : Int32) : F_K_call v (nI 34) xa xb xc xd xe = F_arm_hasAlibi v xa xb xc := rfl
theorem kc2_35 (v : KV) (xa xb : Int32) : F_K_call_ v (nI 35) xa xb = F_arm_suspects v xa xb := kd _
theorem kc2_36 (v : KV) (xa xb : Int32) : F_K_call_ v (nI 36) xa xb = F_arm_culprit v xa xb := kd _
theorem kc1_37 (v : KV) (xa : Int32) : F_K_call__ v (nI 37) xa = F_arm_minutesOut v xa := kd _
theorem kc2_38 (v : KV) (xa xb : Int32) : F_K_call_ v (nI 38) xa xb = F_arm_minutesTogether v xa xb := kd _
theorem kc1_39 (v : KV) (xa : Int32) : F_K_call__ v (nI 39) xa = F_arm_umbrellaFor v xa := kd _
theorem kc1_40 (v : KV) (xa : Int32) : F_K_call__ v (nI 40) xa = F_arm_tipOf v xa := kd _
theorem kc1_41 (v : KV) (xa : Int32) : F_K_call__ v (nI 41) xa = F_arm_complaintsAfter v xa := kd _
theorem kc1_42 (v : KV) (xa : Int32) : F_K_call__ v (nI 42) xa = F_arm_writeEntries v xa := kd _
theorem kc1_43 (v : KV) (xa : Int32) : F_K_call__ v (nI 43) xa = F_arm_writtenByte v xa := kd _
theorem kc2_34 (v : KV) (xa xb : Int32) : F_K_call_ v (nI 34) xa xb = F_arm_hasAlibi v xa xb 0 := kd _
theorem k18 {T : Nat} {v : KV} {D : Dn} (h : S7 T v D) {g : Nat} (hg : g < D.G) : F_K_call__ v (nI 18) (nI g) = some (nI (D.gi g), v) := by
  obtain ⟨m, o⟩ := h
  have hG := o.1.G
  have hU := o.1.U
  have hR := o.1.R
  have hm := o.2.2
  rw [kc1_18]
  simp (disch := omega) only [F_arm_generosity, F_X8_generosity, u_rG_ok m o.1 hg, m.gi, q_lit, q_neg, nI_add, pk_mul, q_sb, q_lt0, q_ck, q_cl, q_le, q_lt, q_eq, q_m1e, q_e1m, q_m1l, e10, e20, e30, e40, e21, e31, e41, e32, e42, e43, eq_self, if_true, if_false, q_cn0, q_cn1, e14, e12, e13, e24, e23, e34, x1o, x2o, x3o, x4o]
theorem k18b {T : Nat} {v : KV} {D : Dn} (h : S7 T v D)  : F_K_call__ v (nI 18) (nI D.G) = some (kI, v) := by
  obtain ⟨m, o⟩ := h
  have hG := o.1.G
  have hU := o.1.U
  have hR := o.1.R
  have hm := o.2.2
  rw [kc1_18]
  simp (disch := omega) only [F_arm_generosity, F_X8_generosity, u_rG_bad m o.1 (bad_n (G := D.G) (by omega)), q_lit, q_neg, nI_add, pk_mul, q_sb, q_lt0, q_ck, q_cl, q_le, q_lt, q_eq, q_m1e, q_e1m, q_m1l, e10, e20, e30, e40, e21, e31, e41, e32, e42, e43, eq_self, if_true, if_false, q_cn0, q_cn1, e14, e12, e13, e24, e23, e34, x1o, x2o, x3o, x4o]
theorem k19 {T : Nat} {v : KV} {D : Dn} (h : S7 T v D) {g : Nat} (hg : g < D.G) : F_K_call__ v (nI 19) (nI g) = some (nI (D.ba g), v) := by
  obtain ⟨m, o⟩ := h
  have hG := o.1.G
  have hU := o.1.U
  have hR := o.1.R
  have hm := o.2.2
  rw [kc1_19]
  simp (disch := omega) only [F_arm_bark, F_X8_bark, u_rG_ok m o.1 hg, m.ba, q_lit, q_neg, nI_add, pk_mul, q_sb, q_lt0, q_ck, q_cl, q_le, q_lt, q_eq, q_m1e, q_e1m, q_m1l, e10, e20, e30, e40, e21, e31, e41, e32, e42, e43, eq_self, if_true, if_false, q_cn0, q_cn1, e14, e12, e13, e24, e23, e34, x1o, x2o, x3o, x4o]
theorem k20 {T : Nat} {v : KV} {D : Dn} (h : S7 T v D) {g : Nat} (hg : g < D.G) : F_K_call__ v (nI 20) (nI g) = some (nI (D.ou g), v) := by
  obtain ⟨m, o⟩ := h
  have hG := o.1.G
  have hU := o.1.U
  have hR := o.1.R
  have hm := o.2.2
  rw [kc1_20]
  have h1 := o.1.ou g hg
  rcases Nat.le_one_iff_eq_zero_or_eq_one.mp h1 with h | h
  all_goals simp (disch := omega) only [F_arm_isOut, F_X8_isOut, u_rG_ok m o.1 hg, u_isAway m o.1 hg, h, q_lit, q_neg, nI_add, pk_mul, q_sb, q_lt0, q_ck, q_cl, q_le, q_lt, q_eq, q_m1e, q_e1m, q_m1l, e10, e20, e30, e40, e21, e31, e41, e32, e42, e43, eq_self, if_true, if_false, q_cn0, q_cn1, e14, e12, e13, e24, e23, e34, x1o, x2o, x3o, x4o]
theorem k21 {T : Nat} {v : KV} {D : Dn} (h : S7 T v D) {g : Nat} (hg : g < D.G) : F_K_call__ v (nI 21) (nI g) = some (if D.ou g = 0 then kN else nI (D.si g), v) := by
  obtain ⟨m, o⟩ := h
  have hG := o.1.G
  have hU := o.1.U
  have hR := o.1.R
  have hm := o.2.2
  rw [kc1_21]
  have h1 := o.1.ou g hg
  rcases Nat.le_one_iff_eq_zero_or_eq_one.mp h1 with h | h
  all_goals simp (disch := omega) only [F_arm_outSince, F_X8_outSince, u_rG_ok m o.1 hg, u_isAway m o.1 hg, m.si, h, q_lit, q_neg, nI_add, pk_mul, q_sb, q_lt0, q_ck, q_cl, q_le, q_lt, q_eq, q_m1e, q_e1m, q_m1l, e10, e20, e30, e40, e21, e31, e41, e32, e42, e43, eq_self, if_true, if_false, q_cn0, q_cn1, e14, e12, e13, e24, e23, e34, x1o, x2o, x3o, x4o]
theorem k22 {T : Nat} {v : KV} {D : Dn} (h : S7 T v D) {g : Nat} (hg : g < D.G) : F_K_call__ v (nI 22) (nI g) = some (nI (D.so g), v) := by
  obtain ⟨m, o⟩ := h
  have hG := o.1.G
  have hU := o.1.U
  have hR := o.1.R
  have hm := o.2.2
  rw [kc1_22]
  simp (disch := omega) only [F_arm_soak, F_X8_soak, u_rG_ok m o.1 hg, m.so, q_lit, q_neg, nI_add, pk_mul, q_sb, q_lt0, q_ck, q_cl, q_le, q_lt, q_eq, q_m1e, q_e1m, q_m1l, e10, e20, e30, e40, e21, e31, e41, e32, e42, e43, eq_self, if_true, if_false, q_cn0, q_cn1, e14, e12, e13, e24, e23, e34, x1o, x2o, x3o, x4o]
theorem k23 {T : Nat} {v : KV} {D : Dn} (h : S7 T v D) {g : Nat} (hg : g < D.G) : F_K_call__ v (nI 23) (nI g) = some (nI (barksD D g (D.mi + 1)).toNat, v) := by
  obtain ⟨m, o⟩ := h
  have hG := o.1.G
  have hU := o.1.U
  have hR := o.1.R
  have hm := o.2.2
  rw [kc1_23]
  have h2 := u_barks m o.1 hg (t := D.mi + 1) (by omega) (by omega)
  cases hb : barksD D g (D.mi + 1)
  all_goals rw [hb] at h2
  all_goals simp (disch := omega) only [F_arm_wouldBark, F_X8_wouldBark, u_rG_ok m o.1 hg, m.mi, h2, Bool.toNat_false, Bool.toNat_true, q_lit, q_neg, nI_add, pk_mul, q_sb, q_lt0, q_ck, q_cl, q_le, q_lt, q_eq, q_m1e, q_e1m, q_m1l, e10, e20, e30, e40, e21, e31, e41, e32, e42, e43, eq_self, if_true, if_false, q_cn0, q_cn1, e14, e12, e13, e24, e23, e34, x1o, x2o, x3o, x4o]
theorem k24 {T : Nat} {v : KV} {D : Dn} (h : S7 T v D) {u : Nat} (hg : u < D.U) : F_K_call__ v (nI 24) (nI u) = some (nI (D.ow u), v) := by
  obtain ⟨m, o⟩ := h
  have hG := o.1.G
  have hU := o.1.U
  have hR := o.1.R
  have hm := o.2.2
  rw [kc1_24]
  simp (disch := omega) only [F_arm_ownerOf, F_X8_ownerOf, u_rU_ok m o.1 hg, m.ow, q_lit, q_neg, nI_add, pk_mul, q_sb, q_lt0, q_ck, q_cl, q_le, q_lt, q_eq, q_m1e, q_e1m, q_m1l, e10, e20, e30, e40, e21, e31, e41, e32, e42, e43, eq_self, if_true, if_false, q_cn0, q_cn1, e14, e12, e13, e24, e23, e34, x1o, x2o, x3o, x4o]
theorem k25 {T : Nat} {v : KV} {D : Dn} (h : S7 T v D) {u : Nat} (hg : u < D.U) : F_K_call__ v (nI 25) (nI u) = some (nI (D.we u), v) := by
  obtain ⟨m, o⟩ := h
  have hG := o.1.G
  have hU := o.1.U
  have hR := o.1.R
  have hm := o.2.2
  rw [kc1_25]
  simp (disch := omega) only [F_arm_wetness, F_X8_wetness, u_rU_ok m o.1 hg, m.we, q_lit, q_neg, nI_add, pk_mul, q_sb, q_lt0, q_ck, q_cl, q_le, q_lt, q_eq, q_m1e, q_e1m, q_m1l, e10, e20, e30, e40, e21, e31, e41, e32, e42, e43, eq_self, if_true, if_false, q_cn0, q_cn1, e14, e12, e13, e24, e23, e34, x1o, x2o, x3o, x4o]
theorem k25b {T : Nat} {v : KV} {D : Dn} (h : S7 T v D)  : F_K_call__ v (nI 25) (nI D.U) = some (kI, v) := by
  obtain ⟨m, o⟩ := h
  have hG := o.1.G
  have hU := o.1.U
  have hR := o.1.R
  have hm := o.2.2
  rw [kc1_25]
  simp (disch := omega) only [F_arm_wetness, F_X8_wetness, u_rU_bad m o.1 (bad_n (G := D.U) (by omega)), q_lit, q_neg, nI_add, pk_mul, q_sb, q_lt0, q_ck, q_cl, q_le, q_lt, q_eq, q_m1e, q_e1m, q_m1l, e10, e20, e30, e40, e21, e31, e41, e32, e42, e43, eq_self, if_true, if_false, q_cn0, q_cn1, e14, e12, e13, e24, e23, e34, x1o, x2o, x3o, x4o]
theorem k26 {T : Nat} {v : KV} {D : Dn} (h : S7 T v D) {u : Nat} (hg : u < D.U) : F_K_call__ v (nI 26) (nI u) = some (if D.ca u = 0 then nI 1 else nI 0, v) := by
  obtain ⟨m, o⟩ := h
  have hG := o.1.G
  have hU := o.1.U
  have hR := o.1.R
  have hm := o.2.2
  rw [kc1_26]
  by_cases h : D.ca u = 0
  all_goals simp (disch := omega) only [F_arm_isInStand, F_X8_isInStand, u_rU_ok m o.1 hg, u_stands m o.1 hg, h, q_lit, q_neg, nI_add, pk_mul, q_sb, q_lt0, q_ck, q_cl, q_le, q_lt, q_eq, q_m1e, q_e1m, q_m1l, e10, e20, e30, e40, e21, e31, e41, e32, e42, e43, eq_self, if_true, if_false, q_cn0, q_cn1, e14, e12, e13, e24, e23, e34, x1o, x2o, x3o, x4o]
theorem k27 {T : Nat} {v : KV} {D : Dn} (h : S7 T v D) {u : Nat} (hg : u < D.U) : F_K_call__ v (nI 27) (nI u) = some (if D.ca u = 0 ∧ D.we u ≤ 50 then nI 1 else nI 0, v) := by
  obtain ⟨m, o⟩ := h
  have hG := o.1.G
  have hU := o.1.U
  have hR := o.1.R
  have hm := o.2.2
  rw [kc1_27]
  by_cases h : D.ca u = 0 ∧ D.we u ≤ 50
  all_goals simp (disch := omega) only [F_arm_isUsable, F_X8_isUsable, u_rU_ok m o.1 hg, u_dry m o.1 hg, h, and_self, q_lit, q_neg, nI_add, pk_mul, q_sb, q_lt0, q_ck, q_cl, q_le, q_lt, q_eq, q_m1e, q_e1m, q_m1l, e10, e20, e30, e40, e21, e31, e41, e32, e42, e43, eq_self, if_true, if_false, q_cn0, q_cn1, e14, e12, e13, e24, e23, e34, x1o, x2o, x3o, x4o]
theorem k28 {T : Nat} {v : KV} {D : Dn} (h : S7 T v D) {u : Nat} (hg : u < D.U) : F_K_call__ v (nI 28) (nI u) = some (if D.ca u = 0 then kN else nI (D.ca u - 1), v) := by
  obtain ⟨m, o⟩ := h
  have hG := o.1.G
  have hU := o.1.U
  have hR := o.1.R
  have hm := o.2.2
  rw [kc1_28]
  have h1 := o.1.ca u hg
  by_cases h : D.ca u = 0
  all_goals simp (disch := omega) only [F_arm_carrierOf, F_X8_carrierOf, u_rU_ok m o.1 hg, u_stands m o.1 hg, m.ca, h, q_lit, q_neg, nI_add, pk_mul, q_sb, q_lt0, q_ck, q_cl, q_le, q_lt, q_eq, q_m1e, q_e1m, q_m1l, e10, e20, e30, e40, e21, e31, e41, e32, e42, e43, eq_self, if_true, if_false, q_cn0, q_cn1, e14, e12, e13, e24, e23, e34, x1o, x2o, x3o, x4o]
theorem k29 {T : Nat} {v : KV} {D : Dn} (h : S7 T v D) {g : Nat} (hg : g < D.G) : F_K_call__ v (nI 29) (nI g) = some (if carr D g = 0 then kN else nI (carr D g - 1), v) := by
  obtain ⟨m, o⟩ := h
  have hG := o.1.G
  have hU := o.1.U
  have hR := o.1.R
  have hm := o.2.2
  rw [kc1_29]
  have h1 := fst1_nz (fun u => decide (D.ca u = g + 1)) D.U _ 0 rfl
  have h2 := fstF_ok (fun u => decide (D.ca u = g + 1)) D.U _ 0 rfl
  unfold carr
  cases hf : fstF (fun u => decide (D.ca u = g + 1)) D.U 0
  all_goals rw [hf] at h1 h2
  all_goals simp (disch := omega) only [F_arm_umbrellaOf, F_X8_umbrellaOf, u_rG_ok m o.1 hg, u_carried m o.1 hg, h1, nz_0, nz_s, q_m1n, Nat.add_sub_cancel, Nat.succ_ne_zero, q_lit, q_neg, nI_add, pk_mul, q_sb, q_lt0, q_ck, q_cl, q_le, q_lt, q_eq, q_m1e, q_e1m, q_m1l, e10, e20, e30, e40, e21, e31, e41, e32, e42, e43, eq_self, if_true, if_false, q_cn0, q_cn1, e14, e12, e13, e24, e23, e34, x1o, x2o, x3o, x4o]
theorem k30 {T : Nat} {v : KV} {D : Dn} (h : S7 T v D) {j : Nat} (hg : j < D.R) : F_K_call__ v (nI 30) (nI j) = some (nI (D.ew j), v) := by
  obtain ⟨m, o⟩ := h
  have hG := o.1.G
  have hU := o.1.U
  have hR := o.1.R
  have hm := o.2.2
  rw [kc1_30]
  simp (disch := omega) only [F_arm_entryMinute, F_X8_entryMinute, u_rE_ok m o.1 hg, m.ew, q_lit, q_neg, nI_add, pk_mul, q_sb, q_lt0, q_ck, q_cl, q_le, q_lt, q_eq, q_m1e, q_e1m, q_m1l, e10, e20, e30, e40, e21, e31, e41, e32, e42, e43, eq_self, if_true, if_false, q_cn0, q_cn1, e14, e12, e13, e24, e23, e34, x1o, x2o, x3o, x4o]
theorem k30b {T : Nat} {v : KV} {D : Dn} (h : S7 T v D)  : F_K_call__ v (nI 30) (nI D.R) = some (kI, v) := by
  obtain ⟨m, o⟩ := h
  have hG := o.1.G
  have hU := o.1.U
  have hR := o.1.R
  have hm := o.2.2
  rw [kc1_30]
  simp (disch := omega) only [F_arm_entryMinute, F_X8_entryMinute, u_rE_bad m o.1 (bad_n (G := D.R) (by omega)), q_lit, q_neg, nI_add, pk_mul, q_sb, q_lt0, q_ck, q_cl, q_le, q_lt, q_eq, q_m1e, q_e1m, q_m1l, e10, e20, e30, e40, e21, e31, e41, e32, e42, e43, eq_self, if_true, if_false, q_cn0, q_cn1, e14, e12, e13, e24, e23, e34, x1o, x2o, x3o, x4o]
theorem k31 {T : Nat} {v : KV} {D : Dn} (h : S7 T v D) {j : Nat} (hg : j < D.R) : F_K_call__ v (nI 31) (nI j) = some (nI (D.eg j), v) := by
  obtain ⟨m, o⟩ := h
  have hG := o.1.G
  have hU := o.1.U
  have hR := o.1.R
  have hm := o.2.2
  rw [kc1_31]
  simp (disch := omega) only [F_arm_entryGuest, F_X8_entryGuest, u_rE_ok m o.1 hg, m.eg, q_lit, q_neg, nI_add, pk_mul, q_sb, q_lt0, q_ck, q_cl, q_le, q_lt, q_eq, q_m1e, q_e1m, q_m1l, e10, e20, e30, e40, e21, e31, e41, e32, e42, e43, eq_self, if_true, if_false, q_cn0, q_cn1, e14, e12, e13, e24, e23, e34, x1o, x2o, x3o, x4o]
theorem k32 {T : Nat} {v : KV} {D : Dn} (h : S7 T v D) {j : Nat} (hg : j < D.R) : F_K_call__ v (nI 32) (nI j) = some (nI (D.el j), v) := by
  obtain ⟨m, o⟩ := h
  have hG := o.1.G
  have hU := o.1.U
  have hR := o.1.R
  have hm := o.2.2
  rw [kc1_32]
  have h1 := o.1.el j hg
  rcases Nat.le_one_iff_eq_zero_or_eq_one.mp h1 with h | h
  all_goals simp (disch := omega) only [F_arm_isLeaving, F_X8_isLeaving, u_rE_ok m o.1 hg, m.el, h, e4345, q_lit, q_neg, nI_add, pk_mul, q_sb, q_lt0, q_ck, q_cl, q_le, q_lt, q_eq, q_m1e, q_e1m, q_m1l, e10, e20, e30, e40, e21, e31, e41, e32, e42, e43, eq_self, if_true, if_false, q_cn0, q_cn1, e14, e12, e13, e24, e23, e34, x1o, x2o, x3o, x4o]
theorem k33 {T : Nat} {v : KV} {D : Dn} (h : S7 T v D) {g f : Nat} (hg : g < D.G) (hf : f < D.mi) : F_K_call_ v (nI 33) (nI g) (nI f) = some (if ansF D g g f (f + 1) = 0 then nI 0 else nI 1, v) := by
  obtain ⟨m, o⟩ := h
  have hG := o.1.G
  have hU := o.1.U
  have hR := o.1.R
  have hm := o.2.2
  rw [kc2_33]
  have h5 := u_wAT m o.1 (g := g) (by omega) (Nat.le_refl f) hf
  by_cases ha : ansF D g g f (f + 1) = 0
  all_goals simp (disch := omega) only [F_arm_wasOut, F_X8_wasOut, u_rG_ok m o.1 hg, past_ok m o.1 (Nat.le_refl f) hf, h5, ha, q_lit, q_neg, nI_add, pk_mul, q_sb, q_lt0, q_ck, q_cl, q_le, q_lt, q_eq, q_m1e, q_e1m, q_m1l, e10, e20, e30, e40, e21, e31, e41, e32, e42, e43, eq_self, if_true, if_false, q_cn0, q_cn1, e14, e12, e13, e24, e23, e34, x1o, x2o, x3o, x4o]
theorem k33n {T : Nat} {v : KV} {D : Dn} (h : S7 T v D)  : F_K_call_ v (nI 33) (nI 0) (nI D.mi) = some (if D.G = 0 then kI else kA, v) := by
  obtain ⟨m, o⟩ := h
  have hG := o.1.G
  have hU := o.1.U
  have hR := o.1.R
  have hm := o.2.2
  rw [kc2_33]
  by_cases hz : D.G = 0
  · simp (disch := omega) only [F_arm_wasOut, F_X8_wasOut, hz, u_rG_bad m o.1 (show badI (nI 0) D.G from Or.inr ⟨0, by omega, by omega, rfl⟩), q_lit, q_neg, nI_add, pk_mul, q_sb, q_lt0, q_ck, q_cl, q_le, q_lt, q_eq, q_m1e, q_e1m, q_m1l, e10, e20, e30, e40, e21, e31, e41, e32, e42, e43, eq_self, if_true, if_false, q_cn0, q_cn1, e14, e12, e13, e24, e23, e34, x1o, x2o, x3o, x4o]
  have h9 := u_rG_ok (vX := v.1) m o.1 (show 0 < D.G by omega)
  simp (disch := omega) only [F_arm_wasOut, F_X8_wasOut, hz, h9, past_bad m o.1 (show D.mi < 100000 by omega) (show D.mi < 100000 by omega) (Or.inr (Nat.le_refl _)), q_lit, q_neg, nI_add, pk_mul, q_sb, q_lt0, q_ck, q_cl, q_le, q_lt, q_eq, q_m1e, q_e1m, q_m1l, e10, e20, e30, e40, e21, e31, e41, e32, e42, e43, eq_self, if_true, if_false, q_cn0, q_cn1, e14, e12, e13, e24, e23, e34, x1o, x2o, x3o, x4o]
theorem k34 {T : Nat} {v : KV} {D : Dn} (h : S7 T v D) {g f t : Nat} {xd xe : Int32} (hg : g < D.G) (hf : f ≤ t) (ht : t < D.mi) : F_K_call v (nI 34) (nI g) (nI f) (nI t) xd xe = some (if ansF D g g f (t + 1) = 0 then nI 1 else nI 0, v) := by
  obtain ⟨m, o⟩ := h
  have hG := o.1.G
  have hU := o.1.U
  have hR := o.1.R
  have hm := o.2.2
  rw [kc5_34]
  have h5 := u_wAT m o.1 (g := g) (by omega) hf ht
  by_cases ha : ansF D g g f (t + 1) = 0
  all_goals simp (disch := omega) only [F_arm_hasAlibi, F_X8_hasAlibi, u_rG_ok m o.1 hg, past_ok m o.1 hf ht, h5, ha, q_lit, q_neg, nI_add, pk_mul, q_sb, q_lt0, q_ck, q_cl, q_le, q_lt, q_eq, q_m1e, q_e1m, q_m1l, e10, e20, e30, e40, e21, e31, e41, e32, e42, e43, eq_self, if_true, if_false, q_cn0, q_cn1, e14, e12, e13, e24, e23, e34, x1o, x2o, x3o, x4o]
theorem k35 {T : Nat} {v : KV} {D : Dn} (h : S7 T v D) {f t : Nat} (hf : f ≤ t) (ht : t < D.mi) : F_K_call_ v (nI 35) (nI f) (nI t) = some (nI (cntF (fun k => decide (ansF D k k f (t + 1) ≠ 0)) D.G), v) := by
  obtain ⟨m, o⟩ := h
  have hG := o.1.G
  have hU := o.1.U
  have hR := o.1.R
  have hm := o.2.2
  rw [kc2_35]
  simp (disch := omega) only [F_arm_suspects, F_X8_suspects, past_ok m o.1 hf ht, u_cS m o.1 hf ht, q_lit, q_neg, nI_add, pk_mul, q_sb, q_lt0, q_ck, q_cl, q_le, q_lt, q_eq, q_m1e, q_e1m, q_m1l, e10, e20, e30, e40, e21, e31, e41, e32, e42, e43, eq_self, if_true, if_false, q_cn0, q_cn1, e14, e12, e13, e24, e23, e34, x1o, x2o, x3o, x4o]
theorem k35b {T : Nat} {v : KV} {D : Dn} (h : S7 T v D) {f t : Nat} (hf : f < 100000) (ht : t < 100000) (hb : t < f ∨ D.mi ≤ t) : F_K_call_ v (nI 35) (nI f) (nI t) = some (kA, v) := by
  obtain ⟨m, o⟩ := h
  have hG := o.1.G
  have hU := o.1.U
  have hR := o.1.R
  have hm := o.2.2
  rw [kc2_35]
  simp (disch := omega) only [F_arm_suspects, F_X8_suspects, past_bad m o.1 hf ht hb, q_lit, q_neg, nI_add, pk_mul, q_sb, q_lt0, q_ck, q_cl, q_le, q_lt, q_eq, q_m1e, q_e1m, q_m1l, e10, e20, e30, e40, e21, e31, e41, e32, e42, e43, eq_self, if_true, if_false, q_cn0, q_cn1, e14, e12, e13, e24, e23, e34, x1o, x2o, x3o, x4o]
theorem k36 {T : Nat} {v : KV} {D : Dn} (h : S7 T v D) {f t : Nat} (hf : f ≤ t) (ht : t < D.mi) : F_K_call_ v (nI 36) (nI f) (nI t) = some (if cntF (fun k => decide (ansF D k k f (t + 1) ≠ 0)) D.G = 1 then fst1 (fun k => decide (ansF D k k f (t + 1) ≠ 0)) D.G 0 else kN, v) := by
  obtain ⟨m, o⟩ := h
  have hG := o.1.G
  have hU := o.1.U
  have hR := o.1.R
  have hm := o.2.2
  rw [kc2_36]
  have hc := cntF_le (fun k => decide (ansF D k k f (t + 1) ≠ 0)) D.G
  by_cases h1c : cntF (fun k => decide (ansF D k k f (t + 1) ≠ 0)) D.G = 1
  all_goals simp (disch := omega) only [F_arm_culprit, F_X8_culprit, past_ok m o.1 hf ht, u_cS m o.1 hf ht, u_fS m o.1 hf ht, h1c, q_lit, q_neg, nI_add, pk_mul, q_sb, q_lt0, q_ck, q_cl, q_le, q_lt, q_eq, q_m1e, q_e1m, q_m1l, e10, e20, e30, e40, e21, e31, e41, e32, e42, e43, eq_self, if_true, if_false, q_cn0, q_cn1, e14, e12, e13, e24, e23, e34, x1o, x2o, x3o, x4o]
theorem k36b {T : Nat} {v : KV} {D : Dn} (h : S7 T v D) {y : Int32} : F_K_call_ v (nI 36) m1 y = some (kA, v) := by
  obtain ⟨m, o⟩ := h
  have hG := o.1.G
  have hU := o.1.U
  have hR := o.1.R
  have hm := o.2.2
  rw [kc2_36]
  simp (disch := omega) only [F_arm_culprit, F_X8_culprit, past_neg, q_lit, q_neg, nI_add, pk_mul, q_sb, q_lt0, q_ck, q_cl, q_le, q_lt, q_eq, q_m1e, q_e1m, q_m1l, e10, e20, e30, e40, e21, e31, e41, e32, e42, e43, eq_self, if_true, if_false, q_cn0, q_cn1, e14, e12, e13, e24, e23, e34, x1o, x2o, x3o, x4o]
theorem k37 {T : Nat} {v : KV} {D : Dn} (h : S7 T v D) {g : Nat} (hg : g < D.G) : F_K_call__ v (nI 37) (nI g) = some (nI (ansF D g g 0 D.mi), v) := by
  obtain ⟨m, o⟩ := h
  have hG := o.1.G
  have hU := o.1.U
  have hR := o.1.R
  have hm := o.2.2
  rw [kc1_37]
  have h1 := u_mA m o.1 (g := g) (h := g) (f := 0) (e := D.mi) (by omega) (by omega) (Nat.zero_le _) (by omega)
  simp (disch := omega) only [F_arm_minutesOut, F_X8_minutesOut, F_X3_sumOfMinutesAway, m.mi, u_rG_ok m o.1 hg, h1, q_lit, q_neg, nI_add, pk_mul, q_sb, q_lt0, q_ck, q_cl, q_le, q_lt, q_eq, q_m1e, q_e1m, q_m1l, e10, e20, e30, e40, e21, e31, e41, e32, e42, e43, eq_self, if_true, if_false, q_cn0, q_cn1, e14, e12, e13, e24, e23, e34, x1o, x2o, x3o, x4o]
theorem k38 {T : Nat} {v : KV} {D : Dn} (h : S7 T v D) {g k : Nat} (hg : g < D.G) (hk : k < D.G) : F_K_call_ v (nI 38) (nI g) (nI k) = some (nI (ansF D g k 0 D.mi), v) := by
  obtain ⟨m, o⟩ := h
  have hG := o.1.G
  have hU := o.1.U
  have hR := o.1.R
  have hm := o.2.2
  rw [kc2_38]
  have h1 := u_mA m o.1 (g := g) (h := k) (f := 0) (e := D.mi) (by omega) (by omega) (Nat.zero_le _) (by omega)
  simp (disch := omega) only [F_arm_minutesTogether, F_X8_minutesTogether, F_X3_sumOfMinutesAway, m.mi, u_rG_ok m o.1 hg, u_rG_ok m o.1 hk, h1, q_lit, q_neg, nI_add, pk_mul, q_sb, q_lt0, q_ck, q_cl, q_le, q_lt, q_eq, q_m1e, q_e1m, q_m1l, e10, e20, e30, e40, e21, e31, e41, e32, e42, e43, eq_self, if_true, if_false, q_cn0, q_cn1, e14, e12, e13, e24, e23, e34, x1o, x2o, x3o, x4o]
theorem k39 {T : Nat} {v : KV} {D : Dn} (h : S7 T v D) {g : Nat} (hg : g < D.G) : F_K_call__ v (nI 39) (nI g) = some (if D.ou g = 0 then (if takeD D g = 0 then kN else nI (takeD D g - 1)) else kS, v) := by
  obtain ⟨m, o⟩ := h
  have hG := o.1.G
  have hU := o.1.U
  have hR := o.1.R
  have hm := o.2.2
  rw [kc1_39]
  have h1 := o.1.ou g hg
  have h2 := takeD_le o.1 g
  rcases Nat.le_one_iff_eq_zero_or_eq_one.mp h1 with h | h
  · cases hf : takeD D g
    all_goals rw [hf] at h2
    all_goals simp (disch := omega) only [F_arm_umbrellaFor, F_X8_umbrellaFor, u_rG_ok m o.1 hg, u_isAway m o.1 hg, h, u_take m o.1 hg, hf, nz_0, nz_s, q_m1n, Nat.zero_le, Nat.add_sub_cancel, Nat.succ_ne_zero, q_lit, q_neg, nI_add, pk_mul, q_sb, q_lt0, q_ck, q_cl, q_le, q_lt, q_eq, q_m1e, q_e1m, q_m1l, e10, e20, e30, e40, e21, e31, e41, e32, e42, e43, eq_self, if_true, if_false, q_cn0, q_cn1, e14, e12, e13, e24, e23, e34, x1o, x2o, x3o, x4o]
  simp (disch := omega) only [F_arm_umbrellaFor, F_X8_umbrellaFor, u_rG_ok m o.1 hg, u_isAway m o.1 hg, h, q_lit, q_neg, nI_add, pk_mul, q_sb, q_lt0, q_ck, q_cl, q_le, q_lt, q_eq, q_m1e, q_e1m, q_m1l, e10, e20, e30, e40, e21, e31, e41, e32, e42, e43, eq_self, if_true, if_false, q_cn0, q_cn1, e14, e12, e13, e24, e23, e34, x1o, x2o, x3o, x4o]
theorem k40 {T : Nat} {v : KV} {D : Dn} (h : S7 T v D) {g : Nat} (hg : g < D.G) : F_K_call__ v (nI 40) (nI g) = some (if D.ou g = 0 then kS else nI (tipD D g), v) := by
  obtain ⟨m, o⟩ := h
  have hG := o.1.G
  have hU := o.1.U
  have hR := o.1.R
  have hm := o.2.2
  rw [kc1_40]
  have h1 := o.1.ou g hg
  rcases Nat.le_one_iff_eq_zero_or_eq_one.mp h1 with h | h
  all_goals simp (disch := omega) only [F_arm_tipOf, F_X8_tipOf, u_rG_ok m o.1 hg, u_isAway m o.1 hg, u_tip m o.1 hg, h, q_lit, q_neg, nI_add, pk_mul, q_sb, q_lt0, q_ck, q_cl, q_le, q_lt, q_eq, q_m1e, q_e1m, q_m1l, e10, e20, e30, e40, e21, e31, e41, e32, e42, e43, eq_self, if_true, if_false, q_cn0, q_cn1, e14, e12, e13, e24, e23, e34, x1o, x2o, x3o, x4o]
theorem k41 {T : Nat} {v : KV} {D : Dn} (h : S7 T v D) {n : Nat} (hn : n ≤ 240) : F_K_call__ v (nI 41) (nI n) = some (nI (passN D n).co, v) := by
  obtain ⟨m, o⟩ := h
  have hG := o.1.G
  have hU := o.1.U
  have hR := o.1.R
  have hm := o.2.2
  rw [kc1_41]
  have h1 := rng_ok (Nat.zero_le n) hn (by omega)
  simp (disch := omega) only [F_arm_complaintsAfter, F_X8_complaintsAfter, h1, u_fore m o hn, q_lit, q_neg, nI_add, pk_mul, q_sb, q_lt0, q_ck, q_cl, q_le, q_lt, q_eq, q_m1e, q_e1m, q_m1l, e10, e20, e30, e40, e21, e31, e41, e32, e42, e43, eq_self, if_true, if_false, q_cn0, q_cn1, e14, e12, e13, e24, e23, e34, x1o, x2o, x3o, x4o]
theorem k41b {T : Nat} {v : KV} {D : Dn} (h : S7 T v D)  : F_K_call__ v (nI 41) (nI 241) = some (kA, v) := by
  obtain ⟨m, o⟩ := h
  have hG := o.1.G
  have hU := o.1.U
  have hR := o.1.R
  have hm := o.2.2
  rw [kc1_41]
  have h1 := rng_bad (x := 241) (lo := 0) (hi := 240) (by omega) (by omega) (by omega) (by omega)
  simp (disch := omega) only [F_arm_complaintsAfter, F_X8_complaintsAfter, h1, q_lit, q_neg, nI_add, pk_mul, q_sb, q_lt0, q_ck, q_cl, q_le, q_lt, q_eq, q_m1e, q_e1m, q_m1l, e10, e20, e30, e40, e21, e31, e41, e32, e42, e43, eq_self, if_true, if_false, q_cn0, q_cn1, e14, e12, e13, e24, e23, e34, x1o, x2o, x3o, x4o]
theorem k42b {T : Nat} {v : KV} {D : Dn} (h : S7 T v D)  : F_K_call__ v (nI 42) (nI D.G) = some (kI, v) := by
  obtain ⟨m, o⟩ := h
  have hG := o.1.G
  have hU := o.1.U
  have hR := o.1.R
  have hm := o.2.2
  rw [kc1_42]
  simp (disch := omega) only [F_arm_writeEntries, F_X8_writeEntries, u_rG_bad m o.1 (bad_n (G := D.G) (by omega)), q_lit, q_neg, nI_add, pk_mul, q_sb, q_lt0, q_ck, q_cl, q_le, q_lt, q_eq, q_m1e, q_e1m, q_m1l, e10, e20, e30, e40, e21, e31, e41, e32, e42, e43, eq_self, if_true, if_false, q_cn0, q_cn1, e14, e12, e13, e24, e23, e34, x1o, x2o, x3o, x4o]
theorem k43b {T : Nat} {v : KV} {D : Dn} (h : S7 T v D) (hw : v.2.2.2.2.2.2.2.2.2.2.2.2.2.2.2 0 0 = nI 0) : F_K_call__ v (nI 43) (nI 0) = some (kI, v) := by
  obtain ⟨m, o⟩ := h
  have hG := o.1.G
  have hU := o.1.U
  have hR := o.1.R
  have hm := o.2.2
  rw [kc1_43]
  simp (disch := omega) only [F_arm_writtenByte, F_X8_writtenByte, hw, Nat.lt_irrefl, q_lit, q_neg, nI_add, pk_mul, q_sb, q_lt0, q_ck, q_cl, q_le, q_lt, q_eq, q_m1e, q_e1m, q_m1l, e10, e20, e30, e40, e21, e31, e41, e32, e42, e43, eq_self, if_true, if_false, q_cn0, q_cn1, e14, e12, e13, e24, e23, e34, x1o, x2o, x3o, x4o]
theorem k14b {T : Nat} {v : KV} {D : Dn} (h : S7 T v D) {xa : Int32} (hw : v.1 0 = m1) : F_K_call__ v (nI 14) xa = some (kN, v) := by
  obtain ⟨m, o⟩ := h
  have hG := o.1.G
  have hU := o.1.U
  have hR := o.1.R
  have hm := o.2.2
  rw [kc1_14]
  simp (disch := omega) only [F_arm_errorOffset, F_X8_errorOffset, hw, q_lit, q_neg, nI_add, pk_mul, q_sb, q_lt0, q_ck, q_cl, q_le, q_lt, q_eq, q_m1e, q_e1m, q_m1l, e10, e20, e30, e40, e21, e31, e41, e32, e42, e43, eq_self, if_true, if_false, q_cn0, q_cn1, e14, e12, e13, e24, e23, e34, x1o, x2o, x3o, x4o]
