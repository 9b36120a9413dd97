def F_X9_isWord (vM : (Nat → Int32) × Int64) (x1 : Int64) : Option (Int32) := (if (vM.1 6) = 1 then (if (lg_cmp (vM.2) x1) = 0 then (some 1) else (some 0)) else (some 0))
abbrev rm_X9_isWord : Room := { frames := 0, cells := 0, slots := 0, locals := 0 }
set_option maxHeartbeats 4000000 in
set_option maxRecDepth 100000 in
theorem c_X9_isWord (E : Ev) (l : Launch) (aM : Nat → Nat) (vM : (Nat → Int32) × Int64) (x1 : Int64) (r : Int32) (hf : F_X9_isWord vM x1 = some r) : CM E l yX9_isWord (.code yX9_isWord cX9_isWord 3 (some .boolean) :: GA) rm_X9_isWord [.ref (aM 0), .long x1] (W_M aM vM) (some (.int r)) (W_M aM vM) := by
  refine CM.of (own := RX9) rfl (by decide) (Nat.le_of_ble_eq_true rfl) ?_
  intro p e s m below meth c A ls hx hb hr hml hown hg hlocks hK hE hA hP hD hS hl
  have hl : lv_has ls 3 [(0, .ref (aM 0)), (1, .long x1)] := hl
  unfold F_X9_isWord at hf
  refine lv_aload_n hx hb dX9_isWord_0 rfl (lv_at hl 0 rfl) ?_
  refine gf_X9_150 hx hb hg hown hK hP 0 rfl rfl dX9_isWord_1 ?_
  refine lv_iconst (v := 1) hx hb dX9_isWord_4 (by decide) ?_
  refine lv_icmp_ne (tgt := 21) hx hb dX9_isWord_5 (by decide) (fun cq => ?_) (fun cq => ?_)
  · have hf := ie cq hf
    refine lv_iconst (v := 0) hx hb dX9_isWord_21 (by decide) ?_
    obtain rfl := Option.some.inj hf
    exact cm_zret (v := 0) hx hb hr hlocks hP hS rfl dX9_isWord_22
  · have hf := it cq hf
    refine lv_aload_n hx hb dX9_isWord_8 rfl (lv_at hl 0 rfl) ?_
    refine gf_X9_146 hx hb hg hown hK hP 0 rfl rfl dX9_isWord_9 ?_
    refine lv_lload_n hx hb dX9_isWord_12 rfl (lv_at hl 1 rfl) ?_
    refine W.lcmp hx hb dX9_isWord_13 ?_
    refine lv_if_ne (tgt := 21) hx hb dX9_isWord_14 (by decide) (fun cq => ?_) (fun cq => ?_)
    · have hf := ie cq hf
      refine lv_iconst (v := 0) hx hb dX9_isWord_21 (by decide) ?_
      obtain rfl := Option.some.inj hf
      exact cm_zret (v := 0) hx hb hr hlocks hP hS rfl dX9_isWord_22
    · have hf := it cq hf
      refine lv_iconst (v := 1) hx hb dX9_isWord_17 (by decide) ?_
      refine lv_goto (tgt := 22) hx hb dX9_isWord_18 (by decide) ?_
      obtain rfl := Option.some.inj hf
      exact cm_zret (v := 1) hx hb hr hlocks hP hS rfl dX9_isWord_22
def F_X9_wordName (vM : (Nat → Int32) × Int64) : Option (Int32) := (if (vM.1 6) = 1 then (if 5 < ((vM.1 4) - (vM.1 5)) then (some 0) else (some (Int64.toInt32 (vM.2)))) else (some 0))
abbrev rm_X9_wordName : Room := { frames := 0, cells := 0, slots := 0, locals := 0 }
set_option maxHeartbeats 4000000 in
set_option maxRecDepth 100000 in
theorem c_X9_wordName (E : Ev) (l : Launch) (aM : Nat → Nat) (vM : (Nat → Int32) × Int64) (r : Int32) (hf : F_X9_wordName vM = some r) : CM E l yX9_wordName (.code yX9_wordName cX9_wordName 1 (some .int) :: GA) rm_X9_wordName [.ref (aM 0)] (W_M aM vM) (some (.int r)) (W_M aM vM) := by
  refine CM.of (own := RX9) rfl (by decide) (Nat.le_of_ble_eq_true rfl) ?_
  intro p e s m below meth c A ls hx hb hr hml hown hg hlocks hK hE hA hP hD hS hl
  have hl : lv_has ls 1 [(0, .ref (aM 0))] := hl
  unfold F_X9_wordName at hf
  refine lv_aload_n hx hb dX9_wordName_0 rfl (lv_at hl 0 rfl) ?_
  refine gf_X9_150 hx hb hg hown hK hP 0 rfl rfl dX9_wordName_1 ?_
  refine lv_iconst (v := 1) hx hb dX9_wordName_4 (by decide) ?_
  refine lv_icmp_ne (tgt := 27) hx hb dX9_wordName_5 (by decide) (fun cq => ?_) (fun cq => ?_)
  · have hf := ie cq hf
    refine lv_iconst (v := 0) hx hb dX9_wordName_27 (by decide) ?_
    obtain rfl := Option.some.inj hf
    exact cm_iret hx hb hr hlocks hP hS dX9_wordName_28
  · have hf := it cq hf
    refine lv_aload_n hx hb dX9_wordName_8 rfl (lv_at hl 0 rfl) ?_
    refine gf_X9_137 hx hb hg hown hK hP 0 rfl rfl dX9_wordName_9 ?_
    refine lv_aload_n hx hb dX9_wordName_12 rfl (lv_at hl 0 rfl) ?_
    refine gf_X9_140 hx hb hg hown hK hP 0 rfl rfl dX9_wordName_13 ?_
    refine lv_isub hx hb dX9_wordName_16 ?_
    refine lv_iconst (v := 5) hx hb dX9_wordName_17 (by decide) ?_
    refine lv_icmp_gt (tgt := 27) hx hb dX9_wordName_18 (by decide) (fun cq => ?_) (fun cq => ?_)
    · have hf := it cq hf
      refine lv_iconst (v := 0) hx hb dX9_wordName_27 (by decide) ?_
      obtain rfl := Option.some.inj hf
      exact cm_iret hx hb hr hlocks hP hS dX9_wordName_28
    · have hf := ie cq hf
      refine lv_aload_n hx hb dX9_wordName_21 rfl (lv_at hl 0 rfl) ?_
      refine gf_X9_146 hx hb hg hown hK hP 0 rfl rfl dX9_wordName_22 ?_
      refine lv_l2i (v := (Int64.toInt32 (vM.2))) hx hb dX9_wordName_25 rfl ?_
      obtain rfl := Option.some.inj hf
      exact cm_iret hx hb hr hlocks hP hS dX9_wordName_26
def F_X9_hasError (vM : (Nat → Int32) × Int64) : Option (Int32 × ((Nat → Int32) × Int64)) := lt (va_up vM.1 3 0, vM.2) (fun vM_3 => (some ((if (vM_3.1 2) < 0 then 0 else 1), vM_3)))
abbrev rm_X9_hasError : Room := { frames := 0, cells := 0, slots := 0, locals := 0 }
set_option maxHeartbeats 4000000 in
set_option maxRecDepth 100000 in
theorem c_X9_hasError (E : Ev) (l : Launch) (aM : Nat → Nat) (vM : (Nat → Int32) × Int64) (r : Int32 × ((Nat → Int32) × Int64)) (hf : F_X9_hasError vM = some r) : CM E l yX9_hasError (.code yX9_hasError cX9_hasError 1 (some .boolean) :: GA) rm_X9_hasError [.ref (aM 0)] (W_M aM vM) (some (.int r.1)) (W_M aM r.2) := by
  refine CM.of (own := RX9) rfl (by decide) (Nat.le_of_ble_eq_true rfl) ?_
  intro p e s m below meth c A ls hx hb hr hml hown hg hlocks hK hE hA hP hD hS hl
  have hl : lv_has ls 1 [(0, .ref (aM 0))] := hl
  unfold F_X9_hasError at hf
  refine lv_aload_n hx hb dX9_hasError_0 rfl (lv_at hl 0 rfl) ?_
  refine lv_iconst (v := 0) hx hb dX9_hasError_1 (by decide) ?_
  refine pf_X9_48 (w2 := (W_M aM (va_up vM.1 3 0, vM.2))) hx hb hg hown hK hP hD hS 0 rfl (Nat.le_of_ble_eq_true rfl) rfl dX9_hasError_2 (fun H locs hP hD hS => ?_)
  obtain ⟨vM_3, hv, hf⟩ := lt_o hf
  rw [← hv] at hP hD
  clear hv
  refine lv_aload_n hx hb dX9_hasError_5 rfl (lv_at hl 0 rfl) ?_
  refine gf_X9_32 hx hb hg hown hK hP 0 rfl rfl dX9_hasError_6 ?_
  refine wj (F0 m 17 ls [.int (if (vM_3.1 2) < 0 then 0 else 1)]) ?_ (fun jk => ?_)
  rotate_left
  · refine lv_if_lt (tgt := 16) hx hb dX9_hasError_9 (by decide) (fun cq => ?_) (fun cq => ?_)
    · rw [if_pos cq] at jk
      refine lv_iconst (v := 0) hx hb dX9_hasError_16 (by decide) ?_
      exact jk
    · rw [if_neg cq] at jk
      refine lv_iconst (v := 1) hx hb dX9_hasError_12 (by decide) ?_
      refine lv_goto (tgt := 17) hx hb dX9_hasError_13 (by decide) ?_
      exact jk
  obtain rfl := Option.some.inj hf
  exact cm_zret (v := (if (vM_3.1 2) < 0 then 0 else 1)) hx hb hr hlocks hP hS (by split <;> rfl) dX9_hasError_17
def F_X9_errorOffset (vM : (Nat → Int32) × Int64) : Option (Int32 × ((Nat → Int32) × Int64)) := lt (va_up vM.1 3 0, vM.2) (fun vM_3 => (if 0 ≤ (vM_3.1 2) then (some ((vM_3.1 2), vM_3)) else (F_X9_fails vM_3 1).bind (fun u1 => (some (u1.1, u1.2)))))
abbrev rm_X9_errorOffset : Room := { frames := 1, cells := 0, slots := 0, locals := 21 }
set_option maxHeartbeats 4000000 in
set_option maxRecDepth 100000 in
theorem c_X9_errorOffset (E : Ev) (l : Launch) (aM : Nat → Nat) (vM : (Nat → Int32) × Int64) (r : Int32 × ((Nat → Int32) × Int64)) (hf : F_X9_errorOffset vM = some r) : CM E l yX9_errorOffset (.code yX9_errorOffset cX9_errorOffset 1 (some .int) :: GA) rm_X9_errorOffset [.ref (aM 0)] (W_M aM vM) (some (.int r.1)) (W_M aM r.2) := by
  refine CM.of (own := RX9) rfl (by decide) (Nat.le_of_ble_eq_true rfl) ?_
  intro p e s m below meth c A ls hx hb hr hml hown hg hlocks hK hE hA hP hD hS hl
  have hl : lv_has ls 1 [(0, .ref (aM 0))] := hl
  unfold F_X9_errorOffset at hf
  refine lv_aload_n hx hb dX9_errorOffset_0 rfl (lv_at hl 0 rfl) ?_
  refine lv_iconst (v := 0) hx hb dX9_errorOffset_1 (by decide) ?_
  refine pf_X9_48 (w2 := (W_M aM (va_up vM.1 3 0, vM.2))) hx hb hg hown hK hP hD hS 0 rfl (Nat.le_of_ble_eq_true rfl) rfl dX9_errorOffset_2 (fun H locs hP hD hS => ?_)
  obtain ⟨vM_3, hv, hf⟩ := lt_o hf
  rw [← hv] at hP hD
  clear hv
  refine lv_aload_n hx hb dX9_errorOffset_5 rfl (lv_at hl 0 rfl) ?_
  refine gf_X9_32 hx hb hg hown hK hP 0 rfl rfl dX9_errorOffset_6 ?_
  refine lv_if_ge (tgt := 18) hx hb dX9_errorOffset_9 (by decide) (fun cq => ?_) (fun cq => ?_)
  · have hf := it cq hf
    refine lv_aload_n hx hb dX9_errorOffset_18 rfl (lv_at hl 0 rfl) ?_
    refine gf_X9_32 hx hb hg hown hK hP 0 rfl rfl dX9_errorOffset_19 ?_
    obtain rfl := Option.some.inj hf
    exact cm_iret hx hb hr hlocks hP hS dX9_errorOffset_22
  · have hf := ie cq hf
    refine lv_aload_n hx hb dX9_errorOffset_12 rfl (lv_at hl 0 rfl) ?_
    refine lv_iconst (v := 1) hx hb dX9_errorOffset_13 (by decide) ?_
    obtain ⟨u1, hu1, hf⟩ := bn hf
    refine cm_V (As := [.int 1]) (rest := []) (w2 := (W_M aM u1.2)) hx hb hml hown hg (c_X9_fails E l aM vM_3 1 u1 hu1) cy_X9_fails ml_X9_133 ⟨⟨rfl, rfl⟩, Nat.le_of_ble_eq_true rfl, Nat.le_of_ble_eq_true rfl⟩ hK hE hP hD hS hA [true] rfl rfl rfl 0 rfl rfl rfl hl.1 rfl (Nat.le_of_ble_eq_true rfl) dX9_errorOffset_14 ⟨Nat.le_of_ble_eq_true rfl, Nat.le_of_ble_eq_true rfl⟩ [.int u1.1] rfl (fun H locs hP hD hS => ?_)
    obtain rfl := Option.some.inj hf
    exact cm_iret hx hb hr hlocks hP hS dX9_errorOffset_17
def F_X9_minute (vM : (Nat → Int32) × Int64) (vnow : Nat → Int32) : Option (Int32 × ((Nat → Int32) × Int64)) := lt (va_up vM.1 3 0, vM.2) (fun vM_3 => ck 0 306 ((some ((vnow (Int32.toNatClampNeg 0)), vM_3))))
abbrev rm_X9_minute : Room := { frames := 0, cells := 0, slots := 0, locals := 0 }
set_option maxHeartbeats 4000000 in
set_option maxRecDepth 100000 in
theorem c_X9_minute (E : Ev) (l : Launch) (aM : Nat → Nat) (vM : (Nat → Int32) × Int64) (vnow : Nat → Int32) (r : Int32 × ((Nat → Int32) × Int64)) (hf : F_X9_minute vM vnow = some r) : CM E l yX9_minute (.code yX9_minute cX9_minute 1 (some .int) :: GA) rm_X9_minute [.ref (aM 0)] (W_M aM vM ++ (W_A E (aM 1) 306 vnow)) (some (.int r.1)) (W_M aM r.2 ++ (W_A E (aM 1) 306 vnow)) := by
  refine CM.of (own := RX9) rfl (by decide) (Nat.le_of_ble_eq_true rfl) ?_
  intro p e s m below meth c A ls hx hb hr hml hown hg hlocks hK hE hA hP hD hS hl
  have hl : lv_has ls 1 [(0, .ref (aM 0))] := hl
  unfold F_X9_minute at hf
  refine lv_aload_n hx hb dX9_minute_0 rfl (lv_at hl 0 rfl) ?_
  refine lv_iconst (v := 0) hx hb dX9_minute_1 (by decide) ?_
  refine pf_X9_48 (w2 := (W_M aM (va_up vM.1 3 0, vM.2) ++ (W_A E (aM 1) 306 vnow))) hx hb hg hown hK hP hD hS 0 rfl (Nat.le_of_ble_eq_true rfl) rfl dX9_minute_2 (fun H locs hP hD hS => ?_)
  obtain ⟨vM_3, hv, hf⟩ := lt_o hf
  rw [← hv] at hP hD
  clear hv
  refine lv_aload_n hx hb dX9_minute_5 rfl (lv_at hl 0 rfl) ?_
  refine gf_X9_7 hx hb hg hown hK hP 0 rfl rfl dX9_minute_6 ?_
  refine lv_iconst (v := 0) hx hb dX9_minute_9 (by decide) ?_
  obtain ⟨hi, hf⟩ := ck_o hf
  refine ar_ld hx hb hK hP 1 rfl hi dX9_minute_10 ?_
  obtain rfl := Option.some.inj hf
  exact cm_iret hx hb hr hlocks hP hS dX9_minute_11
def F_X9_rain (vM : (Nat → Int32) × Int64) (vnow : Nat → Int32) : Option (Int32 × ((Nat → Int32) × Int64)) := lt (va_up vM.1 3 0, vM.2) (fun vM_3 => ck 1 306 ((some ((vnow (Int32.toNatClampNeg 1)), vM_3))))
abbrev rm_X9_rain : Room := { frames := 0, cells := 0, slots := 0, locals := 0 }
set_option maxHeartbeats 4000000 in
set_option maxRecDepth 100000 in
theorem c_X9_rain (E : Ev) (l : Launch) (aM : Nat → Nat) (vM : (Nat → Int32) × Int64) (vnow : Nat → Int32) (r : Int32 × ((Nat → Int32) × Int64)) (hf : F_X9_rain vM vnow = some r) : CM E l yX9_rain (.code yX9_rain cX9_rain 1 (some .int) :: GA) rm_X9_rain [.ref (aM 0)] (W_M aM vM ++ (W_A E (aM 1) 306 vnow)) (some (.int r.1)) (W_M aM r.2 ++ (W_A E (aM 1) 306 vnow)) := by
  refine CM.of (own := RX9) rfl (by decide) (Nat.le_of_ble_eq_true rfl) ?_
  intro p e s m below meth c A ls hx hb hr hml hown hg hlocks hK hE hA hP hD hS hl
  have hl : lv_has ls 1 [(0, .ref (aM 0))] := hl
  unfold F_X9_rain at hf
  refine lv_aload_n hx hb dX9_rain_0 rfl (lv_at hl 0 rfl) ?_
  refine lv_iconst (v := 0) hx hb dX9_rain_1 (by decide) ?_
  refine pf_X9_48 (w2 := (W_M aM (va_up vM.1 3 0, vM.2) ++ (W_A E (aM 1) 306 vnow))) hx hb hg hown hK hP hD hS 0 rfl (Nat.le_of_ble_eq_true rfl) rfl dX9_rain_2 (fun H locs hP hD hS => ?_)
  obtain ⟨vM_3, hv, hf⟩ := lt_o hf
  rw [← hv] at hP hD
  clear hv
  refine lv_aload_n hx hb dX9_rain_5 rfl (lv_at hl 0 rfl) ?_
  refine gf_X9_7 hx hb hg hown hK hP 0 rfl rfl dX9_rain_6 ?_
  refine lv_iconst (v := 1) hx hb dX9_rain_9 (by decide) ?_
  obtain ⟨hi, hf⟩ := ck_o hf
  refine ar_ld hx hb hK hP 1 rfl hi dX9_rain_10 ?_
  obtain rfl := Option.some.inj hf
  exact cm_iret hx hb hr hlocks hP hS dX9_rain_11
def F_X9_noiseLimit (vM : (Nat → Int32) × Int64) (vnow : Nat → Int32) : Option (Int32 × ((Nat → Int32) × Int64)) := lt (va_up vM.1 3 0, vM.2) (fun vM_3 => ck 2 306 ((some ((vnow (Int32.toNatClampNeg 2)), vM_3))))
abbrev rm_X9_noiseLimit : Room := { frames := 0, cells := 0, slots := 0, locals := 0 }
set_option maxHeartbeats 4000000 in
set_option maxRecDepth 100000 in
theorem c_X9_noiseLimit (E : Ev) (l : Launch) (aM : Nat → Nat) (vM : (Nat → Int32) × Int64) (vnow : Nat → Int32) (r : Int32 × ((Nat → Int32) × Int64)) (hf : F_X9_noiseLimit vM vnow = some r) : CM E l yX9_noiseLimit (.code yX9_noiseLimit cX9_noiseLimit 1 (some .int) :: GA) rm_X9_noiseLimit [.ref (aM 0)] (W_M aM vM ++ (W_A E (aM 1) 306 vnow)) (some (.int r.1)) (W_M aM r.2 ++ (W_A E (aM 1) 306 vnow)) := by
  refine CM.of (own := RX9) rfl (by decide) (Nat.le_of_ble_eq_true rfl) ?_
  intro p e s m below meth c A ls hx hb hr hml hown hg hlocks hK hE hA hP hD hS hl
  have hl : lv_has ls 1 [(0, .ref (aM 0))] := hl
  unfold F_X9_noiseLimit at hf
  refine lv_aload_n hx hb dX9_noiseLimit_0 rfl (lv_at hl 0 rfl) ?_
  refine lv_iconst (v := 0) hx hb dX9_noiseLimit_1 (by decide) ?_
  refine pf_X9_48 (w2 := (W_M aM (va_up vM.1 3 0, vM.2) ++ (W_A E (aM 1) 306 vnow))) hx hb hg hown hK hP hD hS 0 rfl (Nat.le_of_ble_eq_true rfl) rfl dX9_noiseLimit_2 (fun H locs hP hD hS => ?_)
  obtain ⟨vM_3, hv, hf⟩ := lt_o hf
  rw [← hv] at hP hD
  clear hv
  refine lv_aload_n hx hb dX9_noiseLimit_5 rfl (lv_at hl 0 rfl) ?_
  refine gf_X9_7 hx hb hg hown hK hP 0 rfl rfl dX9_noiseLimit_6 ?_
  refine lv_iconst (v := 2) hx hb dX9_noiseLimit_9 (by decide) ?_
  obtain ⟨hi, hf⟩ := ck_o hf
  refine ar_ld hx hb hK hP 1 rfl hi dX9_noiseLimit_10 ?_
  obtain rfl := Option.some.inj hf
  exact cm_iret hx hb hr hlocks hP hS dX9_noiseLimit_11
def F_X9_noise (vM : (Nat → Int32) × Int64) (vnow : Nat → Int32) : Option (Int32 × ((Nat → Int32) × Int64)) := lt (va_up vM.1 3 0, vM.2) (fun vM_3 => ck 3 306 ((some ((vnow (Int32.toNatClampNeg 3)), vM_3))))
abbrev rm_X9_noise : Room := { frames := 0, cells := 0, slots := 0, locals := 0 }
set_option maxHeartbeats 4000000 in
set_option maxRecDepth 100000 in
theorem c_X9_noise (E : Ev) (l : Launch) (aM : Nat → Nat) (vM : (Nat → Int32) × Int64) (vnow : Nat → Int32) (r : Int32 × ((Nat → Int32) × Int64)) (hf : F_X9_noise vM vnow = some r) : CM E l yX9_noise (.code yX9_noise cX9_noise 1 (some .int) :: GA) rm_X9_noise [.ref (aM 0)] (W_M aM vM ++ (W_A E (aM 1) 306 vnow)) (some (.int r.1)) (W_M aM r.2 ++ (W_A E (aM 1) 306 vnow)) := by
  refine CM.of (own := RX9) rfl (by decide) (Nat.le_of_ble_eq_true rfl) ?_
  intro p e s m below meth c A ls hx hb hr hml hown hg hlocks hK hE hA hP hD hS hl
  have hl : lv_has ls 1 [(0, .ref (aM 0))] := hl
  unfold F_X9_noise at hf
  refine lv_aload_n hx hb dX9_noise_0 rfl (lv_at hl 0 rfl) ?_
  refine lv_iconst (v := 0) hx hb dX9_noise_1 (by decide) ?_
  refine pf_X9_48 (w2 := (W_M aM (va_up vM.1 3 0, vM.2) ++ (W_A E (aM 1) 306 vnow))) hx hb hg hown hK hP hD hS 0 rfl (Nat.le_of_ble_eq_true rfl) rfl dX9_noise_2 (fun H locs hP hD hS => ?_)
  obtain ⟨vM_3, hv, hf⟩ := lt_o hf
  rw [← hv] at hP hD
  clear hv
  refine lv_aload_n hx hb dX9_noise_5 rfl (lv_at hl 0 rfl) ?_
  refine gf_X9_7 hx hb hg hown hK hP 0 rfl rfl dX9_noise_6 ?_
  refine lv_iconst (v := 3) hx hb dX9_noise_9 (by decide) ?_
  obtain ⟨hi, hf⟩ := ck_o hf
  refine ar_ld hx hb hK hP 1 rfl hi dX9_noise_10 ?_
  obtain rfl := Option.some.inj hf
  exact cm_iret hx hb hr hlocks hP hS dX9_noise_11
def F_X9_complaints (vM : (Nat → Int32) × Int64) (vnow : Nat → Int32) : Option (Int32 × ((Nat → Int32) × Int64)) := lt (va_up vM.1 3 0, vM.2) (fun vM_3 => ck 4 306 ((some ((vnow (Int32.toNatClampNeg 4)), vM_3))))
abbrev rm_X9_complaints : Room := { frames := 0, cells := 0, slots := 0, locals := 0 }
set_option maxHeartbeats 4000000 in
set_option maxRecDepth 100000 in
theorem c_X9_complaints (E : Ev) (l : Launch) (aM : Nat → Nat) (vM : (Nat → Int32) × Int64) (vnow : Nat → Int32) (r : Int32 × ((Nat → Int32) × Int64)) (hf : F_X9_complaints vM vnow = some r) : CM E l yX9_complaints (.code yX9_complaints cX9_complaints 1 (some .int) :: GA) rm_X9_complaints [.ref (aM 0)] (W_M aM vM ++ (W_A E (aM 1) 306 vnow)) (some (.int r.1)) (W_M aM r.2 ++ (W_A E (aM 1) 306 vnow)) := by
  refine CM.of (own := RX9) rfl (by decide) (Nat.le_of_ble_eq_true rfl) ?_
  intro p e s m below meth c A ls hx hb hr hml hown hg hlocks hK hE hA hP hD hS hl
  have hl : lv_has ls 1 [(0, .ref (aM 0))] := hl
  unfold F_X9_complaints at hf
  refine lv_aload_n hx hb dX9_complaints_0 rfl (lv_at hl 0 rfl) ?_
  refine lv_iconst (v := 0) hx hb dX9_complaints_1 (by decide) ?_
  refine pf_X9_48 (w2 := (W_M aM (va_up vM.1 3 0, vM.2) ++ (W_A E (aM 1) 306 vnow))) hx hb hg hown hK hP hD hS 0 rfl (Nat.le_of_ble_eq_true rfl) rfl dX9_complaints_2 (fun H locs hP hD hS => ?_)
  obtain ⟨vM_3, hv, hf⟩ := lt_o hf
  rw [← hv] at hP hD
  clear hv
  refine lv_aload_n hx hb dX9_complaints_5 rfl (lv_at hl 0 rfl) ?_
  refine gf_X9_7 hx hb hg hown hK hP 0 rfl rfl dX9_complaints_6 ?_
  refine lv_iconst (v := 4) hx hb dX9_complaints_9 (by decide) ?_
  obtain ⟨hi, hf⟩ := ck_o hf
  refine ar_ld hx hb hK hP 1 rfl hi dX9_complaints_10 ?_
  obtain rfl := Option.some.inj hf
  exact cm_iret hx hb hr hlocks hP hS dX9_complaints_11
def F_X9_puddle (vM : (Nat → Int32) × Int64) (vnow : Nat → Int32) : Option (Int32 × ((Nat → Int32) × Int64)) := lt (va_up vM.1 3 0, vM.2) (fun vM_3 => ck 5 306 ((some ((vnow (Int32.toNatClampNeg 5)), vM_3))))
abbrev rm_X9_puddle : Room := { frames := 0, cells := 0, slots := 0, locals := 0 }
set_option maxHeartbeats 4000000 in
set_option maxRecDepth 100000 in
theorem c_X9_puddle (E : Ev) (l : Launch) (aM : Nat → Nat) (vM : (Nat → Int32) × Int64) (vnow : Nat → Int32) (r : Int32 × ((Nat → Int32) × Int64)) (hf : F_X9_puddle vM vnow = some r) : CM E l yX9_puddle (.code yX9_puddle cX9_puddle 1 (some .int) :: GA) rm_X9_puddle [.ref (aM 0)] (W_M aM vM ++ (W_A E (aM 1) 306 vnow)) (some (.int r.1)) (W_M aM r.2 ++ (W_A E (aM 1) 306 vnow)) := by
  refine CM.of (own := RX9) rfl (by decide) (Nat.le_of_ble_eq_true rfl) ?_
  intro p e s m below meth c A ls hx hb hr hml hown hg hlocks hK hE hA hP hD hS hl
  have hl : lv_has ls 1 [(0, .ref (aM 0))] := hl
  unfold F_X9_puddle at hf
  refine lv_aload_n hx hb dX9_puddle_0 rfl (lv_at hl 0 rfl) ?_
  refine lv_iconst (v := 0) hx hb dX9_puddle_1 (by decide) ?_
  refine pf_X9_48 (w2 := (W_M aM (va_up vM.1 3 0, vM.2) ++ (W_A E (aM 1) 306 vnow))) hx hb hg hown hK hP hD hS 0 rfl (Nat.le_of_ble_eq_true rfl) rfl dX9_puddle_2 (fun H locs hP hD hS => ?_)
  obtain ⟨vM_3, hv, hf⟩ := lt_o hf
  rw [← hv] at hP hD
  clear hv
  refine lv_aload_n hx hb dX9_puddle_5 rfl (lv_at hl 0 rfl) ?_
  refine gf_X9_7 hx hb hg hown hK hP 0 rfl rfl dX9_puddle_6 ?_
  refine lv_iconst (v := 5) hx hb dX9_puddle_9 (by decide) ?_
  obtain ⟨hi, hf⟩ := ck_o hf
  refine ar_ld hx hb hK hP 1 rfl hi dX9_puddle_10 ?_
  obtain rfl := Option.some.inj hf
  exact cm_iret hx hb hr hlocks hP hS dX9_puddle_11
def F_X9_yawn (vM : (Nat → Int32) × Int64) (vnow : Nat → Int32) : Option (Int32 × ((Nat → Int32) × Int64)) := lt (va_up vM.1 3 0, vM.2) (fun vM_3 => (F_X9_yawnOf vnow).bind (fun u1 => (some (u1, vM_3))))
abbrev rm_X9_yawn : Room := { frames := 2, cells := 0, slots := 0, locals := 42 }
set_option maxHeartbeats 4000000 in
set_option maxRecDepth 100000 in
theorem c_X9_yawn (E : Ev) (l : Launch) (aM : Nat → Nat) (vM : (Nat → Int32) × Int64) (vnow : Nat → Int32) (r : Int32 × ((Nat → Int32) × Int64)) (hf : F_X9_yawn vM vnow = some r) : CM E l yX9_yawn (.code yX9_yawn cX9_yawn 1 (some .int) :: GA) rm_X9_yawn [.ref (aM 0)] (W_M aM vM ++ (W_A E (aM 1) 306 vnow)) (some (.int r.1)) (W_M aM r.2 ++ (W_A E (aM 1) 306 vnow)) := by
  refine CM.of (own := RX9) rfl (by decide) (Nat.le_of_ble_eq_true rfl) ?_
  intro p e s m below meth c A ls hx hb hr hml hown hg hlocks hK hE hA hP hD hS hl
  have hl : lv_has ls 1 [(0, .ref (aM 0))] := hl
  unfold F_X9_yawn at hf
  refine lv_aload_n hx hb dX9_yawn_0 rfl (lv_at hl 0 rfl) ?_
  refine lv_iconst (v := 0) hx hb dX9_yawn_1 (by decide) ?_
  refine pf_X9_48 (w2 := (W_M aM (va_up vM.1 3 0, vM.2) ++ (W_A E (aM 1) 306 vnow))) hx hb hg hown hK hP hD hS 0 rfl (Nat.le_of_ble_eq_true rfl) rfl dX9_yawn_2 (fun H locs hP hD hS => ?_)
  obtain ⟨vM_3, hv, hf⟩ := lt_o hf
  rw [← hv] at hP hD
  clear hv
  refine lv_aload_n hx hb dX9_yawn_5 rfl (lv_at hl 0 rfl) ?_
  refine gf_X9_7 hx hb hg hown hK hP 0 rfl rfl dX9_yawn_6 ?_
  obtain ⟨u1, hu1, hf⟩ := bn hf
  refine cm_S (As := [.ref (aM 1)]) (rest := []) (w2 := (W_M aM vM_3 ++ (W_A E (aM 1) 306 vnow))) hx hb hml hown hg (c_X9_yawnOf E l (aM 1) vnow u1 hu1) cs_X9_yawnOf ml_X9_87 ⟨⟨rfl, rfl⟩, Nat.le_of_ble_eq_true rfl, Nat.le_of_ble_eq_true rfl⟩ hK hE hP hD hS hA [false, true] rfl rfl rfl rfl hl.1 rfl (Nat.le_of_ble_eq_true rfl) dX9_yawn_9 ⟨Nat.le_of_ble_eq_true rfl, Nat.le_of_ble_eq_true rfl⟩ [.int u1] rfl (fun H locs hP hD hS => ?_)
  obtain rfl := Option.some.inj hf
  exact cm_iret hx hb hr hlocks hP hS dX9_yawn_12
def F_X9_tips (vM : (Nat → Int32) × Int64) (vnow : Nat → Int32) : Option (Int32 × ((Nat → Int32) × Int64)) := lt (va_up vM.1 3 0, vM.2) (fun vM_3 => ck 6 306 ((some ((vnow (Int32.toNatClampNeg 6)), vM_3))))
abbrev rm_X9_tips : Room := { frames := 0, cells := 0, slots := 0, locals := 0 }
set_option maxHeartbeats 4000000 in
set_option maxRecDepth 100000 in
theorem c_X9_tips (E : Ev) (l : Launch) (aM : Nat → Nat) (vM : (Nat → Int32) × Int64) (vnow : Nat → Int32) (r : Int32 × ((Nat → Int32) × Int64)) (hf : F_X9_tips vM vnow = some r) : CM E l yX9_tips (.code yX9_tips cX9_tips 1 (some .int) :: GA) rm_X9_tips [.ref (aM 0)] (W_M aM vM ++ (W_A E (aM 1) 306 vnow)) (some (.int r.1)) (W_M aM r.2 ++ (W_A E (aM 1) 306 vnow)) := by
  refine CM.of (own := RX9) rfl (by decide) (Nat.le_of_ble_eq_true rfl) ?_
  intro p e s m below meth c A ls hx hb hr hml hown hg hlocks hK hE hA hP hD hS hl
  have hl : lv_has ls 1 [(0, .ref (aM 0))] := hl
  unfold F_X9_tips at hf
  refine lv_aload_n hx hb dX9_tips_0 rfl (lv_at hl 0 rfl) ?_
  refine lv_iconst (v := 0) hx hb dX9_tips_1 (by decide) ?_
  refine pf_X9_48 (w2 := (W_M aM (va_up vM.1 3 0, vM.2) ++ (W_A E (aM 1) 306 vnow))) hx hb hg hown hK hP hD hS 0 rfl (Nat.le_of_ble_eq_true rfl) rfl dX9_tips_2 (fun H locs hP hD hS => ?_)
  obtain ⟨vM_3, hv, hf⟩ := lt_o hf
  rw [← hv] at hP hD
  clear hv
  refine lv_aload_n hx hb dX9_tips_5 rfl (lv_at hl 0 rfl) ?_
  refine gf_X9_7 hx hb hg hown hK hP 0 rfl rfl dX9_tips_6 ?_
  refine lv_bipush (v := 6) hx hb dX9_tips_9 (by decide) ?_
  obtain ⟨hi, hf⟩ := ck_o hf
  refine ar_ld hx hb hK hP 1 rfl hi dX9_tips_11 ?_
  obtain rfl := Option.some.inj hf
  exact cm_iret hx hb hr hlocks hP hS dX9_tips_12
def B_X9_sizeOf_4 (rec : Int32 → Int32 → Option (Int32)) (x0 : Int32) (x1 : Int32) (x2 : Int32) : Option (Int32) := (if x2 ≤ 0 then (some x1) else (rec (x1 + 1) (x2 / 27)))
def L_X9_sizeOf_4 (x0 : Int32) : Nat → Int32 → Int32 → Option (Int32)
  | 0 => fun _ _ => none
  | n + 1 => fun x1 x2 => B_X9_sizeOf_4 (L_X9_sizeOf_4 x0 n) x0 x1 x2
def F_X9_sizeOf (x0 : Int32) : Option (Int32) := (L_X9_sizeOf_4 x0 FU 0 x0)
abbrev rm_X9_sizeOf : Room := { frames := 0, cells := 0, slots := 0, locals := 0 }
set_option maxHeartbeats 4000000 in
set_option maxRecDepth 100000 in
theorem c_X9_sizeOf (E : Ev) (l : Launch) (x0 : Int32) (r : Int32) (hf : F_X9_sizeOf x0 = some r) : CM E l yX9_sizeOf (.code yX9_sizeOf cX9_sizeOf 3 (some .int) :: GA) rm_X9_sizeOf [.int x0] [] (some (.int r)) [] := by
  refine CM.of (own := RX9) rfl (by decide) (Nat.le_of_ble_eq_true rfl) ?_
  intro p e s m below meth c A ls hx hb hr hml hown hg hlocks hK hE hA hP hD hS hl
  have hl : lv_has ls 3 [(0, .int x0)] := hl
  have lp_4 : ∀ (n : Nat) (x1 : Int32) (x2 : Int32) (H : Heap) (locs : List Loc) (ls : Array Slot), L_X9_sizeOf_4 x0 n x1 x2 = some r → va_P E.1 vwCl [] H → va_D A [] → va_S A s.heap H locs → lv_has ls 3 [(1, .int x1), (2, .int x2)] → W p l e rm_X9_sizeOf s m ([.int x0] : List Value).toArray below meth c H locs 0 0 (MQ below (QW E (some (.int r)) [] A) ([.int x0] : List Value).toArray s 0 0 A) (F0 m 4 ls []) := by
    intro n
    induction n with
    | zero => intro x1 x2 H locs ls hf; cases hf
    | succ n ih =>
      intro x1 x2 H locs ls hf hP hD hS hl
      replace hf : B_X9_sizeOf_4 (L_X9_sizeOf_4 x0 n) x0 x1 x2 = some r := hf
      unfold B_X9_sizeOf_4 at hf
      refine lv_iload_n hx hb dX9_sizeOf_4 rfl (lv_at hl 1 rfl) ?_
      refine lv_if_le (tgt := 19) hx hb dX9_sizeOf_5 (by decide) (fun cq => ?_) (fun cq => ?_)
      · have hf := it cq hf
        refine lv_iload_n hx hb dX9_sizeOf_19 rfl (lv_at hl 0 rfl) ?_
        obtain rfl := Option.some.inj hf
        exact cm_iret hx hb hr hlocks hP hS dX9_sizeOf_20
      · have hf := ie cq hf
        refine lv_iinc (v := (x1 + 1)) (lv' := [(1, .int (x1 + 1)), (2, .int x2)]) hx hb dX9_sizeOf_8 hl (k := 0) rfl rfl (by decide) rfl (fun ls hl => ?_)
        refine lv_iload_n hx hb dX9_sizeOf_11 rfl (lv_at hl 1 rfl) ?_
        refine lv_bipush (v := 27) hx hb dX9_sizeOf_12 (by decide) ?_
        refine lv_idiv hx hb dX9_sizeOf_14 (by decide) ?_
        refine lv_istore_n (lv' := [(2, .int (x2 / 27)), (1, .int (x1 + 1))]) hx hb dX9_sizeOf_15 rfl hl (by decide) rfl (fun ls hl => ?_)
        refine lv_goto (tgt := 4) hx hb dX9_sizeOf_16 (by decide) ?_
        exact ih _ _ _ _ _ hf hP hD hS (lv_sub hl [1, 0] rfl)
  unfold F_X9_sizeOf at hf
  refine lv_iconst (v := 0) hx hb dX9_sizeOf_0 (by decide) ?_
  refine lv_istore_n (lv' := [(1, .int 0), (0, .int x0)]) hx hb dX9_sizeOf_1 rfl hl (by decide) rfl (fun ls hl => ?_)
  refine lv_iload_n hx hb dX9_sizeOf_2 rfl (lv_at hl 1 rfl) ?_
  refine lv_istore_n (lv' := [(2, .int x0), (1, .int 0), (0, .int x0)]) hx hb dX9_sizeOf_3 rfl hl (by decide) rfl (fun ls hl => ?_)
  exact lp_4 FU _ _ _ _ _ hf hP hD hS (lv_sub hl [1, 0] rfl)
def B_X9_letterOf_9 (rec : Int32 → Int32 → Option (Int32)) (x0 : Int32) (x1 : Int32) (x2 : Int32) (x3 : Int32) : Option (Int32) := (if x3 ≤ x1 then (some (96 + (x2 - x2 / 27 * 27))) else (rec (x2 / 27) (x3 + (-1))))
def L_X9_letterOf_9 (x0 : Int32) (x1 : Int32) : Nat → Int32 → Int32 → Option (Int32)
  | 0 => fun _ _ => none
  | n + 1 => fun x2 x3 => B_X9_letterOf_9 (L_X9_letterOf_9 x0 x1 n) x0 x1 x2 x3
def F_X9_letterOf (x0 : Int32) (x1 : Int32) : Option (Int32) := (F_X9_sizeOf x0).bind (fun u1 => (L_X9_letterOf_9 x0 x1 FU x0 (u1 - 1)))
abbrev rm_X9_letterOf : Room := { frames := 1, cells := 0, slots := 0, locals := 22 }
set_option maxHeartbeats 4000000 in
set_option maxRecDepth 100000 in
theorem c_X9_letterOf (E : Ev) (l : Launch) (x0 : Int32) (x1 : Int32) (r : Int32) (hf : F_X9_letterOf x0 x1 = some r) : CM E l yX9_letterOf (.code yX9_letterOf cX9_letterOf 4 (some .int) :: GA) rm_X9_letterOf [.int x0, .int x1] [] (some (.int r)) [] := by
  refine CM.of (own := RX9) rfl (by decide) (Nat.le_of_ble_eq_true rfl) ?_
  intro p e s m below meth c A ls hx hb hr hml hown hg hlocks hK hE hA hP hD hS hl
  have hl : lv_has ls 4 [(0, .int x0), (1, .int x1)] := hl
  have lp_9 : ∀ (n : Nat) (x2 : Int32) (x3 : Int32) (H : Heap) (locs : List Loc) (ls : Array Slot), L_X9_letterOf_9 x0 x1 n x2 x3 = some r → va_P E.1 vwCl [] H → va_D A [] → va_S A s.heap H locs → lv_has ls 4 [(1, .int x1), (2, .int x2), (3, .int x3)] → W p l e rm_X9_letterOf s m ([.int x0, .int x1] : List Value).toArray below meth c H locs 0 0 (MQ below (QW E (some (.int r)) [] A) ([.int x0, .int x1] : List Value).toArray s 0 0 A) (F0 m 9 ls []) := by
    intro n
    induction n with
    | zero => intro x2 x3 H locs ls hf; cases hf
    | succ n ih =>
      intro x2 x3 H locs ls hf hP hD hS hl
      replace hf : B_X9_letterOf_9 (L_X9_letterOf_9 x0 x1 n) x0 x1 x2 x3 = some r := hf
      unfold B_X9_letterOf_9 at hf
      refine lv_iload_n hx hb dX9_letterOf_9 rfl (lv_at hl 2 rfl) ?_
      refine lv_iload_n hx hb dX9_letterOf_10 rfl (lv_at hl 0 rfl) ?_
      refine lv_icmp_le (tgt := 25) hx hb dX9_letterOf_11 (by decide) (fun cq => ?_) (fun cq => ?_)
      · have hf := it cq hf
        refine lv_bipush (v := 96) hx hb dX9_letterOf_25 (by decide) ?_
        refine lv_iload_n hx hb dX9_letterOf_27 rfl (lv_at hl 1 rfl) ?_
        refine lv_bipush (v := 27) hx hb dX9_letterOf_28 (by decide) ?_
        refine lv_irem hx hb dX9_letterOf_30 (by decide) ?_
        refine lv_iadd hx hb dX9_letterOf_31 ?_
        obtain rfl := Option.some.inj hf
        exact cm_iret hx hb hr hlocks hP hS dX9_letterOf_32
      · have hf := ie cq hf
        refine lv_iload_n hx hb dX9_letterOf_14 rfl (lv_at hl 1 rfl) ?_
        refine lv_bipush (v := 27) hx hb dX9_letterOf_15 (by decide) ?_
        refine lv_idiv hx hb dX9_letterOf_17 (by decide) ?_
        refine lv_istore_n (lv' := [(2, .int (x2 / 27)), (1, .int x1), (3, .int x3)]) hx hb dX9_letterOf_18 rfl hl (by decide) rfl (fun ls hl => ?_)
        refine lv_iinc (v := (x3 + (-1))) (lv' := [(3, .int (x3 + (-1))), (2, .int (x2 / 27)), (1, .int x1)]) hx hb dX9_letterOf_19 hl (k := 2) rfl rfl (by decide) rfl (fun ls hl => ?_)
        refine lv_goto (tgt := 9) hx hb dX9_letterOf_22 (by decide) ?_
        exact ih _ _ _ _ _ hf hP hD hS (lv_sub hl [2, 1, 0] rfl)
  unfold F_X9_letterOf at hf
  refine lv_iload_n hx hb dX9_letterOf_0 rfl (lv_at hl 0 rfl) ?_
  refine lv_istore_n (lv' := [(2, .int x0), (0, .int x0), (1, .int x1)]) hx hb dX9_letterOf_1 rfl hl (by decide) rfl (fun ls hl => ?_)
  refine lv_iload_n hx hb dX9_letterOf_2 rfl (lv_at hl 1 rfl) ?_
  obtain ⟨u1, hu1, hf⟩ := bn hf
  refine cm_S (As := [.int x0]) (rest := []) (w2 := []) hx hb hml hown hg (c_X9_sizeOf E l x0 u1 hu1) cs_X9_sizeOf ml_X9_215 ⟨⟨rfl, rfl⟩, Nat.le_of_ble_eq_true rfl, Nat.le_of_ble_eq_true rfl⟩ hK hE hP hD hS hA [] rfl rfl rfl rfl hl.1 rfl (Nat.le_of_ble_eq_true rfl) dX9_letterOf_3 ⟨Nat.le_of_ble_eq_true rfl, Nat.le_of_ble_eq_true rfl⟩ [.int u1] rfl (fun H locs hP hD hS => ?_)
  refine lv_iconst (v := 1) hx hb dX9_letterOf_6 (by decide) ?_
  refine lv_isub hx hb dX9_letterOf_7 ?_
  refine lv_istore_n (lv' := [(3, .int (u1 - 1)), (2, .int x0), (0, .int x0), (1, .int x1)]) hx hb dX9_letterOf_8 rfl hl (by decide) rfl (fun ls hl => ?_)
  exact lp_9 FU _ _ _ _ _ hf hP hD hS (lv_sub hl [3, 1, 0] rfl)
def F_X9_guestNumber (vM : (Nat → Int32) × Int64) (vnow : Nat → Int32) (x1 : Int32) (x2 : Int32) : Option (Int32 × ((Nat → Int32) × Int64)) := (F_X9_isGuest vM vnow x1).bind (fun u1 => (if u1 = 0 then (F_X9_fails vM 1).bind (fun u2 => (some (u2.1, u2.2))) else (F_X9_guestAt x1 x2).bind (fun u3 => ck u3 306 ((some ((vnow (Int32.toNatClampNeg u3)), vM))))))
abbrev rm_X9_guestNumber : Room := { frames := 2, cells := 0, slots := 0, locals := 43 }
set_option maxHeartbeats 4000000 in
set_option maxRecDepth 100000 in
theorem c_X9_guestNumber (E : Ev) (l : Launch) (aM : Nat → Nat) (vM : (Nat → Int32) × Int64) (vnow : Nat → Int32) (x1 : Int32) (x2 : Int32) (r : Int32 × ((Nat → Int32) × Int64)) (hf : F_X9_guestNumber vM vnow x1 x2 = some r) : CM E l yX9_guestNumber (.code yX9_guestNumber cX9_guestNumber 3 (some .int) :: GA) rm_X9_guestNumber [.ref (aM 0), .int x1, .int x2] (W_M aM vM ++ (W_A E (aM 1) 306 vnow)) (some (.int r.1)) (W_M aM r.2 ++ (W_A E (aM 1) 306 vnow)) := by
  refine CM.of (own := RX9) rfl (by decide) (Nat.le_of_ble_eq_true rfl) ?_
  intro p e s m below meth c A ls hx hb hr hml hown hg hlocks hK hE hA hP hD hS hl
  have hl : lv_has ls 3 [(0, .ref (aM 0)), (1, .int x1), (2, .int x2)] := hl
  unfold F_X9_guestNumber at hf
  refine lv_aload_n hx hb dX9_guestNumber_0 rfl (lv_at hl 0 rfl) ?_
  refine lv_iload_n hx hb dX9_guestNumber_1 rfl (lv_at hl 1 rfl) ?_
  obtain ⟨u1, hu1, hf⟩ := bn hf
  refine cm_V (As := [.int x1]) (rest := []) (w2 := (W_M aM vM ++ (W_A E (aM 1) 306 vnow))) hx hb hml hown hg (c_X9_isGuest E l aM vM vnow x1 u1 hu1) cy_X9_isGuest ml_X9_218 ⟨⟨rfl, rfl⟩, Nat.le_of_ble_eq_true rfl, Nat.le_of_ble_eq_true rfl⟩ hK hE hP hD hS hA [true, true] rfl rfl rfl 0 rfl rfl rfl hl.1 rfl (Nat.le_of_ble_eq_true rfl) dX9_guestNumber_2 ⟨Nat.le_of_ble_eq_true rfl, Nat.le_of_ble_eq_true rfl⟩ [.int u1] rfl (fun H locs hP hD hS => ?_)
  refine lv_if_eq (tgt := 19) hx hb dX9_guestNumber_5 (by decide) (fun cq => ?_) (fun cq => ?_)
  · have hf := it cq hf
    refine lv_aload_n hx hb dX9_guestNumber_19 rfl (lv_at hl 0 rfl) ?_
    refine lv_iconst (v := 1) hx hb dX9_guestNumber_20 (by decide) ?_
    obtain ⟨u2, hu2, hf⟩ := bn hf
    refine cm_V (As := [.int 1]) (rest := []) (w2 := (W_M aM u2.2 ++ (W_A E (aM 1) 306 vnow))) hx hb hml hown hg (c_X9_fails E l aM vM 1 u2 hu2) cy_X9_fails ml_X9_133 ⟨⟨rfl, rfl⟩, Nat.le_of_ble_eq_true rfl, Nat.le_of_ble_eq_true rfl⟩ hK hE hP hD hS hA [true] rfl rfl rfl 0 rfl rfl rfl hl.1 rfl (Nat.le_of_ble_eq_true rfl) dX9_guestNumber_21 ⟨Nat.le_of_ble_eq_true rfl, Nat.le_of_ble_eq_true rfl⟩ [.int u2.1] rfl (fun H locs hP hD hS => ?_)
    obtain rfl := Option.some.inj hf
    exact cm_iret hx hb hr hlocks hP hS dX9_guestNumber_24
  · have hf := ie cq hf
    refine lv_aload_n hx hb dX9_guestNumber_8 rfl (lv_at hl 0 rfl) ?_
    refine gf_X9_7 hx hb hg hown hK hP 0 rfl rfl dX9_guestNumber_9 ?_
    refine lv_iload_n hx hb dX9_guestNumber_12 rfl (lv_at hl 1 rfl) ?_
    refine lv_iload_n hx hb dX9_guestNumber_13 rfl (lv_at hl 2 rfl) ?_
    obtain ⟨u3, hu3, hf⟩ := bn hf
    refine cm_S (As := [.int x1, .int x2]) (rest := [.ref (aM 1)]) (w2 := (W_M aM vM ++ (W_A E (aM 1) 306 vnow))) hx hb hml hown hg (c_X9_guestAt E l x1 x2 u3 hu3) cs_X9_guestAt ml_X9_59 ⟨⟨rfl, rfl⟩, Nat.le_of_ble_eq_true rfl, Nat.le_of_ble_eq_true rfl⟩ hK hE hP hD hS hA [] rfl rfl rfl rfl hl.1 rfl (Nat.le_of_ble_eq_true rfl) dX9_guestNumber_14 ⟨Nat.le_of_ble_eq_true rfl, Nat.le_of_ble_eq_true rfl⟩ [.int u3, .ref (aM 1)] rfl (fun H locs hP hD hS => ?_)
    obtain ⟨hi, hf⟩ := ck_o hf
    refine ar_ld hx hb hK hP 1 rfl hi dX9_guestNumber_17 ?_
    obtain rfl := Option.some.inj hf
    exact cm_iret hx hb hr hlocks hP hS dX9_guestNumber_18
def F_X9_guestCount (vM : (Nat → Int32) × Int64) (vnow : Nat → Int32) : Option (Int32 × ((Nat → Int32) × Int64)) := lt (va_up vM.1 3 0, vM.2) (fun vM_3 => ck 7 306 ((some ((vnow (Int32.toNatClampNeg 7)), vM_3))))
abbrev rm_X9_guestCount : Room := { frames := 0, cells := 0, slots := 0, locals := 0 }
set_option maxHeartbeats 4000000 in
set_option maxRecDepth 100000 in
theorem c_X9_guestCount (E : Ev) (l : Launch) (aM : Nat → Nat) (vM : (Nat → Int32) × Int64) (vnow : Nat → Int32) (r : Int32 × ((Nat → Int32) × Int64)) (hf : F_X9_guestCount vM vnow = some r) : CM E l yX9_guestCount (.code yX9_guestCount cX9_guestCount 1 (some .int) :: GA) rm_X9_guestCount [.ref (aM 0)] (W_M aM vM ++ (W_A E (aM 1) 306 vnow)) (some (.int r.1)) (W_M aM r.2 ++ (W_A E (aM 1) 306 vnow)) := by
  refine CM.of (own := RX9) rfl (by decide) (Nat.le_of_ble_eq_true rfl) ?_
  intro p e s m below meth c A ls hx hb hr hml hown hg hlocks hK hE hA hP hD hS hl
  have hl : lv_has ls 1 [(0, .ref (aM 0))] := hl
  unfold F_X9_guestCount at hf
  refine lv_aload_n hx hb dX9_guestCount_0 rfl (lv_at hl 0 rfl) ?_
  refine lv_iconst (v := 0) hx hb dX9_guestCount_1 (by decide) ?_
  refine pf_X9_48 (w2 := (W_M aM (va_up vM.1 3 0, vM.2) ++ (W_A E (aM 1) 306 vnow))) hx hb hg hown hK hP hD hS 0 rfl (Nat.le_of_ble_eq_true rfl) rfl dX9_guestCount_2 (fun H locs hP hD hS => ?_)
  obtain ⟨vM_3, hv, hf⟩ := lt_o hf
  rw [← hv] at hP hD
  clear hv
  refine lv_aload_n hx hb dX9_guestCount_5 rfl (lv_at hl 0 rfl) ?_
  refine gf_X9_7 hx hb hg hown hK hP 0 rfl rfl dX9_guestCount_6 ?_
  refine lv_bipush (v := 7) hx hb dX9_guestCount_9 (by decide) ?_
  obtain ⟨hi, hf⟩ := ck_o hf
  refine ar_ld hx hb hK hP 1 rfl hi dX9_guestCount_11 ?_
  obtain rfl := Option.some.inj hf
  exact cm_iret hx hb hr hlocks hP hS dX9_guestCount_12
def F_X9_nameLength (vM : (Nat → Int32) × Int64) (vnow : Nat → Int32) (x1 : Int32) : Option (Int32 × ((Nat → Int32) × Int64)) := lt (va_up vM.1 3 0, vM.2) (fun vM_3 => (F_X9_guestNumber vM_3 vnow x1 0).bind (fun u1 => (F_X9_sizeOf u1.1).bind (fun u2 => (some (u2, u1.2)))))
abbrev rm_X9_nameLength : Room := { frames := 3, cells := 0, slots := 0, locals := 65 }
set_option maxHeartbeats 4000000 in
set_option maxRecDepth 100000 in
theorem c_X9_nameLength (E : Ev) (l : Launch) (aM : Nat → Nat) (vM : (Nat → Int32) × Int64) (vnow : Nat → Int32) (x1 : Int32) (r : Int32 × ((Nat → Int32) × Int64)) (hf : F_X9_nameLength vM vnow x1 = some r) : CM E l yX9_nameLength (.code yX9_nameLength cX9_nameLength 2 (some .int) :: GA) rm_X9_nameLength [.ref (aM 0), .int x1] (W_M aM vM ++ (W_A E (aM 1) 306 vnow)) (some (.int r.1)) (W_M aM r.2 ++ (W_A E (aM 1) 306 vnow)) := by
  refine CM.of (own := RX9) rfl (by decide) (Nat.le_of_ble_eq_true rfl) ?_
  intro p e s m below meth c A ls hx hb hr hml hown hg hlocks hK hE hA hP hD hS hl
  have hl : lv_has ls 2 [(0, .ref (aM 0)), (1, .int x1)] := hl
  unfold F_X9_nameLength at hf
  refine lv_aload_n hx hb dX9_nameLength_0 rfl (lv_at hl 0 rfl) ?_
  refine lv_iconst (v := 0) hx hb dX9_nameLength_1 (by decide) ?_
  refine pf_X9_48 (w2 := (W_M aM (va_up vM.1 3 0, vM.2) ++ (W_A E (aM 1) 306 vnow))) hx hb hg hown hK hP hD hS 0 rfl (Nat.le_of_ble_eq_true rfl) rfl dX9_nameLength_2 (fun H locs hP hD hS => ?_)
  obtain ⟨vM_3, hv, hf⟩ := lt_o hf
  rw [← hv] at hP hD
  clear hv
  refine lv_aload_n hx hb dX9_nameLength_5 rfl (lv_at hl 0 rfl) ?_
  refine lv_iload_n hx hb dX9_nameLength_6 rfl (lv_at hl 1 rfl) ?_
  refine lv_iconst (v := 0) hx hb dX9_nameLength_7 (by decide) ?_
  obtain ⟨u1, hu1, hf⟩ := bn hf
  refine cm_V (As := [.int x1, .int 0]) (rest := []) (w2 := (W_M aM u1.2 ++ (W_A E (aM 1) 306 vnow))) hx hb hml hown hg (c_X9_guestNumber E l aM vM_3 vnow x1 0 u1 hu1) cy_X9_guestNumber ml_X9_221 ⟨⟨rfl, rfl⟩, Nat.le_of_ble_eq_true rfl, Nat.le_of_ble_eq_true rfl⟩ hK hE hP hD hS hA [true, true] rfl rfl rfl 0 rfl rfl rfl hl.1 rfl (Nat.le_of_ble_eq_true rfl) dX9_nameLength_8 ⟨Nat.le_of_ble_eq_true rfl, Nat.le_of_ble_eq_true rfl⟩ [.int u1.1] rfl (fun H locs hP hD hS => ?_)
  obtain ⟨u2, hu2, hf⟩ := bn hf
  refine cm_S (As := [.int u1.1]) (rest := []) (w2 := (W_M aM u1.2 ++ (W_A E (aM 1) 306 vnow))) hx hb hml hown hg (c_X9_sizeOf E l u1.1 u2 hu2) cs_X9_sizeOf ml_X9_215 ⟨⟨rfl, rfl⟩, Nat.le_of_ble_eq_true rfl, Nat.le_of_ble_eq_true rfl⟩ hK hE hP hD hS hA [] rfl rfl rfl rfl hl.1 rfl (Nat.le_of_ble_eq_true rfl) dX9_nameLength_11 ⟨Nat.le_of_ble_eq_true rfl, Nat.le_of_ble_eq_true rfl⟩ [.int u2] rfl (fun H locs hP hD hS => ?_)
  obtain rfl := Option.some.inj hf
  exact cm_iret hx hb hr hlocks hP hS dX9_nameLength_14
def F_X9_nameByte (vM : (Nat → Int32) × Int64) (vnow : Nat → Int32) (x1 : Int32) (x2 : Int32) : Option (Int32 × ((Nat → Int32) × Int64)) := lt (va_up vM.1 3 0, vM.2) (fun vM_3 => (F_X9_isGuest vM_3 vnow x1).bind (fun u1 => (if u1 = 0 then (F_X9_fails vM_3 1).bind (fun u7 => (some (u7.1, u7.2))) else (F_X9_guestAt x1 0).bind (fun u2 => ck u2 306 ((F_X9_sizeOf (vnow (Int32.toNatClampNeg u2))).bind (fun u3 => (F_X9_in x2 0 (u3 - 1)).bind (fun u4 => (if u4 = 0 then (F_X9_fails vM_3 1).bind (fun u5 => (some (u5.1, u5.2))) else (F_X9_letterOf (vnow (Int32.toNatClampNeg u2)) x2).bind (fun u6 => (some (u6, vM_3)))))))))))
abbrev rm_X9_nameByte : Room := { frames := 2, cells := 0, slots := 0, locals := 45 }
set_option maxHeartbeats 4000000 in
set_option maxRecDepth 100000 in
theorem c_X9_nameByte (E : Ev) (l : Launch) (aM : Nat → Nat) (vM : (Nat → Int32) × Int64) (vnow : Nat → Int32) (x1 : Int32) (x2 : Int32) (r : Int32 × ((Nat → Int32) × Int64)) (hf : F_X9_nameByte vM vnow x1 x2 = some r) : CM E l yX9_nameByte (.code yX9_nameByte cX9_nameByte 4 (some .int) :: GA) rm_X9_nameByte [.ref (aM 0), .int x1, .int x2] (W_M aM vM ++ (W_A E (aM 1) 306 vnow)) (some (.int r.1)) (W_M aM r.2 ++ (W_A E (aM 1) 306 vnow)) := by
  refine CM.of (own := RX9) rfl (by decide) (Nat.le_of_ble_eq_true rfl) ?_
  intro p e s m below meth c A ls hx hb hr hml hown hg hlocks hK hE hA hP hD hS hl
  have hl : lv_has ls 4 [(0, .ref (aM 0)), (1, .int x1), (2, .int x2)] := hl
  unfold F_X9_nameByte at hf
  refine lv_aload_n hx hb dX9_nameByte_0 rfl (lv_at hl 0 rfl) ?_
  refine lv_iconst (v := 0) hx hb dX9_nameByte_1 (by decide) ?_
  refine pf_X9_48 (w2 := (W_M aM (va_up vM.1 3 0, vM.2) ++ (W_A E (aM 1) 306 vnow))) hx hb hg hown hK hP hD hS 0 rfl (Nat.le_of_ble_eq_true rfl) rfl dX9_nameByte_2 (fun H locs hP hD hS => ?_)
  obtain ⟨vM_3, hv, hf⟩ := lt_o hf
  rw [← hv] at hP hD
  clear hv
  refine lv_aload_n hx hb dX9_nameByte_5 rfl (lv_at hl 0 rfl) ?_
  refine lv_iload_n hx hb dX9_nameByte_6 rfl (lv_at hl 1 rfl) ?_
  obtain ⟨u1, hu1, hf⟩ := bn hf
  refine cm_V (As := [.int x1]) (rest := []) (w2 := (W_M aM vM_3 ++ (W_A E (aM 1) 306 vnow))) hx hb hml hown hg (c_X9_isGuest E l aM vM_3 vnow x1 u1 hu1) cy_X9_isGuest ml_X9_218 ⟨⟨rfl, rfl⟩, Nat.le_of_ble_eq_true rfl, Nat.le_of_ble_eq_true rfl⟩ hK hE hP hD hS hA [true, true] rfl rfl rfl 0 rfl rfl rfl hl.1 rfl (Nat.le_of_ble_eq_true rfl) dX9_nameByte_7 ⟨Nat.le_of_ble_eq_true rfl, Nat.le_of_ble_eq_true rfl⟩ [.int u1] rfl (fun H locs hP hD hS => ?_)
  refine lv_if_ne (tgt := 19) hx hb dX9_nameByte_10 (by decide) (fun cq => ?_) (fun cq => ?_)
  · have hf := ie cq hf
    refine lv_aload_n hx hb dX9_nameByte_19 rfl (lv_at hl 0 rfl) ?_
    refine gf_X9_7 hx hb hg hown hK hP 0 rfl rfl dX9_nameByte_20 ?_
    refine lv_iload_n hx hb dX9_nameByte_23 rfl (lv_at hl 1 rfl) ?_
    refine lv_iconst (v := 0) hx hb dX9_nameByte_24 (by decide) ?_
    obtain ⟨u2, hu2, hf⟩ := bn hf
    refine cm_S (As := [.int x1, .int 0]) (rest := [.ref (aM 1)]) (w2 := (W_M aM vM_3 ++ (W_A E (aM 1) 306 vnow))) hx hb hml hown hg (c_X9_guestAt E l x1 0 u2 hu2) cs_X9_guestAt ml_X9_59 ⟨⟨rfl, rfl⟩, Nat.le_of_ble_eq_true rfl, Nat.le_of_ble_eq_true rfl⟩ hK hE hP hD hS hA [] rfl rfl rfl rfl hl.1 rfl (Nat.le_of_ble_eq_true rfl) dX9_nameByte_25 ⟨Nat.le_of_ble_eq_true rfl, Nat.le_of_ble_eq_true rfl⟩ [.int u2, .ref (aM 1)] rfl (fun H locs hP hD hS => ?_)
    obtain ⟨hi, hf⟩ := ck_o hf
    refine ar_ld hx hb hK hP 1 rfl hi dX9_nameByte_28 ?_
    refine lv_istore_n (lv' := [(3, .int (vnow (Int32.toNatClampNeg u2))), (0, .ref (aM 0)), (1, .int x1), (2, .int x2)]) hx hb dX9_nameByte_29 rfl hl (by decide) rfl (fun ls hl => ?_)
    refine lv_iload_n hx hb dX9_nameByte_30 rfl (lv_at hl 3 rfl) ?_
    refine lv_iconst (v := 0) hx hb dX9_nameByte_31 (by decide) ?_
    refine lv_iload_n hx hb dX9_nameByte_32 rfl (lv_at hl 0 rfl) ?_
    obtain ⟨u3, hu3, hf⟩ := bn hf
    refine cm_S (As := [.int (vnow (Int32.toNatClampNeg u2))]) (rest := [.int 0, .int x2]) (w2 := (W_M aM vM_3 ++ (W_A E (aM 1) 306 vnow))) hx hb hml hown hg (c_X9_sizeOf E l (vnow (Int32.toNatClampNeg u2)) u3 hu3) cs_X9_sizeOf ml_X9_215 ⟨⟨rfl, rfl⟩, Nat.le_of_ble_eq_true rfl, Nat.le_of_ble_eq_true rfl⟩ hK hE hP hD hS hA [] rfl rfl rfl rfl hl.1 rfl (Nat.le_of_ble_eq_true rfl) dX9_nameByte_33 ⟨Nat.le_of_ble_eq_true rfl, Nat.le_of_ble_eq_true rfl⟩ [.int u3, .int 0, .int x2] rfl (fun H locs hP hD hS => ?_)
    refine lv_iconst (v := 1) hx hb dX9_nameByte_36 (by decide) ?_
    refine lv_isub hx hb dX9_nameByte_37 ?_
    obtain ⟨u4, hu4, hf⟩ := bn hf
    refine cm_S (As := [.int x2, .int 0, .int (u3 - 1)]) (rest := []) (w2 := (W_M aM vM_3 ++ (W_A E (aM 1) 306 vnow))) hx hb hml hown hg (c_X9_in E l x2 0 (u3 - 1) u4 hu4) cs_X9_in ml_X9_55 ⟨⟨rfl, rfl⟩, Nat.le_of_ble_eq_true rfl, Nat.le_of_ble_eq_true rfl⟩ hK hE hP hD hS hA [] rfl rfl rfl rfl hl.1 rfl (Nat.le_of_ble_eq_true rfl) dX9_nameByte_38 ⟨Nat.le_of_ble_eq_true rfl, Nat.le_of_ble_eq_true rfl⟩ [.int u4] rfl (fun H locs hP hD hS => ?_)
    refine lv_if_eq (tgt := 50) hx hb dX9_nameByte_41 (by decide) (fun cq => ?_) (fun cq => ?_)
    · have hf := it cq hf
      refine lv_aload_n hx hb dX9_nameByte_50 rfl (lv_at hl 1 rfl) ?_
      refine lv_iconst (v := 1) hx hb dX9_nameByte_51 (by decide) ?_
      obtain ⟨u5, hu5, hf⟩ := bn hf
      refine cm_V (As := [.int 1]) (rest := []) (w2 := (W_M aM u5.2 ++ (W_A E (aM 1) 306 vnow))) hx hb hml hown hg (c_X9_fails E l aM vM_3 1 u5 hu5) cy_X9_fails ml_X9_133 ⟨⟨rfl, rfl⟩, Nat.le_of_ble_eq_true rfl, Nat.le_of_ble_eq_true rfl⟩ hK hE hP hD hS hA [true] rfl rfl rfl 0 rfl rfl rfl hl.1 rfl (Nat.le_of_ble_eq_true rfl) dX9_nameByte_52 ⟨Nat.le_of_ble_eq_true rfl, Nat.le_of_ble_eq_true rfl⟩ [.int u5.1] rfl (fun H locs hP hD hS => ?_)
      obtain rfl := Option.some.inj hf
      exact cm_iret hx hb hr hlocks hP hS dX9_nameByte_55
    · have hf := ie cq hf
      refine lv_iload_n hx hb dX9_nameByte_44 rfl (lv_at hl 0 rfl) ?_
      refine lv_iload_n hx hb dX9_nameByte_45 rfl (lv_at hl 3 rfl) ?_
      obtain ⟨u6, hu6, hf⟩ := bn hf
      refine cm_S (As := [.int (vnow (Int32.toNatClampNeg u2)), .int x2]) (rest := []) (w2 := (W_M aM vM_3 ++ (W_A E (aM 1) 306 vnow))) hx hb hml hown hg (c_X9_letterOf E l (vnow (Int32.toNatClampNeg u2)) x2 u6 hu6) cs_X9_letterOf ml_X9_224 ⟨⟨rfl, rfl⟩, Nat.le_of_ble_eq_true rfl, Nat.le_of_ble_eq_true rfl⟩ hK hE hP hD hS hA [] rfl rfl rfl rfl hl.1 rfl (Nat.le_of_ble_eq_true rfl) dX9_nameByte_46 ⟨Nat.le_of_ble_eq_true rfl, Nat.le_of_ble_eq_true rfl⟩ [.int u6] rfl (fun H locs hP hD hS => ?_)
      obtain rfl := Option.some.inj hf
      exact cm_iret hx hb hr hlocks hP hS dX9_nameByte_49
  · have hf := it cq hf
    refine lv_aload_n hx hb dX9_nameByte_13 rfl (lv_at hl 0 rfl) ?_
    refine lv_iconst (v := 1) hx hb dX9_nameByte_14 (by decide) ?_
    obtain ⟨u7, hu7, hf⟩ := bn hf
    refine cm_V (As := [.int 1]) (rest := []) (w2 := (W_M aM u7.2 ++ (W_A E (aM 1) 306 vnow))) hx hb hml hown hg (c_X9_fails E l aM vM_3 1 u7 hu7) cy_X9_fails ml_X9_133 ⟨⟨rfl, rfl⟩, Nat.le_of_ble_eq_true rfl, Nat.le_of_ble_eq_true rfl⟩ hK hE hP hD hS hA [true] rfl rfl rfl 0 rfl rfl rfl hl.1 rfl (Nat.le_of_ble_eq_true rfl) dX9_nameByte_15 ⟨Nat.le_of_ble_eq_true rfl, Nat.le_of_ble_eq_true rfl⟩ [.int u7.1] rfl (fun H locs hP hD hS => ?_)
    obtain rfl := Option.some.inj hf
    exact cm_iret hx hb hr hlocks hP hS dX9_nameByte_18
def B_X9_bufferName_14 (rec : Int32 → Int32 → Int32 → Option (Int32)) (vM : (Nat → Int32) × Int64) (vbuffer : Nat → Int32) (x1 : Int32) (x2 : Int32) (x3 : Int32) : Option (Int32) := (if (vM.1 1) ≤ x3 then (if x2 = 0 then (some (-1)) else (some x1)) else (if x2 = 0 then (if x2 = 0 then (some (-1)) else (some x1)) else (F_X9_isSmall vM vbuffer x3).bind (fun u1 => ck x3 600 ((rec (((27 * x1) + (vbuffer (Int32.toNatClampNeg x3))) - 96) u1 (x3 + 1))))))
def L_X9_bufferName_14 (vM : (Nat → Int32) × Int64) (vbuffer : Nat → Int32) : Nat → Int32 → Int32 → Int32 → Option (Int32)
  | 0 => fun _ _ _ => none
  | n + 1 => fun x1 x2 x3 => B_X9_bufferName_14 (L_X9_bufferName_14 vM vbuffer n) vM vbuffer x1 x2 x3
def F_X9_bufferName (vM : (Nat → Int32) × Int64) (vbuffer : Nat → Int32) : Option (Int32) := (F_X9_in (vM.1 1) 1 5).bind (fun u1 => (L_X9_bufferName_14 vM vbuffer FU 0 u1 0))
abbrev rm_X9_bufferName : Room := { frames := 1, cells := 0, slots := 0, locals := 22 }
set_option maxHeartbeats 4000000 in
set_option maxRecDepth 100000 in
theorem c_X9_bufferName (E : Ev) (l : Launch) (aM : Nat → Nat) (vM : (Nat → Int32) × Int64) (vbuffer : Nat → Int32) (r : Int32) (hf : F_X9_bufferName vM vbuffer = some r) : CM E l yX9_bufferName (.code yX9_bufferName cX9_bufferName 4 (some .int) :: GA) rm_X9_bufferName [.ref (aM 0)] (W_M aM vM ++ (W_A E (aM 7) 600 vbuffer)) (some (.int r)) (W_M aM vM ++ (W_A E (aM 7) 600 vbuffer)) := by
  refine CM.of (own := RX9) rfl (by decide) (Nat.le_of_ble_eq_true rfl) ?_
  intro p e s m below meth c A ls hx hb hr hml hown hg hlocks hK hE hA hP hD hS hl
  have hl : lv_has ls 4 [(0, .ref (aM 0))] := hl
  have lp_14 : ∀ (n : Nat) (x1 : Int32) (x2 : Int32) (x3 : Int32) (H : Heap) (locs : List Loc) (ls : Array Slot), L_X9_bufferName_14 vM vbuffer n x1 x2 x3 = some r → va_P E.1 vwCl (W_M aM vM ++ (W_A E (aM 7) 600 vbuffer)) H → va_D A (W_M aM vM ++ (W_A E (aM 7) 600 vbuffer)) → va_S A s.heap H locs → lv_has ls 4 [(0, .ref (aM 0)), (1, .int x1), (2, .int x2), (3, .int x3)] → W p l e rm_X9_bufferName s m ([.ref (aM 0)] : List Value).toArray below meth c H locs 0 0 (MQ below (QW E (some (.int r)) (W_M aM vM ++ (W_A E (aM 7) 600 vbuffer)) A) ([.ref (aM 0)] : List Value).toArray s 0 0 A) (F0 m 14 ls []) := by
    intro n
    induction n with
    | zero => intro x1 x2 x3 H locs ls hf; cases hf
    | succ n ih =>
      intro x1 x2 x3 H locs ls hf hP hD hS hl
      replace hf : B_X9_bufferName_14 (L_X9_bufferName_14 vM vbuffer n) vM vbuffer x1 x2 x3 = some r := hf
      unfold B_X9_bufferName_14 at hf
      refine lv_iload_n hx hb dX9_bufferName_14 rfl (lv_at hl 3 rfl) ?_
      refine lv_aload_n hx hb dX9_bufferName_15 rfl (lv_at hl 0 rfl) ?_
      refine gf_X9_130 hx hb hg hown hK hP 0 rfl rfl dX9_bufferName_16 ?_
      refine lv_icmp_ge (tgt := 53) hx hb dX9_bufferName_19 (by decide) (fun cq => ?_) (fun cq => ?_)
      · have hf := it cq hf
        refine lv_iload_n hx hb dX9_bufferName_53 rfl (lv_at hl 2 rfl) ?_
        refine lv_if_eq (tgt := 59) hx hb dX9_bufferName_54 (by decide) (fun cq => ?_) (fun cq => ?_)
        · have hf := it cq hf
          refine lv_iconst (v := (-1)) hx hb dX9_bufferName_59 (by decide) ?_
          obtain rfl := Option.some.inj hf
          exact cm_iret hx hb hr hlocks hP hS dX9_bufferName_60
        · have hf := ie cq hf
          refine lv_iload_n hx hb dX9_bufferName_57 rfl (lv_at hl 1 rfl) ?_
          obtain rfl := Option.some.inj hf
          exact cm_iret hx hb hr hlocks hP hS dX9_bufferName_58
      · have hf := ie cq hf
        refine lv_iload_n hx hb dX9_bufferName_22 rfl (lv_at hl 2 rfl) ?_
        refine lv_if_eq (tgt := 53) hx hb dX9_bufferName_23 (by decide) (fun cq => ?_) (fun cq => ?_)
        · have hf := it cq hf
          refine lv_iload_n hx hb dX9_bufferName_53 rfl (lv_at hl 2 rfl) ?_
          refine lv_if_eq (tgt := 59) hx hb dX9_bufferName_54 (by decide) (fun cq => ?_) (fun cq => ?_)
          · have hf := it cq hf
            refine lv_iconst (v := (-1)) hx hb dX9_bufferName_59 (by decide) ?_
            obtain rfl := Option.some.inj hf
            exact cm_iret hx hb hr hlocks hP hS dX9_bufferName_60
          · have hf := ie cq hf
            refine lv_iload_n hx hb dX9_bufferName_57 rfl (lv_at hl 1 rfl) ?_
            obtain rfl := Option.some.inj hf
            exact cm_iret hx hb hr hlocks hP hS dX9_bufferName_58
        · have hf := ie cq hf
          refine lv_aload_n hx hb dX9_bufferName_26 rfl (lv_at hl 0 rfl) ?_
          refine lv_iload_n hx hb dX9_bufferName_27 rfl (lv_at hl 3 rfl) ?_
          obtain ⟨u1, hu1, hf⟩ := bn hf
          refine cm_V (As := [.int x3]) (rest := []) (w2 := (W_M aM vM ++ (W_A E (aM 7) 600 vbuffer))) hx hb hml hown hg (c_X9_isSmall E l aM vM vbuffer x3 u1 hu1) cy_X9_isSmall ml_X9_153 ⟨⟨rfl, rfl⟩, Nat.le_of_ble_eq_true rfl, Nat.le_of_ble_eq_true rfl⟩ hK hE hP hD hS hA [true, true] rfl rfl rfl 0 rfl rfl rfl hl.1 rfl (Nat.le_of_ble_eq_true rfl) dX9_bufferName_28 ⟨Nat.le_of_ble_eq_true rfl, Nat.le_of_ble_eq_true rfl⟩ [.int u1] rfl (fun H locs hP hD hS => ?_)
          refine lv_istore_n (lv' := [(2, .int u1), (0, .ref (aM 0)), (1, .int x1), (3, .int x3)]) hx hb dX9_bufferName_31 rfl hl (by decide) rfl (fun ls hl => ?_)
          refine lv_bipush (v := 27) hx hb dX9_bufferName_32 (by decide) ?_
          refine lv_iload_n hx hb dX9_bufferName_34 rfl (lv_at hl 2 rfl) ?_
          refine lv_imul hx hb dX9_bufferName_35 ?_
          refine lv_aload_n hx hb dX9_bufferName_36 rfl (lv_at hl 1 rfl) ?_
          refine gf_X9_29 hx hb hg hown hK hP 0 rfl rfl dX9_bufferName_37 ?_
          refine lv_iload_n hx hb dX9_bufferName_40 rfl (lv_at hl 3 rfl) ?_
          obtain ⟨hi, hf⟩ := ck_o hf
          refine ar_ld hx hb hK hP 1 rfl hi dX9_bufferName_41 ?_
          refine lv_iadd hx hb dX9_bufferName_42 ?_
          refine lv_bipush (v := 96) hx hb dX9_bufferName_43 (by decide) ?_
          refine lv_isub hx hb dX9_bufferName_45 ?_
          refine lv_istore_n (lv' := [(1, .int (((27 * x1) + (vbuffer (Int32.toNatClampNeg x3))) - 96)), (2, .int u1), (0, .ref (aM 0)), (3, .int x3)]) hx hb dX9_bufferName_46 rfl hl (by decide) rfl (fun ls hl => ?_)
          refine lv_iinc (v := (x3 + 1)) (lv' := [(3, .int (x3 + 1)), (1, .int (((27 * x1) + (vbuffer (Int32.toNatClampNeg x3))) - 96)), (2, .int u1), (0, .ref (aM 0))]) hx hb dX9_bufferName_47 hl (k := 3) rfl rfl (by decide) rfl (fun ls hl => ?_)
          refine lv_goto (tgt := 14) hx hb dX9_bufferName_50 (by decide) ?_
          exact ih _ _ _ _ _ _ hf hP hD hS (lv_sub hl [3, 1, 2, 0] rfl)
  unfold F_X9_bufferName at hf
  refine lv_iconst (v := 0) hx hb dX9_bufferName_0 (by decide) ?_
  refine lv_istore_n (lv' := [(1, .int 0), (0, .ref (aM 0))]) hx hb dX9_bufferName_1 rfl hl (by decide) rfl (fun ls hl => ?_)
  refine lv_aload_n hx hb dX9_bufferName_2 rfl (lv_at hl 1 rfl) ?_
  refine gf_X9_130 hx hb hg hown hK hP 0 rfl rfl dX9_bufferName_3 ?_
  refine lv_iconst (v := 1) hx hb dX9_bufferName_6 (by decide) ?_
  refine lv_iconst (v := 5) hx hb dX9_bufferName_7 (by decide) ?_
  obtain ⟨u1, hu1, hf⟩ := bn hf
  refine cm_S (As := [.int (vM.1 1), .int 1, .int 5]) (rest := []) (w2 := (W_M aM vM ++ (W_A E (aM 7) 600 vbuffer))) hx hb hml hown hg (c_X9_in E l (vM.1 1) 1 5 u1 hu1) cs_X9_in ml_X9_55 ⟨⟨rfl, rfl⟩, Nat.le_of_ble_eq_true rfl, Nat.le_of_ble_eq_true rfl⟩ hK hE hP hD hS hA [] rfl rfl rfl rfl hl.1 rfl (Nat.le_of_ble_eq_true rfl) dX9_bufferName_8 ⟨Nat.le_of_ble_eq_true rfl, Nat.le_of_ble_eq_true rfl⟩ [.int u1] rfl (fun H locs hP hD hS => ?_)
  refine lv_istore_n (lv' := [(2, .int u1), (1, .int 0), (0, .ref (aM 0))]) hx hb dX9_bufferName_11 rfl hl (by decide) rfl (fun ls hl => ?_)
  refine lv_iconst (v := 0) hx hb dX9_bufferName_12 (by decide) ?_
  refine lv_istore_n (lv' := [(3, .int 0), (2, .int u1), (1, .int 0), (0, .ref (aM 0))]) hx hb dX9_bufferName_13 rfl hl (by decide) rfl (fun ls hl => ?_)
  exact lp_14 FU _ _ _ _ _ _ hf hP hD hS (lv_sub hl [3, 2, 1, 0] rfl)
def F_X9_guestOfInput (vM : (Nat → Int32) × Int64) (vnow : Nat → Int32) (vbuffer : Nat → Int32) : Option (Int32 × ((Nat → Int32) × Int64)) := lt (va_up vM.1 3 0, vM.2) (fun vM_3 => (F_X9_bufferName vM_3 vbuffer).bind (fun u1 => (if u1 ≤ 0 then (if 0 ≤ ((-1) : Int32) then (some ((-1), vM_3)) else (F_X9_fails vM_3 1).bind (fun u2 => (some (u2.1, u2.2)))) else (F_X9_guestBy vnow u1).bind (fun u3 => (if 0 ≤ u3 then (some (u3, vM_3)) else (F_X9_fails vM_3 1).bind (fun u4 => (some (u4.1, u4.2))))))))
abbrev rm_X9_guestOfInput : Room := { frames := 2, cells := 0, slots := 0, locals := 45 }
set_option maxHeartbeats 4000000 in
set_option maxRecDepth 100000 in
theorem c_X9_guestOfInput (E : Ev) (l : Launch) (aM : Nat → Nat) (vM : (Nat → Int32) × Int64) (vnow : Nat → Int32) (vbuffer : Nat → Int32) (r : Int32 × ((Nat → Int32) × Int64)) (hf : F_X9_guestOfInput vM vnow vbuffer = some r) : CM E l yX9_guestOfInput (.code yX9_guestOfInput cX9_guestOfInput 3 (some .int) :: GA) rm_X9_guestOfInput [.ref (aM 0)] (W_M aM vM ++ (W_A E (aM 1) 306 vnow ++ (W_A E (aM 7) 600 vbuffer))) (some (.int r.1)) (W_M aM r.2 ++ (W_A E (aM 1) 306 vnow ++ (W_A E (aM 7) 600 vbuffer))) := by
  refine CM.of (own := RX9) rfl (by decide) (Nat.le_of_ble_eq_true rfl) ?_
  intro p e s m below meth c A ls hx hb hr hml hown hg hlocks hK hE hA hP hD hS hl
  have hl : lv_has ls 3 [(0, .ref (aM 0))] := hl
  unfold F_X9_guestOfInput at hf
  refine lv_aload_n hx hb dX9_guestOfInput_0 rfl (lv_at hl 0 rfl) ?_
  refine lv_iconst (v := 0) hx hb dX9_guestOfInput_1 (by decide) ?_
  refine pf_X9_48 (w2 := (W_M aM (va_up vM.1 3 0, vM.2) ++ (W_A E (aM 1) 306 vnow ++ (W_A E (aM 7) 600 vbuffer)))) hx hb hg hown hK hP hD hS 0 rfl (Nat.le_of_ble_eq_true rfl) rfl dX9_guestOfInput_2 (fun H locs hP hD hS => ?_)
  obtain ⟨vM_3, hv, hf⟩ := lt_o hf
  rw [← hv] at hP hD
  clear hv
  refine lv_aload_n hx hb dX9_guestOfInput_5 rfl (lv_at hl 0 rfl) ?_
  obtain ⟨u1, hu1, hf⟩ := bn hf
  refine cm_V (As := []) (rest := []) (w2 := (W_M aM vM_3 ++ (W_A E (aM 1) 306 vnow ++ (W_A E (aM 7) 600 vbuffer)))) hx hb hml hown hg (c_X9_bufferName E l aM vM_3 vbuffer u1 hu1) cy_X9_bufferName ml_X9_227 ⟨⟨rfl, rfl⟩, Nat.le_of_ble_eq_true rfl, Nat.le_of_ble_eq_true rfl⟩ hK hE hP hD hS hA [true, false, true] rfl rfl rfl 0 rfl rfl rfl hl.1 rfl (Nat.le_of_ble_eq_true rfl) dX9_guestOfInput_6 ⟨Nat.le_of_ble_eq_true rfl, Nat.le_of_ble_eq_true rfl⟩ [.int u1] rfl (fun H locs hP hD hS => ?_)
  refine lv_istore_n (lv' := [(1, .int u1), (0, .ref (aM 0))]) hx hb dX9_guestOfInput_9 rfl hl (by decide) rfl (fun ls hl => ?_)
  refine lv_iconst (v := (-1)) hx hb dX9_guestOfInput_10 (by decide) ?_
  refine lv_istore_n (lv' := [(2, .int (-1)), (1, .int u1), (0, .ref (aM 0))]) hx hb dX9_guestOfInput_11 rfl hl (by decide) rfl (fun ls hl => ?_)
  refine lv_iload_n hx hb dX9_guestOfInput_12 rfl (lv_at hl 1 rfl) ?_
  refine lv_if_le (tgt := 25) hx hb dX9_guestOfInput_13 (by decide) (fun cq => ?_) (fun cq => ?_)
  · have hf := it cq hf
    refine lv_iload_n hx hb dX9_guestOfInput_25 rfl (lv_at hl 0 rfl) ?_
    refine lv_if_ge (tgt := 35) hx hb dX9_guestOfInput_26 (by decide) (fun cq => ?_) (fun cq => ?_)
    · have hf := it cq hf
      refine lv_iload_n hx hb dX9_guestOfInput_35 rfl (lv_at hl 0 rfl) ?_
      obtain rfl := Option.some.inj hf
      exact cm_iret hx hb hr hlocks hP hS dX9_guestOfInput_36
    · have hf := ie cq hf
      refine lv_aload_n hx hb dX9_guestOfInput_29 rfl (lv_at hl 2 rfl) ?_
      refine lv_iconst (v := 1) hx hb dX9_guestOfInput_30 (by decide) ?_
      obtain ⟨u2, hu2, hf⟩ := bn hf
      refine cm_V (As := [.int 1]) (rest := []) (w2 := (W_M aM u2.2 ++ (W_A E (aM 1) 306 vnow ++ (W_A E (aM 7) 600 vbuffer)))) hx hb hml hown hg (c_X9_fails E l aM vM_3 1 u2 hu2) cy_X9_fails ml_X9_133 ⟨⟨rfl, rfl⟩, Nat.le_of_ble_eq_true rfl, Nat.le_of_ble_eq_true rfl⟩ hK hE hP hD hS hA [true] rfl rfl rfl 0 rfl rfl rfl hl.1 rfl (Nat.le_of_ble_eq_true rfl) dX9_guestOfInput_31 ⟨Nat.le_of_ble_eq_true rfl, Nat.le_of_ble_eq_true rfl⟩ [.int u2.1] rfl (fun H locs hP hD hS => ?_)
      obtain rfl := Option.some.inj hf
      exact cm_iret hx hb hr hlocks hP hS dX9_guestOfInput_34
  · have hf := ie cq hf
    refine lv_aload_n hx hb dX9_guestOfInput_16 rfl (lv_at hl 2 rfl) ?_
    refine gf_X9_7 hx hb hg hown hK hP 0 rfl rfl dX9_guestOfInput_17 ?_
    refine lv_iload_n hx hb dX9_guestOfInput_20 rfl (lv_at hl 1 rfl) ?_
    obtain ⟨u3, hu3, hf⟩ := bn hf
    refine cm_S (As := [.ref (aM 1), .int u1]) (rest := []) (w2 := (W_M aM vM_3 ++ (W_A E (aM 1) 306 vnow ++ (W_A E (aM 7) 600 vbuffer)))) hx hb hml hown hg (c_X9_guestBy E l (aM 1) vnow u1 u3 hu3) cs_X9_guestBy ml_X9_185 ⟨⟨rfl, rfl⟩, Nat.le_of_ble_eq_true rfl, Nat.le_of_ble_eq_true rfl⟩ hK hE hP hD hS hA [false, true] rfl rfl rfl rfl hl.1 rfl (Nat.le_of_ble_eq_true rfl) dX9_guestOfInput_21 ⟨Nat.le_of_ble_eq_true rfl, Nat.le_of_ble_eq_true rfl⟩ [.int u3] rfl (fun H locs hP hD hS => ?_)
    refine lv_istore_n (lv' := [(2, .int u3), (1, .int u1), (0, .ref (aM 0))]) hx hb dX9_guestOfInput_24 rfl hl (by decide) rfl (fun ls hl => ?_)
    refine lv_iload_n hx hb dX9_guestOfInput_25 rfl (lv_at hl 0 rfl) ?_
    refine lv_if_ge (tgt := 35) hx hb dX9_guestOfInput_26 (by decide) (fun cq => ?_) (fun cq => ?_)
    · have hf := it cq hf
      refine lv_iload_n hx hb dX9_guestOfInput_35 rfl (lv_at hl 0 rfl) ?_
      obtain rfl := Option.some.inj hf
      exact cm_iret hx hb hr hlocks hP hS dX9_guestOfInput_36
    · have hf := ie cq hf
      refine lv_aload_n hx hb dX9_guestOfInput_29 rfl (lv_at hl 2 rfl) ?_
      refine lv_iconst (v := 1) hx hb dX9_guestOfInput_30 (by decide) ?_
      obtain ⟨u4, hu4, hf⟩ := bn hf
      refine cm_V (As := [.int 1]) (rest := []) (w2 := (W_M aM u4.2 ++ (W_A E (aM 1) 306 vnow ++ (W_A E (aM 7) 600 vbuffer)))) hx hb hml hown hg (c_X9_fails E l aM vM_3 1 u4 hu4) cy_X9_fails ml_X9_133 ⟨⟨rfl, rfl⟩, Nat.le_of_ble_eq_true rfl, Nat.le_of_ble_eq_true rfl⟩ hK hE hP hD hS hA [true] rfl rfl rfl 0 rfl rfl rfl hl.1 rfl (Nat.le_of_ble_eq_true rfl) dX9_guestOfInput_31 ⟨Nat.le_of_ble_eq_true rfl, Nat.le_of_ble_eq_true rfl⟩ [.int u4.1] rfl (fun H locs hP hD hS => ?_)
      obtain rfl := Option.some.inj hf
      exact cm_iret hx hb hr hlocks hP hS dX9_guestOfInput_34
def F_X9_generosity (vM : (Nat → Int32) × Int64) (vnow : Nat → Int32) (x1 : Int32) : Option (Int32 × ((Nat → Int32) × Int64)) := lt (va_up vM.1 3 0, vM.2) (fun vM_3 => (F_X9_guestNumber vM_3 vnow x1 1).bind (fun u1 => (some (u1.1, u1.2))))
abbrev rm_X9_generosity : Room := { frames := 3, cells := 0, slots := 0, locals := 65 }
set_option maxHeartbeats 4000000 in
set_option maxRecDepth 100000 in
theorem c_X9_generosity (E : Ev) (l : Launch) (aM : Nat → Nat) (vM : (Nat → Int32) × Int64) (vnow : Nat → Int32) (x1 : Int32) (r : Int32 × ((Nat → Int32) × Int64)) (hf : F_X9_generosity vM vnow x1 = some r) : CM E l yX9_generosity (.code yX9_generosity cX9_generosity 2 (some .int) :: GA) rm_X9_generosity [.ref (aM 0), .int x1] (W_M aM vM ++ (W_A E (aM 1) 306 vnow)) (some (.int r.1)) (W_M aM r.2 ++ (W_A E (aM 1) 306 vnow)) := by
  refine CM.of (own := RX9) rfl (by decide) (Nat.le_of_ble_eq_true rfl) ?_
  intro p e s m below meth c A ls hx hb hr hml hown hg hlocks hK hE hA hP hD hS hl
  have hl : lv_has ls 2 [(0, .ref (aM 0)), (1, .int x1)] := hl
  unfold F_X9_generosity at hf
  refine lv_aload_n hx hb dX9_generosity_0 rfl (lv_at hl 0 rfl) ?_
  refine lv_iconst (v := 0) hx hb dX9_generosity_1 (by decide) ?_
  refine pf_X9_48 (w2 := (W_M aM (va_up vM.1 3 0, vM.2) ++ (W_A E (aM 1) 306 vnow))) hx hb hg hown hK hP hD hS 0 rfl (Nat.le_of_ble_eq_true rfl) rfl dX9_generosity_2 (fun H locs hP hD hS => ?_)
  obtain ⟨vM_3, hv, hf⟩ := lt_o hf
  rw [← hv] at hP hD
  clear hv
  refine lv_aload_n hx hb dX9_generosity_5 rfl (lv_at hl 0 rfl) ?_
  refine lv_iload_n hx hb dX9_generosity_6 rfl (lv_at hl 1 rfl) ?_
  refine lv_iconst (v := 1) hx hb dX9_generosity_7 (by decide) ?_
  obtain ⟨u1, hu1, hf⟩ := bn hf
  refine cm_V (As := [.int x1, .int 1]) (rest := []) (w2 := (W_M aM u1.2 ++ (W_A E (aM 1) 306 vnow))) hx hb hml hown hg (c_X9_guestNumber E l aM vM_3 vnow x1 1 u1 hu1) cy_X9_guestNumber ml_X9_221 ⟨⟨rfl, rfl⟩, Nat.le_of_ble_eq_true rfl, Nat.le_of_ble_eq_true rfl⟩ hK hE hP hD hS hA [true, true] rfl rfl rfl 0 rfl rfl rfl hl.1 rfl (Nat.le_of_ble_eq_true rfl) dX9_generosity_8 ⟨Nat.le_of_ble_eq_true rfl, Nat.le_of_ble_eq_true rfl⟩ [.int u1.1] rfl (fun H locs hP hD hS => ?_)
  obtain rfl := Option.some.inj hf
  exact cm_iret hx hb hr hlocks hP hS dX9_generosity_11
def F_X9_bark (vM : (Nat → Int32) × Int64) (vnow : Nat → Int32) (x1 : Int32) : Option (Int32 × ((Nat → Int32) × Int64)) := lt (va_up vM.1 3 0, vM.2) (fun vM_3 => (F_X9_guestNumber vM_3 vnow x1 2).bind (fun u1 => (some (u1.1, u1.2))))
abbrev rm_X9_bark : Room := { frames := 3, cells := 0, slots := 0, locals := 65 }
set_option maxHeartbeats 4000000 in
set_option maxRecDepth 100000 in
theorem c_X9_bark (E : Ev) (l : Launch) (aM : Nat → Nat) (vM : (Nat → Int32) × Int64) (vnow : Nat → Int32) (x1 : Int32) (r : Int32 × ((Nat → Int32) × Int64)) (hf : F_X9_bark vM vnow x1 = some r) : CM E l yX9_bark (.code yX9_bark cX9_bark 2 (some .int) :: GA) rm_X9_bark [.ref (aM 0), .int x1] (W_M aM vM ++ (W_A E (aM 1) 306 vnow)) (some (.int r.1)) (W_M aM r.2 ++ (W_A E (aM 1) 306 vnow)) := by
  refine CM.of (own := RX9) rfl (by decide) (Nat.le_of_ble_eq_true rfl) ?_
  intro p e s m below meth c A ls hx hb hr hml hown hg hlocks hK hE hA hP hD hS hl
  have hl : lv_has ls 2 [(0, .ref (aM 0)), (1, .int x1)] := hl
  unfold F_X9_bark at hf
  refine lv_aload_n hx hb dX9_bark_0 rfl (lv_at hl 0 rfl) ?_
  refine lv_iconst (v := 0) hx hb dX9_bark_1 (by decide) ?_
  refine pf_X9_48 (w2 := (W_M aM (va_up vM.1 3 0, vM.2) ++ (W_A E (aM 1) 306 vnow))) hx hb hg hown hK hP hD hS 0 rfl (Nat.le_of_ble_eq_true rfl) rfl dX9_bark_2 (fun H locs hP hD hS => ?_)
  obtain ⟨vM_3, hv, hf⟩ := lt_o hf
  rw [← hv] at hP hD
  clear hv
  refine lv_aload_n hx hb dX9_bark_5 rfl (lv_at hl 0 rfl) ?_
  refine lv_iload_n hx hb dX9_bark_6 rfl (lv_at hl 1 rfl) ?_
  refine lv_iconst (v := 2) hx hb dX9_bark_7 (by decide) ?_
  obtain ⟨u1, hu1, hf⟩ := bn hf
  refine cm_V (As := [.int x1, .int 2]) (rest := []) (w2 := (W_M aM u1.2 ++ (W_A E (aM 1) 306 vnow))) hx hb hml hown hg (c_X9_guestNumber E l aM vM_3 vnow x1 2 u1 hu1) cy_X9_guestNumber ml_X9_221 ⟨⟨rfl, rfl⟩, Nat.le_of_ble_eq_true rfl, Nat.le_of_ble_eq_true rfl⟩ hK hE hP hD hS hA [true, true] rfl rfl rfl 0 rfl rfl rfl hl.1 rfl (Nat.le_of_ble_eq_true rfl) dX9_bark_8 ⟨Nat.le_of_ble_eq_true rfl, Nat.le_of_ble_eq_true rfl⟩ [.int u1.1] rfl (fun H locs hP hD hS => ?_)
  obtain rfl := Option.some.inj hf
  exact cm_iret hx hb hr hlocks hP hS dX9_bark_11
def F_X9_isOut (vM : (Nat → Int32) × Int64) (vnow : Nat → Int32) (x1 : Int32) : Option (Int32 × ((Nat → Int32) × Int64)) := lt (va_up vM.1 3 0, vM.2) (fun vM_3 => (F_X9_guestNumber vM_3 vnow x1 3).bind (fun u1 => (some ((if u1.1 = 1 then 1 else 0), u1.2))))
abbrev rm_X9_isOut : Room := { frames := 3, cells := 0, slots := 0, locals := 65 }
set_option maxHeartbeats 4000000 in
set_option maxRecDepth 100000 in
theorem c_X9_isOut (E : Ev) (l : Launch) (aM : Nat → Nat) (vM : (Nat → Int32) × Int64) (vnow : Nat → Int32) (x1 : Int32) (r : Int32 × ((Nat → Int32) × Int64)) (hf : F_X9_isOut vM vnow x1 = some r) : CM E l yX9_isOut (.code yX9_isOut cX9_isOut 2 (some .boolean) :: GA) rm_X9_isOut [.ref (aM 0), .int x1] (W_M aM vM ++ (W_A E (aM 1) 306 vnow)) (some (.int r.1)) (W_M aM r.2 ++ (W_A E (aM 1) 306 vnow)) := by
  refine CM.of (own := RX9) rfl (by decide) (Nat.le_of_ble_eq_true rfl) ?_
  intro p e s m below meth c A ls hx hb hr hml hown hg hlocks hK hE hA hP hD hS hl
  have hl : lv_has ls 2 [(0, .ref (aM 0)), (1, .int x1)] := hl
  unfold F_X9_isOut at hf
  refine lv_aload_n hx hb dX9_isOut_0 rfl (lv_at hl 0 rfl) ?_
  refine lv_iconst (v := 0) hx hb dX9_isOut_1 (by decide) ?_
  refine pf_X9_48 (w2 := (W_M aM (va_up vM.1 3 0, vM.2) ++ (W_A E (aM 1) 306 vnow))) hx hb hg hown hK hP hD hS 0 rfl (Nat.le_of_ble_eq_true rfl) rfl dX9_isOut_2 (fun H locs hP hD hS => ?_)
  obtain ⟨vM_3, hv, hf⟩ := lt_o hf
  rw [← hv] at hP hD
  clear hv
  refine lv_aload_n hx hb dX9_isOut_5 rfl (lv_at hl 0 rfl) ?_
  refine lv_iload_n hx hb dX9_isOut_6 rfl (lv_at hl 1 rfl) ?_
  refine lv_iconst (v := 3) hx hb dX9_isOut_7 (by decide) ?_
  obtain ⟨u1, hu1, hf⟩ := bn hf
  refine cm_V (As := [.int x1, .int 3]) (rest := []) (w2 := (W_M aM u1.2 ++ (W_A E (aM 1) 306 vnow))) hx hb hml hown hg (c_X9_guestNumber E l aM vM_3 vnow x1 3 u1 hu1) cy_X9_guestNumber ml_X9_221 ⟨⟨rfl, rfl⟩, Nat.le_of_ble_eq_true rfl, Nat.le_of_ble_eq_true rfl⟩ hK hE hP hD hS hA [true, true] rfl rfl rfl 0 rfl rfl rfl hl.1 rfl (Nat.le_of_ble_eq_true rfl) dX9_isOut_8 ⟨Nat.le_of_ble_eq_true rfl, Nat.le_of_ble_eq_true rfl⟩ [.int u1.1] rfl (fun H locs hP hD hS => ?_)
  refine lv_iconst (v := 1) hx hb dX9_isOut_11 (by decide) ?_
  refine wj (F0 m 20 ls [.int (if u1.1 = 1 then 1 else 0)]) ?_ (fun jk => ?_)
  rotate_left
  · refine lv_icmp_ne (tgt := 19) hx hb dX9_isOut_12 (by decide) (fun cq => ?_) (fun cq => ?_)
    · rw [if_neg cq] at jk
      refine lv_iconst (v := 0) hx hb dX9_isOut_19 (by decide) ?_
      exact jk
    · rw [if_pos cq] at jk
      refine lv_iconst (v := 1) hx hb dX9_isOut_15 (by decide) ?_
      refine lv_goto (tgt := 20) hx hb dX9_isOut_16 (by decide) ?_
      exact jk
  obtain rfl := Option.some.inj hf
  exact cm_zret (v := (if u1.1 = 1 then 1 else 0)) hx hb hr hlocks hP hS (by split <;> rfl) dX9_isOut_20
def F_X9_outSince (vM : (Nat → Int32) × Int64) (vnow : Nat → Int32) (x1 : Int32) : Option (Int32 × ((Nat → Int32) × Int64)) := lt (va_up vM.1 3 0, vM.2) (fun vM_3 => (F_X9_isGuest vM_3 vnow x1).bind (fun u1 => (if u1 = 0 then (F_X9_fails vM_3 1).bind (fun u5 => (some (u5.1, u5.2))) else (F_X9_isAway vnow x1).bind (fun u2 => (if u2 = 0 then (F_X9_fails vM_3 2).bind (fun u3 => (some (u3.1, u3.2))) else (F_X9_guestAt x1 4).bind (fun u4 => ck u4 306 ((some ((vnow (Int32.toNatClampNeg u4)), vM_3)))))))))
abbrev rm_X9_outSince : Room := { frames := 2, cells := 0, slots := 0, locals := 43 }
set_option maxHeartbeats 4000000 in
set_option maxRecDepth 100000 in
theorem c_X9_outSince (E : Ev) (l : Launch) (aM : Nat → Nat) (vM : (Nat → Int32) × Int64) (vnow : Nat → Int32) (x1 : Int32) (r : Int32 × ((Nat → Int32) × Int64)) (hf : F_X9_outSince vM vnow x1 = some r) : CM E l yX9_outSince (.code yX9_outSince cX9_outSince 2 (some .int) :: GA) rm_X9_outSince [.ref (aM 0), .int x1] (W_M aM vM ++ (W_A E (aM 1) 306 vnow)) (some (.int r.1)) (W_M aM r.2 ++ (W_A E (aM 1) 306 vnow)) := by
  refine CM.of (own := RX9) rfl (by decide) (Nat.le_of_ble_eq_true rfl) ?_
  intro p e s m below meth c A ls hx hb hr hml hown hg hlocks hK hE hA hP hD hS hl
  have hl : lv_has ls 2 [(0, .ref (aM 0)), (1, .int x1)] := hl
  unfold F_X9_outSince at hf
  refine lv_aload_n hx hb dX9_outSince_0 rfl (lv_at hl 0 rfl) ?_
  refine lv_iconst (v := 0) hx hb dX9_outSince_1 (by decide) ?_
  refine pf_X9_48 (w2 := (W_M aM (va_up vM.1 3 0, vM.2) ++ (W_A E (aM 1) 306 vnow))) hx hb hg hown hK hP hD hS 0 rfl (Nat.le_of_ble_eq_true rfl) rfl dX9_outSince_2 (fun H locs hP hD hS => ?_)
  obtain ⟨vM_3, hv, hf⟩ := lt_o hf
  rw [← hv] at hP hD
  clear hv
  refine lv_aload_n hx hb dX9_outSince_5 rfl (lv_at hl 0 rfl) ?_
  refine lv_iload_n hx hb dX9_outSince_6 rfl (lv_at hl 1 rfl) ?_
  obtain ⟨u1, hu1, hf⟩ := bn hf
  refine cm_V (As := [.int x1]) (rest := []) (w2 := (W_M aM vM_3 ++ (W_A E (aM 1) 306 vnow))) hx hb hml hown hg (c_X9_isGuest E l aM vM_3 vnow x1 u1 hu1) cy_X9_isGuest ml_X9_218 ⟨⟨rfl, rfl⟩, Nat.le_of_ble_eq_true rfl, Nat.le_of_ble_eq_true rfl⟩ hK hE hP hD hS hA [true, true] rfl rfl rfl 0 rfl rfl rfl hl.1 rfl (Nat.le_of_ble_eq_true rfl) dX9_outSince_7 ⟨Nat.le_of_ble_eq_true rfl, Nat.le_of_ble_eq_true rfl⟩ [.int u1] rfl (fun H locs hP hD hS => ?_)
  refine lv_if_ne (tgt := 19) hx hb dX9_outSince_10 (by decide) (fun cq => ?_) (fun cq => ?_)
  · have hf := ie cq hf
    refine lv_aload_n hx hb dX9_outSince_19 rfl (lv_at hl 0 rfl) ?_
    refine gf_X9_7 hx hb hg hown hK hP 0 rfl rfl dX9_outSince_20 ?_
    refine lv_iload_n hx hb dX9_outSince_23 rfl (lv_at hl 1 rfl) ?_
    obtain ⟨u2, hu2, hf⟩ := bn hf
    refine cm_S (As := [.ref (aM 1), .int x1]) (rest := []) (w2 := (W_M aM vM_3 ++ (W_A E (aM 1) 306 vnow))) hx hb hml hown hg (c_X9_isAway E l (aM 1) vnow x1 u2 hu2) cs_X9_isAway ml_X9_109 ⟨⟨rfl, rfl⟩, Nat.le_of_ble_eq_true rfl, Nat.le_of_ble_eq_true rfl⟩ hK hE hP hD hS hA [false, true] rfl rfl rfl rfl hl.1 rfl (Nat.le_of_ble_eq_true rfl) dX9_outSince_24 ⟨Nat.le_of_ble_eq_true rfl, Nat.le_of_ble_eq_true rfl⟩ [.int u2] rfl (fun H locs hP hD hS => ?_)
    refine lv_if_eq (tgt := 41) hx hb dX9_outSince_27 (by decide) (fun cq => ?_) (fun cq => ?_)
    · have hf := it cq hf
      refine lv_aload_n hx hb dX9_outSince_41 rfl (lv_at hl 0 rfl) ?_
      refine lv_iconst (v := 2) hx hb dX9_outSince_42 (by decide) ?_
      obtain ⟨u3, hu3, hf⟩ := bn hf
      refine cm_V (As := [.int 2]) (rest := []) (w2 := (W_M aM u3.2 ++ (W_A E (aM 1) 306 vnow))) hx hb hml hown hg (c_X9_fails E l aM vM_3 2 u3 hu3) cy_X9_fails ml_X9_133 ⟨⟨rfl, rfl⟩, Nat.le_of_ble_eq_true rfl, Nat.le_of_ble_eq_true rfl⟩ hK hE hP hD hS hA [true] rfl rfl rfl 0 rfl rfl rfl hl.1 rfl (Nat.le_of_ble_eq_true rfl) dX9_outSince_43 ⟨Nat.le_of_ble_eq_true rfl, Nat.le_of_ble_eq_true rfl⟩ [.int u3.1] rfl (fun H locs hP hD hS => ?_)
      obtain rfl := Option.some.inj hf
      exact cm_iret hx hb hr hlocks hP hS dX9_outSince_46
    · have hf := ie cq hf
      refine lv_aload_n hx hb dX9_outSince_30 rfl (lv_at hl 0 rfl) ?_
      refine gf_X9_7 hx hb hg hown hK hP 0 rfl rfl dX9_outSince_31 ?_
      refine lv_iload_n hx hb dX9_outSince_34 rfl (lv_at hl 1 rfl) ?_
      refine lv_iconst (v := 4) hx hb dX9_outSince_35 (by decide) ?_
      obtain ⟨u4, hu4, hf⟩ := bn hf
      refine cm_S (As := [.int x1, .int 4]) (rest := [.ref (aM 1)]) (w2 := (W_M aM vM_3 ++ (W_A E (aM 1) 306 vnow))) hx hb hml hown hg (c_X9_guestAt E l x1 4 u4 hu4) cs_X9_guestAt ml_X9_59 ⟨⟨rfl, rfl⟩, Nat.le_of_ble_eq_true rfl, Nat.le_of_ble_eq_true rfl⟩ hK hE hP hD hS hA [] rfl rfl rfl rfl hl.1 rfl (Nat.le_of_ble_eq_true rfl) dX9_outSince_36 ⟨Nat.le_of_ble_eq_true rfl, Nat.le_of_ble_eq_true rfl⟩ [.int u4, .ref (aM 1)] rfl (fun H locs hP hD hS => ?_)
      obtain ⟨hi, hf⟩ := ck_o hf
      refine ar_ld hx hb hK hP 1 rfl hi dX9_outSince_39 ?_
      obtain rfl := Option.some.inj hf
      exact cm_iret hx hb hr hlocks hP hS dX9_outSince_40
  · have hf := it cq hf
    refine lv_aload_n hx hb dX9_outSince_13 rfl (lv_at hl 0 rfl) ?_
    refine lv_iconst (v := 1) hx hb dX9_outSince_14 (by decide) ?_
    obtain ⟨u5, hu5, hf⟩ := bn hf
    refine cm_V (As := [.int 1]) (rest := []) (w2 := (W_M aM u5.2 ++ (W_A E (aM 1) 306 vnow))) hx hb hml hown hg (c_X9_fails E l aM vM_3 1 u5 hu5) cy_X9_fails ml_X9_133 ⟨⟨rfl, rfl⟩, Nat.le_of_ble_eq_true rfl, Nat.le_of_ble_eq_true rfl⟩ hK hE hP hD hS hA [true] rfl rfl rfl 0 rfl rfl rfl hl.1 rfl (Nat.le_of_ble_eq_true rfl) dX9_outSince_15 ⟨Nat.le_of_ble_eq_true rfl, Nat.le_of_ble_eq_true rfl⟩ [.int u5.1] rfl (fun H locs hP hD hS => ?_)
    obtain rfl := Option.some.inj hf
    exact cm_iret hx hb hr hlocks hP hS dX9_outSince_18
def F_X9_soak (vM : (Nat → Int32) × Int64) (vnow : Nat → Int32) (x1 : Int32) : Option (Int32 × ((Nat → Int32) × Int64)) := lt (va_up vM.1 3 0, vM.2) (fun vM_3 => (F_X9_guestNumber vM_3 vnow x1 5).bind (fun u1 => (some (u1.1, u1.2))))
abbrev rm_X9_soak : Room := { frames := 3, cells := 0, slots := 0, locals := 65 }
set_option maxHeartbeats 4000000 in
set_option maxRecDepth 100000 in
theorem c_X9_soak (E : Ev) (l : Launch) (aM : Nat → Nat) (vM : (Nat → Int32) × Int64) (vnow : Nat → Int32) (x1 : Int32) (r : Int32 × ((Nat → Int32) × Int64)) (hf : F_X9_soak vM vnow x1 = some r) : CM E l yX9_soak (.code yX9_soak cX9_soak 2 (some .int) :: GA) rm_X9_soak [.ref (aM 0), .int x1] (W_M aM vM ++ (W_A E (aM 1) 306 vnow)) (some (.int r.1)) (W_M aM r.2 ++ (W_A E (aM 1) 306 vnow)) := by
  refine CM.of (own := RX9) rfl (by decide) (Nat.le_of_ble_eq_true rfl) ?_
  intro p e s m below meth c A ls hx hb hr hml hown hg hlocks hK hE hA hP hD hS hl
  have hl : lv_has ls 2 [(0, .ref (aM 0)), (1, .int x1)] := hl
  unfold F_X9_soak at hf
  refine lv_aload_n hx hb dX9_soak_0 rfl (lv_at hl 0 rfl) ?_
  refine lv_iconst (v := 0) hx hb dX9_soak_1 (by decide) ?_
  refine pf_X9_48 (w2 := (W_M aM (va_up vM.1 3 0, vM.2) ++ (W_A E (aM 1) 306 vnow))) hx hb hg hown hK hP hD hS 0 rfl (Nat.le_of_ble_eq_true rfl) rfl dX9_soak_2 (fun H locs hP hD hS => ?_)
  obtain ⟨vM_3, hv, hf⟩ := lt_o hf
  rw [← hv] at hP hD
  clear hv
  refine lv_aload_n hx hb dX9_soak_5 rfl (lv_at hl 0 rfl) ?_
  refine lv_iload_n hx hb dX9_soak_6 rfl (lv_at hl 1 rfl) ?_
  refine lv_iconst (v := 5) hx hb dX9_soak_7 (by decide) ?_
  obtain ⟨u1, hu1, hf⟩ := bn hf
  refine cm_V (As := [.int x1, .int 5]) (rest := []) (w2 := (W_M aM u1.2 ++ (W_A E (aM 1) 306 vnow))) hx hb hml hown hg (c_X9_guestNumber E l aM vM_3 vnow x1 5 u1 hu1) cy_X9_guestNumber ml_X9_221 ⟨⟨rfl, rfl⟩, Nat.le_of_ble_eq_true rfl, Nat.le_of_ble_eq_true rfl⟩ hK hE hP hD hS hA [true, true] rfl rfl rfl 0 rfl rfl rfl hl.1 rfl (Nat.le_of_ble_eq_true rfl) dX9_soak_8 ⟨Nat.le_of_ble_eq_true rfl, Nat.le_of_ble_eq_true rfl⟩ [.int u1.1] rfl (fun H locs hP hD hS => ?_)
  obtain rfl := Option.some.inj hf
  exact cm_iret hx hb hr hlocks hP hS dX9_soak_11
def F_X9_keysAtDesk (vM : (Nat → Int32) × Int64) (vnow : Nat → Int32) : Option (Int32 × ((Nat → Int32) × Int64)) := lt (va_up vM.1 3 0, vM.2) (fun vM_3 => (F_X9_awayMany vnow).bind (fun u1 => (some (u1, vM_3))))
abbrev rm_X9_keysAtDesk : Room := { frames := 2, cells := 0, slots := 0, locals := 43 }
set_option maxHeartbeats 4000000 in
set_option maxRecDepth 100000 in
theorem c_X9_keysAtDesk (E : Ev) (l : Launch) (aM : Nat → Nat) (vM : (Nat → Int32) × Int64) (vnow : Nat → Int32) (r : Int32 × ((Nat → Int32) × Int64)) (hf : F_X9_keysAtDesk vM vnow = some r) : CM E l yX9_keysAtDesk (.code yX9_keysAtDesk cX9_keysAtDesk 1 (some .int) :: GA) rm_X9_keysAtDesk [.ref (aM 0)] (W_M aM vM ++ (W_A E (aM 1) 306 vnow)) (some (.int r.1)) (W_M aM r.2 ++ (W_A E (aM 1) 306 vnow)) := by
  refine CM.of (own := RX9) rfl (by decide) (Nat.le_of_ble_eq_true rfl) ?_
  intro p e s m below meth c A ls hx hb hr hml hown hg hlocks hK hE hA hP hD hS hl
  have hl : lv_has ls 1 [(0, .ref (aM 0))] := hl
  unfold F_X9_keysAtDesk at hf
  refine lv_aload_n hx hb dX9_keysAtDesk_0 rfl (lv_at hl 0 rfl) ?_
  refine lv_iconst (v := 0) hx hb dX9_keysAtDesk_1 (by decide) ?_
  refine pf_X9_48 (w2 := (W_M aM (va_up vM.1 3 0, vM.2) ++ (W_A E (aM 1) 306 vnow))) hx hb hg hown hK hP hD hS 0 rfl (Nat.le_of_ble_eq_true rfl) rfl dX9_keysAtDesk_2 (fun H locs hP hD hS => ?_)
  obtain ⟨vM_3, hv, hf⟩ := lt_o hf
  rw [← hv] at hP hD
  clear hv
  refine lv_aload_n hx hb dX9_keysAtDesk_5 rfl (lv_at hl 0 rfl) ?_
  refine gf_X9_7 hx hb hg hown hK hP 0 rfl rfl dX9_keysAtDesk_6 ?_
  obtain ⟨u1, hu1, hf⟩ := bn hf
  refine cm_S (As := [.ref (aM 1)]) (rest := []) (w2 := (W_M aM vM_3 ++ (W_A E (aM 1) 306 vnow))) hx hb hml hown hg (c_X9_awayMany E l (aM 1) vnow u1 hu1) cs_X9_awayMany ml_X9_100 ⟨⟨rfl, rfl⟩, Nat.le_of_ble_eq_true rfl, Nat.le_of_ble_eq_true rfl⟩ hK hE hP hD hS hA [false, true] rfl rfl rfl rfl hl.1 rfl (Nat.le_of_ble_eq_true rfl) dX9_keysAtDesk_9 ⟨Nat.le_of_ble_eq_true rfl, Nat.le_of_ble_eq_true rfl⟩ [.int u1] rfl (fun H locs hP hD hS => ?_)
  obtain rfl := Option.some.inj hf
  exact cm_iret hx hb hr hlocks hP hS dX9_keysAtDesk_12
def F_X9_wouldBark (vM : (Nat → Int32) × Int64) (vnow : Nat → Int32) (x1 : Int32) : Option (Int32 × ((Nat → Int32) × Int64)) := lt (va_up vM.1 3 0, vM.2) (fun vM_3 => (F_X9_isGuest vM_3 vnow x1).bind (fun u1 => (if u1 = 0 then (F_X9_isFailed vM_3 1).bind (fun u2 => (cn (u2.1 = 0 ∨ u2.1 = 1) (some (u2.1, u2.2)))) else ck 0 306 ((F_X9_barksAt vnow x1 ((vnow (Int32.toNatClampNeg 0)) + 1)).bind (fun u3 => (cn (u3 = 0 ∨ u3 = 1) (some (u3, vM_3))))))))
abbrev rm_X9_wouldBark : Room := { frames := 3, cells := 0, slots := 0, locals := 65 }
set_option maxHeartbeats 4000000 in
set_option maxRecDepth 100000 in
theorem c_X9_wouldBark (E : Ev) (l : Launch) (aM : Nat → Nat) (vM : (Nat → Int32) × Int64) (vnow : Nat → Int32) (x1 : Int32) (r : Int32 × ((Nat → Int32) × Int64)) (hf : F_X9_wouldBark vM vnow x1 = some r) : CM E l yX9_wouldBark (.code yX9_wouldBark cX9_wouldBark 2 (some .boolean) :: GA) rm_X9_wouldBark [.ref (aM 0), .int x1] (W_M aM vM ++ (W_A E (aM 1) 306 vnow)) (some (.int r.1)) (W_M aM r.2 ++ (W_A E (aM 1) 306 vnow)) := by
  refine CM.of (own := RX9) rfl (by decide) (Nat.le_of_ble_eq_true rfl) ?_
  intro p e s m below meth c A ls hx hb hr hml hown hg hlocks hK hE hA hP hD hS hl
  have hl : lv_has ls 2 [(0, .ref (aM 0)), (1, .int x1)] := hl
  unfold F_X9_wouldBark at hf
  refine lv_aload_n hx hb dX9_wouldBark_0 rfl (lv_at hl 0 rfl) ?_
  refine lv_iconst (v := 0) hx hb dX9_wouldBark_1 (by decide) ?_
  refine pf_X9_48 (w2 := (W_M aM (va_up vM.1 3 0, vM.2) ++ (W_A E (aM 1) 306 vnow))) hx hb hg hown hK hP hD hS 0 rfl (Nat.le_of_ble_eq_true rfl) rfl dX9_wouldBark_2 (fun H locs hP hD hS => ?_)
  obtain ⟨vM_3, hv, hf⟩ := lt_o hf
  rw [← hv] at hP hD
  clear hv
  refine lv_aload_n hx hb dX9_wouldBark_5 rfl (lv_at hl 0 rfl) ?_
  refine lv_iload_n hx hb dX9_wouldBark_6 rfl (lv_at hl 1 rfl) ?_
  obtain ⟨u1, hu1, hf⟩ := bn hf
  refine cm_V (As := [.int x1]) (rest := []) (w2 := (W_M aM vM_3 ++ (W_A E (aM 1) 306 vnow))) hx hb hml hown hg (c_X9_isGuest E l aM vM_3 vnow x1 u1 hu1) cy_X9_isGuest ml_X9_218 ⟨⟨rfl, rfl⟩, Nat.le_of_ble_eq_true rfl, Nat.le_of_ble_eq_true rfl⟩ hK hE hP hD hS hA [true, true] rfl rfl rfl 0 rfl rfl rfl hl.1 rfl (Nat.le_of_ble_eq_true rfl) dX9_wouldBark_7 ⟨Nat.le_of_ble_eq_true rfl, Nat.le_of_ble_eq_true rfl⟩ [.int u1] rfl (fun H locs hP hD hS => ?_)
  refine lv_if_eq (tgt := 30) hx hb dX9_wouldBark_10 (by decide) (fun cq => ?_) (fun cq => ?_)
  · have hf := it cq hf
    refine lv_aload_n hx hb dX9_wouldBark_30 rfl (lv_at hl 0 rfl) ?_
    refine lv_iconst (v := 1) hx hb dX9_wouldBark_31 (by decide) ?_
    obtain ⟨u2, hu2, hf⟩ := bn hf
    refine cm_V (As := [.int 1]) (rest := []) (w2 := (W_M aM u2.2 ++ (W_A E (aM 1) 306 vnow))) hx hb hml hown hg (c_X9_isFailed E l aM vM_3 1 u2 hu2) cy_X9_isFailed ml_X9_230 ⟨⟨rfl, rfl⟩, Nat.le_of_ble_eq_true rfl, Nat.le_of_ble_eq_true rfl⟩ hK hE hP hD hS hA [true] rfl rfl rfl 0 rfl rfl rfl hl.1 rfl (Nat.le_of_ble_eq_true rfl) dX9_wouldBark_32 ⟨Nat.le_of_ble_eq_true rfl, Nat.le_of_ble_eq_true rfl⟩ [.int u2.1] rfl (fun H locs hP hD hS => ?_)
    obtain ⟨hz, hf⟩ := cn_o hf
    obtain rfl := Option.some.inj hf
    exact cm_zret (v := u2.1) hx hb hr hlocks hP hS (nar01 hz) dX9_wouldBark_35
  · have hf := ie cq hf
    refine lv_aload_n hx hb dX9_wouldBark_13 rfl (lv_at hl 0 rfl) ?_
    refine gf_X9_7 hx hb hg hown hK hP 0 rfl rfl dX9_wouldBark_14 ?_
    refine lv_iload_n hx hb dX9_wouldBark_17 rfl (lv_at hl 1 rfl) ?_
    refine lv_aload_n hx hb dX9_wouldBark_18 rfl (lv_at hl 0 rfl) ?_
    refine gf_X9_7 hx hb hg hown hK hP 0 rfl rfl dX9_wouldBark_19 ?_
    refine lv_iconst (v := 0) hx hb dX9_wouldBark_22 (by decide) ?_
    obtain ⟨hi, hf⟩ := ck_o hf
    refine ar_ld hx hb hK hP 1 rfl hi dX9_wouldBark_23 ?_
    refine lv_iconst (v := 1) hx hb dX9_wouldBark_24 (by decide) ?_
    refine lv_iadd hx hb dX9_wouldBark_25 ?_
    obtain ⟨u3, hu3, hf⟩ := bn hf
    refine cm_S (As := [.ref (aM 1), .int x1, .int ((vnow (Int32.toNatClampNeg 0)) + 1)]) (rest := []) (w2 := (W_M aM vM_3 ++ (W_A E (aM 1) 306 vnow))) hx hb hml hown hg (c_X9_barksAt E l (aM 1) vnow x1 ((vnow (Int32.toNatClampNeg 0)) + 1) u3 hu3) cs_X9_barksAt ml_X9_112 ⟨⟨rfl, rfl⟩, Nat.le_of_ble_eq_true rfl, Nat.le_of_ble_eq_true rfl⟩ hK hE hP hD hS hA [false, true] rfl rfl rfl rfl hl.1 rfl (Nat.le_of_ble_eq_true rfl) dX9_wouldBark_26 ⟨Nat.le_of_ble_eq_true rfl, Nat.le_of_ble_eq_true rfl⟩ [.int u3] rfl (fun H locs hP hD hS => ?_)
    obtain ⟨hz, hf⟩ := cn_o hf
    obtain rfl := Option.some.inj hf
    exact cm_zret (v := u3) hx hb hr hlocks hP hS (nar01 hz) dX9_wouldBark_29
def F_X9_umbrellaNumber (vM : (Nat → Int32) × Int64) (vnow : Nat → Int32) (x1 : Int32) (x2 : Int32) : Option (Int32 × ((Nat → Int32) × Int64)) := (F_X9_isUmbrella vM vnow x1).bind (fun u1 => (if u1 = 0 then (F_X9_fails vM 1).bind (fun u2 => (some (u2.1, u2.2))) else (F_X9_umbrellaAt x1 x2).bind (fun u3 => ck u3 306 ((some ((vnow (Int32.toNatClampNeg u3)), vM))))))
abbrev rm_X9_umbrellaNumber : Room := { frames := 2, cells := 0, slots := 0, locals := 43 }
set_option maxHeartbeats 4000000 in
set_option maxRecDepth 100000 in
theorem c_X9_umbrellaNumber (E : Ev) (l : Launch) (aM : Nat → Nat) (vM : (Nat → Int32) × Int64) (vnow : Nat → Int32) (x1 : Int32) (x2 : Int32) (r : Int32 × ((Nat → Int32) × Int64)) (hf : F_X9_umbrellaNumber vM vnow x1 x2 = some r) : CM E l yX9_umbrellaNumber (.code yX9_umbrellaNumber cX9_umbrellaNumber 3 (some .int) :: GA) rm_X9_umbrellaNumber [.ref (aM 0), .int x1, .int x2] (W_M aM vM ++ (W_A E (aM 1) 306 vnow)) (some (.int r.1)) (W_M aM r.2 ++ (W_A E (aM 1) 306 vnow)) := by
  refine CM.of (own := RX9) rfl (by decide) (Nat.le_of_ble_eq_true rfl) ?_
  intro p e s m below meth c A ls hx hb hr hml hown hg hlocks hK hE hA hP hD hS hl
  have hl : lv_has ls 3 [(0, .ref (aM 0)), (1, .int x1), (2, .int x2)] := hl
  unfold F_X9_umbrellaNumber at hf
  refine lv_aload_n hx hb dX9_umbrellaNumber_0 rfl (lv_at hl 0 rfl) ?_
  refine lv_iload_n hx hb dX9_umbrellaNumber_1 rfl (lv_at hl 1 rfl) ?_
  obtain ⟨u1, hu1, hf⟩ := bn hf
  refine cm_V (As := [.int x1]) (rest := []) (w2 := (W_M aM vM ++ (W_A E (aM 1) 306 vnow))) hx hb hml hown hg (c_X9_isUmbrella E l aM vM vnow x1 u1 hu1) cy_X9_isUmbrella ml_X9_233 ⟨⟨rfl, rfl⟩, Nat.le_of_ble_eq_true rfl, Nat.le_of_ble_eq_true rfl⟩ hK hE hP hD hS hA [true, true] rfl rfl rfl 0 rfl rfl rfl hl.1 rfl (Nat.le_of_ble_eq_true rfl) dX9_umbrellaNumber_2 ⟨Nat.le_of_ble_eq_true rfl, Nat.le_of_ble_eq_true rfl⟩ [.int u1] rfl (fun H locs hP hD hS => ?_)
  refine lv_if_eq (tgt := 19) hx hb dX9_umbrellaNumber_5 (by decide) (fun cq => ?_) (fun cq => ?_)
  · have hf := it cq hf
    refine lv_aload_n hx hb dX9_umbrellaNumber_19 rfl (lv_at hl 0 rfl) ?_
    refine lv_iconst (v := 1) hx hb dX9_umbrellaNumber_20 (by decide) ?_
    obtain ⟨u2, hu2, hf⟩ := bn hf
    refine cm_V (As := [.int 1]) (rest := []) (w2 := (W_M aM u2.2 ++ (W_A E (aM 1) 306 vnow))) hx hb hml hown hg (c_X9_fails E l aM vM 1 u2 hu2) cy_X9_fails ml_X9_133 ⟨⟨rfl, rfl⟩, Nat.le_of_ble_eq_true rfl, Nat.le_of_ble_eq_true rfl⟩ hK hE hP hD hS hA [true] rfl rfl rfl 0 rfl rfl rfl hl.1 rfl (Nat.le_of_ble_eq_true rfl) dX9_umbrellaNumber_21 ⟨Nat.le_of_ble_eq_true rfl, Nat.le_of_ble_eq_true rfl⟩ [.int u2.1] rfl (fun H locs hP hD hS => ?_)
    obtain rfl := Option.some.inj hf
    exact cm_iret hx hb hr hlocks hP hS dX9_umbrellaNumber_24
  · have hf := ie cq hf
    refine lv_aload_n hx hb dX9_umbrellaNumber_8 rfl (lv_at hl 0 rfl) ?_
    refine gf_X9_7 hx hb hg hown hK hP 0 rfl rfl dX9_umbrellaNumber_9 ?_
    refine lv_iload_n hx hb dX9_umbrellaNumber_12 rfl (lv_at hl 1 rfl) ?_
    refine lv_iload_n hx hb dX9_umbrellaNumber_13 rfl (lv_at hl 2 rfl) ?_
    obtain ⟨u3, hu3, hf⟩ := bn hf
    refine cm_S (As := [.int x1, .int x2]) (rest := [.ref (aM 1)]) (w2 := (W_M aM vM ++ (W_A E (aM 1) 306 vnow))) hx hb hml hown hg (c_X9_umbrellaAt E l x1 x2 u3 hu3) cs_X9_umbrellaAt ml_X9_63 ⟨⟨rfl, rfl⟩, Nat.le_of_ble_eq_true rfl, Nat.le_of_ble_eq_true rfl⟩ hK hE hP hD hS hA [] rfl rfl rfl rfl hl.1 rfl (Nat.le_of_ble_eq_true rfl) dX9_umbrellaNumber_14 ⟨Nat.le_of_ble_eq_true rfl, Nat.le_of_ble_eq_true rfl⟩ [.int u3, .ref (aM 1)] rfl (fun H locs hP hD hS => ?_)
    obtain ⟨hi, hf⟩ := ck_o hf
    refine ar_ld hx hb hK hP 1 rfl hi dX9_umbrellaNumber_17 ?_
    obtain rfl := Option.some.inj hf
    exact cm_iret hx hb hr hlocks hP hS dX9_umbrellaNumber_18
def F_X9_umbrellaCount (vM : (Nat → Int32) × Int64) (vnow : Nat → Int32) : Option (Int32 × ((Nat → Int32) × Int64)) := lt (va_up vM.1 3 0, vM.2) (fun vM_3 => ck 8 306 ((some ((vnow (Int32.toNatClampNeg 8)), vM_3))))
abbrev rm_X9_umbrellaCount : Room := { frames := 0, cells := 0, slots := 0, locals := 0 }
set_option maxHeartbeats 4000000 in
set_option maxRecDepth 100000 in
theorem c_X9_umbrellaCount (E : Ev) (l : Launch) (aM : Nat → Nat) (vM : (Nat → Int32) × Int64) (vnow : Nat → Int32) (r : Int32 × ((Nat → Int32) × Int64)) (hf : F_X9_umbrellaCount vM vnow = some r) : CM E l yX9_umbrellaCount (.code yX9_umbrellaCount cX9_umbrellaCount 1 (some .int) :: GA) rm_X9_umbrellaCount [.ref (aM 0)] (W_M aM vM ++ (W_A E (aM 1) 306 vnow)) (some (.int r.1)) (W_M aM r.2 ++ (W_A E (aM 1) 306 vnow)) := by
  refine CM.of (own := RX9) rfl (by decide) (Nat.le_of_ble_eq_true rfl) ?_
  intro p e s m below meth c A ls hx hb hr hml hown hg hlocks hK hE hA hP hD hS hl
  have hl : lv_has ls 1 [(0, .ref (aM 0))] := hl
  unfold F_X9_umbrellaCount at hf
  refine lv_aload_n hx hb dX9_umbrellaCount_0 rfl (lv_at hl 0 rfl) ?_
  refine lv_iconst (v := 0) hx hb dX9_umbrellaCount_1 (by decide) ?_
  refine pf_X9_48 (w2 := (W_M aM (va_up vM.1 3 0, vM.2) ++ (W_A E (aM 1) 306 vnow))) hx hb hg hown hK hP hD hS 0 rfl (Nat.le_of_ble_eq_true rfl) rfl dX9_umbrellaCount_2 (fun H locs hP hD hS => ?_)
  obtain ⟨vM_3, hv, hf⟩ := lt_o hf
  rw [← hv] at hP hD
  clear hv
  refine lv_aload_n hx hb dX9_umbrellaCount_5 rfl (lv_at hl 0 rfl) ?_
  refine gf_X9_7 hx hb hg hown hK hP 0 rfl rfl dX9_umbrellaCount_6 ?_
  refine lv_bipush (v := 8) hx hb dX9_umbrellaCount_9 (by decide) ?_
  obtain ⟨hi, hf⟩ := ck_o hf
  refine ar_ld hx hb hK hP 1 rfl hi dX9_umbrellaCount_11 ?_
  obtain rfl := Option.some.inj hf
  exact cm_iret hx hb hr hlocks hP hS dX9_umbrellaCount_12
def F_X9_ownerOf (vM : (Nat → Int32) × Int64) (vnow : Nat → Int32) (x1 : Int32) : Option (Int32 × ((Nat → Int32) × Int64)) := lt (va_up vM.1 3 0, vM.2) (fun vM_3 => (F_X9_umbrellaNumber vM_3 vnow x1 0).bind (fun u1 => (some (u1.1, u1.2))))
abbrev rm_X9_ownerOf : Room := { frames := 3, cells := 0, slots := 0, locals := 65 }
set_option maxHeartbeats 4000000 in
set_option maxRecDepth 100000 in
theorem c_X9_ownerOf (E : Ev) (l : Launch) (aM : Nat → Nat) (vM : (Nat → Int32) × Int64) (vnow : Nat → Int32) (x1 : Int32) (r : Int32 × ((Nat → Int32) × Int64)) (hf : F_X9_ownerOf vM vnow x1 = some r) : CM E l yX9_ownerOf (.code yX9_ownerOf cX9_ownerOf 2 (some .int) :: GA) rm_X9_ownerOf [.ref (aM 0), .int x1] (W_M aM vM ++ (W_A E (aM 1) 306 vnow)) (some (.int r.1)) (W_M aM r.2 ++ (W_A E (aM 1) 306 vnow)) := by
  refine CM.of (own := RX9) rfl (by decide) (Nat.le_of_ble_eq_true rfl) ?_
  intro p e s m below meth c A ls hx hb hr hml hown hg hlocks hK hE hA hP hD hS hl
  have hl : lv_has ls 2 [(0, .ref (aM 0)), (1, .int x1)] := hl
  unfold F_X9_ownerOf at hf
  refine lv_aload_n hx hb dX9_ownerOf_0 rfl (lv_at hl 0 rfl) ?_
  refine lv_iconst (v := 0) hx hb dX9_ownerOf_1 (by decide) ?_
  refine pf_X9_48 (w2 := (W_M aM (va_up vM.1 3 0, vM.2) ++ (W_A E (aM 1) 306 vnow))) hx hb hg hown hK hP hD hS 0 rfl (Nat.le_of_ble_eq_true rfl) rfl dX9_ownerOf_2 (fun H locs hP hD hS => ?_)
  obtain ⟨vM_3, hv, hf⟩ := lt_o hf
  rw [← hv] at hP hD
  clear hv
  refine lv_aload_n hx hb dX9_ownerOf_5 rfl (lv_at hl 0 rfl) ?_
  refine lv_iload_n hx hb dX9_ownerOf_6 rfl (lv_at hl 1 rfl) ?_
  refine lv_iconst (v := 0) hx hb dX9_ownerOf_7 (by decide) ?_
  obtain ⟨u1, hu1, hf⟩ := bn hf
  refine cm_V (As := [.int x1, .int 0]) (rest := []) (w2 := (W_M aM u1.2 ++ (W_A E (aM 1) 306 vnow))) hx hb hml hown hg (c_X9_umbrellaNumber E l aM vM_3 vnow x1 0 u1 hu1) cy_X9_umbrellaNumber ml_X9_236 ⟨⟨rfl, rfl⟩, Nat.le_of_ble_eq_true rfl, Nat.le_of_ble_eq_true rfl⟩ hK hE hP hD hS hA [true, true] rfl rfl rfl 0 rfl rfl rfl hl.1 rfl (Nat.le_of_ble_eq_true rfl) dX9_ownerOf_8 ⟨Nat.le_of_ble_eq_true rfl, Nat.le_of_ble_eq_true rfl⟩ [.int u1.1] rfl (fun H locs hP hD hS => ?_)
  obtain rfl := Option.some.inj hf
  exact cm_iret hx hb hr hlocks hP hS dX9_ownerOf_11
def F_X9_wetness (vM : (Nat → Int32) × Int64) (vnow : Nat → Int32) (x1 : Int32) : Option (Int32 × ((Nat → Int32) × Int64)) := lt (va_up vM.1 3 0, vM.2) (fun vM_3 => (F_X9_umbrellaNumber vM_3 vnow x1 1).bind (fun u1 => (some (u1.1, u1.2))))
abbrev rm_X9_wetness : Room := { frames := 3, cells := 0, slots := 0, locals := 65 }
set_option maxHeartbeats 4000000 in
set_option maxRecDepth 100000 in
theorem c_X9_wetness (E : Ev) (l : Launch) (aM : Nat → Nat) (vM : (Nat → Int32) × Int64) (vnow : Nat → Int32) (x1 : Int32) (r : Int32 × ((Nat → Int32) × Int64)) (hf : F_X9_wetness vM vnow x1 = some r) : CM E l yX9_wetness (.code yX9_wetness cX9_wetness 2 (some .int) :: GA) rm_X9_wetness [.ref (aM 0), .int x1] (W_M aM vM ++ (W_A E (aM 1) 306 vnow)) (some (.int r.1)) (W_M aM r.2 ++ (W_A E (aM 1) 306 vnow)) := by
  refine CM.of (own := RX9) rfl (by decide) (Nat.le_of_ble_eq_true rfl) ?_
  intro p e s m below meth c A ls hx hb hr hml hown hg hlocks hK hE hA hP hD hS hl
  have hl : lv_has ls 2 [(0, .ref (aM 0)), (1, .int x1)] := hl
  unfold F_X9_wetness at hf
  refine lv_aload_n hx hb dX9_wetness_0 rfl (lv_at hl 0 rfl) ?_
  refine lv_iconst (v := 0) hx hb dX9_wetness_1 (by decide) ?_
  refine pf_X9_48 (w2 := (W_M aM (va_up vM.1 3 0, vM.2) ++ (W_A E (aM 1) 306 vnow))) hx hb hg hown hK hP hD hS 0 rfl (Nat.le_of_ble_eq_true rfl) rfl dX9_wetness_2 (fun H locs hP hD hS => ?_)
  obtain ⟨vM_3, hv, hf⟩ := lt_o hf
  rw [← hv] at hP hD
  clear hv
  refine lv_aload_n hx hb dX9_wetness_5 rfl (lv_at hl 0 rfl) ?_
  refine lv_iload_n hx hb dX9_wetness_6 rfl (lv_at hl 1 rfl) ?_
  refine lv_iconst (v := 1) hx hb dX9_wetness_7 (by decide) ?_
  obtain ⟨u1, hu1, hf⟩ := bn hf
  refine cm_V (As := [.int x1, .int 1]) (rest := []) (w2 := (W_M aM u1.2 ++ (W_A E (aM 1) 306 vnow))) hx hb hml hown hg (c_X9_umbrellaNumber E l aM vM_3 vnow x1 1 u1 hu1) cy_X9_umbrellaNumber ml_X9_236 ⟨⟨rfl, rfl⟩, Nat.le_of_ble_eq_true rfl, Nat.le_of_ble_eq_true rfl⟩ hK hE hP hD hS hA [true, true] rfl rfl rfl 0 rfl rfl rfl hl.1 rfl (Nat.le_of_ble_eq_true rfl) dX9_wetness_8 ⟨Nat.le_of_ble_eq_true rfl, Nat.le_of_ble_eq_true rfl⟩ [.int u1.1] rfl (fun H locs hP hD hS => ?_)
  obtain rfl := Option.some.inj hf
  exact cm_iret hx hb hr hlocks hP hS dX9_wetness_11
def F_X9_isInStand (vM : (Nat → Int32) × Int64) (vnow : Nat → Int32) (x1 : Int32) : Option (Int32 × ((Nat → Int32) × Int64)) := lt (va_up vM.1 3 0, vM.2) (fun vM_3 => (F_X9_isUmbrella vM_3 vnow x1).bind (fun u1 => (if u1 = 0 then (F_X9_isFailed vM_3 1).bind (fun u2 => (cn (u2.1 = 0 ∨ u2.1 = 1) (some (u2.1, u2.2)))) else (F_X9_stands vnow x1).bind (fun u3 => (cn (u3 = 0 ∨ u3 = 1) (some (u3, vM_3)))))))
abbrev rm_X9_isInStand : Room := { frames := 2, cells := 0, slots := 0, locals := 43 }
set_option maxHeartbeats 4000000 in
set_option maxRecDepth 100000 in
theorem c_X9_isInStand (E : Ev) (l : Launch) (aM : Nat → Nat) (vM : (Nat → Int32) × Int64) (vnow : Nat → Int32) (x1 : Int32) (r : Int32 × ((Nat → Int32) × Int64)) (hf : F_X9_isInStand vM vnow x1 = some r) : CM E l yX9_isInStand (.code yX9_isInStand cX9_isInStand 2 (some .boolean) :: GA) rm_X9_isInStand [.ref (aM 0), .int x1] (W_M aM vM ++ (W_A E (aM 1) 306 vnow)) (some (.int r.1)) (W_M aM r.2 ++ (W_A E (aM 1) 306 vnow)) := by
  refine CM.of (own := RX9) rfl (by decide) (Nat.le_of_ble_eq_true rfl) ?_
  intro p e s m below meth c A ls hx hb hr hml hown hg hlocks hK hE hA hP hD hS hl
  have hl : lv_has ls 2 [(0, .ref (aM 0)), (1, .int x1)] := hl
  unfold F_X9_isInStand at hf
  refine lv_aload_n hx hb dX9_isInStand_0 rfl (lv_at hl 0 rfl) ?_
  refine lv_iconst (v := 0) hx hb dX9_isInStand_1 (by decide) ?_
  refine pf_X9_48 (w2 := (W_M aM (va_up vM.1 3 0, vM.2) ++ (W_A E (aM 1) 306 vnow))) hx hb hg hown hK hP hD hS 0 rfl (Nat.le_of_ble_eq_true rfl) rfl dX9_isInStand_2 (fun H locs hP hD hS => ?_)
  obtain ⟨vM_3, hv, hf⟩ := lt_o hf
  rw [← hv] at hP hD
  clear hv
  refine lv_aload_n hx hb dX9_isInStand_5 rfl (lv_at hl 0 rfl) ?_
  refine lv_iload_n hx hb dX9_isInStand_6 rfl (lv_at hl 1 rfl) ?_
  obtain ⟨u1, hu1, hf⟩ := bn hf
  refine cm_V (As := [.int x1]) (rest := []) (w2 := (W_M aM vM_3 ++ (W_A E (aM 1) 306 vnow))) hx hb hml hown hg (c_X9_isUmbrella E l aM vM_3 vnow x1 u1 hu1) cy_X9_isUmbrella ml_X9_233 ⟨⟨rfl, rfl⟩, Nat.le_of_ble_eq_true rfl, Nat.le_of_ble_eq_true rfl⟩ hK hE hP hD hS hA [true, true] rfl rfl rfl 0 rfl rfl rfl hl.1 rfl (Nat.le_of_ble_eq_true rfl) dX9_isInStand_7 ⟨Nat.le_of_ble_eq_true rfl, Nat.le_of_ble_eq_true rfl⟩ [.int u1] rfl (fun H locs hP hD hS => ?_)
  refine lv_if_eq (tgt := 22) hx hb dX9_isInStand_10 (by decide) (fun cq => ?_) (fun cq => ?_)
  · have hf := it cq hf
    refine lv_aload_n hx hb dX9_isInStand_22 rfl (lv_at hl 0 rfl) ?_
    refine lv_iconst (v := 1) hx hb dX9_isInStand_23 (by decide) ?_
    obtain ⟨u2, hu2, hf⟩ := bn hf
    refine cm_V (As := [.int 1]) (rest := []) (w2 := (W_M aM u2.2 ++ (W_A E (aM 1) 306 vnow))) hx hb hml hown hg (c_X9_isFailed E l aM vM_3 1 u2 hu2) cy_X9_isFailed ml_X9_230 ⟨⟨rfl, rfl⟩, Nat.le_of_ble_eq_true rfl, Nat.le_of_ble_eq_true rfl⟩ hK hE hP hD hS hA [true] rfl rfl rfl 0 rfl rfl rfl hl.1 rfl (Nat.le_of_ble_eq_true rfl) dX9_isInStand_24 ⟨Nat.le_of_ble_eq_true rfl, Nat.le_of_ble_eq_true rfl⟩ [.int u2.1] rfl (fun H locs hP hD hS => ?_)
    obtain ⟨hz, hf⟩ := cn_o hf
    obtain rfl := Option.some.inj hf
    exact cm_zret (v := u2.1) hx hb hr hlocks hP hS (nar01 hz) dX9_isInStand_27
  · have hf := ie cq hf
    refine lv_aload_n hx hb dX9_isInStand_13 rfl (lv_at hl 0 rfl) ?_
    refine gf_X9_7 hx hb hg hown hK hP 0 rfl rfl dX9_isInStand_14 ?_
    refine lv_iload_n hx hb dX9_isInStand_17 rfl (lv_at hl 1 rfl) ?_
    obtain ⟨u3, hu3, hf⟩ := bn hf
    refine cm_S (As := [.ref (aM 1), .int x1]) (rest := []) (w2 := (W_M aM vM_3 ++ (W_A E (aM 1) 306 vnow))) hx hb hml hown hg (c_X9_stands E l (aM 1) vnow x1 u3 hu3) cs_X9_stands ml_X9_66 ⟨⟨rfl, rfl⟩, Nat.le_of_ble_eq_true rfl, Nat.le_of_ble_eq_true rfl⟩ hK hE hP hD hS hA [false, true] rfl rfl rfl rfl hl.1 rfl (Nat.le_of_ble_eq_true rfl) dX9_isInStand_18 ⟨Nat.le_of_ble_eq_true rfl, Nat.le_of_ble_eq_true rfl⟩ [.int u3] rfl (fun H locs hP hD hS => ?_)
    obtain ⟨hz, hf⟩ := cn_o hf
    obtain rfl := Option.some.inj hf
    exact cm_zret (v := u3) hx hb hr hlocks hP hS (nar01 hz) dX9_isInStand_21
def F_X9_isUsable (vM : (Nat → Int32) × Int64) (vnow : Nat → Int32) (x1 : Int32) : Option (Int32 × ((Nat → Int32) × Int64)) := lt (va_up vM.1 3 0, vM.2) (fun vM_3 => (F_X9_isUmbrella vM_3 vnow x1).bind (fun u1 => (if u1 = 0 then (F_X9_isFailed vM_3 1).bind (fun u2 => (cn (u2.1 = 0 ∨ u2.1 = 1) (some (u2.1, u2.2)))) else (F_X9_isDry vnow x1).bind (fun u3 => (cn (u3 = 0 ∨ u3 = 1) (some (u3, vM_3)))))))
abbrev rm_X9_isUsable : Room := { frames := 3, cells := 0, slots := 0, locals := 63 }
set_option maxHeartbeats 4000000 in
set_option maxRecDepth 100000 in
theorem c_X9_isUsable (E : Ev) (l : Launch) (aM : Nat → Nat) (vM : (Nat → Int32) × Int64) (vnow : Nat → Int32) (x1 : Int32) (r : Int32 × ((Nat → Int32) × Int64)) (hf : F_X9_isUsable vM vnow x1 = some r) : CM E l yX9_isUsable (.code yX9_isUsable cX9_isUsable 2 (some .boolean) :: GA) rm_X9_isUsable [.ref (aM 0), .int x1] (W_M aM vM ++ (W_A E (aM 1) 306 vnow)) (some (.int r.1)) (W_M aM r.2 ++ (W_A E (aM 1) 306 vnow)) := by
  refine CM.of (own := RX9) rfl (by decide) (Nat.le_of_ble_eq_true rfl) ?_
  intro p e s m below meth c A ls hx hb hr hml hown hg hlocks hK hE hA hP hD hS hl
  have hl : lv_has ls 2 [(0, .ref (aM 0)), (1, .int x1)] := hl
  unfold F_X9_isUsable at hf
  refine lv_aload_n hx hb dX9_isUsable_0 rfl (lv_at hl 0 rfl) ?_
  refine lv_iconst (v := 0) hx hb dX9_isUsable_1 (by decide) ?_
  refine pf_X9_48 (w2 := (W_M aM (va_up vM.1 3 0, vM.2) ++ (W_A E (aM 1) 306 vnow))) hx hb hg hown hK hP hD hS 0 rfl (Nat.le_of_ble_eq_true rfl) rfl dX9_isUsable_2 (fun H locs hP hD hS => ?_)
  obtain ⟨vM_3, hv, hf⟩ := lt_o hf
  rw [← hv] at hP hD
  clear hv
  refine lv_aload_n hx hb dX9_isUsable_5 rfl (lv_at hl 0 rfl) ?_
  refine lv_iload_n hx hb dX9_isUsable_6 rfl (lv_at hl 1 rfl) ?_
  obtain ⟨u1, hu1, hf⟩ := bn hf
  refine cm_V (As := [.int x1]) (rest := []) (w2 := (W_M aM vM_3 ++ (W_A E (aM 1) 306 vnow))) hx hb hml hown hg (c_X9_isUmbrella E l aM vM_3 vnow x1 u1 hu1) cy_X9_isUmbrella ml_X9_233 ⟨⟨rfl, rfl⟩, Nat.le_of_ble_eq_true rfl, Nat.le_of_ble_eq_true rfl⟩ hK hE hP hD hS hA [true, true] rfl rfl rfl 0 rfl rfl rfl hl.1 rfl (Nat.le_of_ble_eq_true rfl) dX9_isUsable_7 ⟨Nat.le_of_ble_eq_true rfl, Nat.le_of_ble_eq_true rfl⟩ [.int u1] rfl (fun H locs hP hD hS => ?_)
  refine lv_if_eq (tgt := 22) hx hb dX9_isUsable_10 (by decide) (fun cq => ?_) (fun cq => ?_)
  · have hf := it cq hf
    refine lv_aload_n hx hb dX9_isUsable_22 rfl (lv_at hl 0 rfl) ?_
    refine lv_iconst (v := 1) hx hb dX9_isUsable_23 (by decide) ?_
    obtain ⟨u2, hu2, hf⟩ := bn hf
    refine cm_V (As := [.int 1]) (rest := []) (w2 := (W_M aM u2.2 ++ (W_A E (aM 1) 306 vnow))) hx hb hml hown hg (c_X9_isFailed E l aM vM_3 1 u2 hu2) cy_X9_isFailed ml_X9_230 ⟨⟨rfl, rfl⟩, Nat.le_of_ble_eq_true rfl, Nat.le_of_ble_eq_true rfl⟩ hK hE hP hD hS hA [true] rfl rfl rfl 0 rfl rfl rfl hl.1 rfl (Nat.le_of_ble_eq_true rfl) dX9_isUsable_24 ⟨Nat.le_of_ble_eq_true rfl, Nat.le_of_ble_eq_true rfl⟩ [.int u2.1] rfl (fun H locs hP hD hS => ?_)
    obtain ⟨hz, hf⟩ := cn_o hf
    obtain rfl := Option.some.inj hf
    exact cm_zret (v := u2.1) hx hb hr hlocks hP hS (nar01 hz) dX9_isUsable_27
  · have hf := ie cq hf
    refine lv_aload_n hx hb dX9_isUsable_13 rfl (lv_at hl 0 rfl) ?_
    refine gf_X9_7 hx hb hg hown hK hP 0 rfl rfl dX9_isUsable_14 ?_
    refine lv_iload_n hx hb dX9_isUsable_17 rfl (lv_at hl 1 rfl) ?_
    obtain ⟨u3, hu3, hf⟩ := bn hf
    refine cm_S (As := [.ref (aM 1), .int x1]) (rest := []) (w2 := (W_M aM vM_3 ++ (W_A E (aM 1) 306 vnow))) hx hb hml hown hg (c_X9_isDry E l (aM 1) vnow x1 u3 hu3) cs_X9_isDry ml_X9_70 ⟨⟨rfl, rfl⟩, Nat.le_of_ble_eq_true rfl, Nat.le_of_ble_eq_true rfl⟩ hK hE hP hD hS hA [false, true] rfl rfl rfl rfl hl.1 rfl (Nat.le_of_ble_eq_true rfl) dX9_isUsable_18 ⟨Nat.le_of_ble_eq_true rfl, Nat.le_of_ble_eq_true rfl⟩ [.int u3] rfl (fun H locs hP hD hS => ?_)
    obtain ⟨hz, hf⟩ := cn_o hf
    obtain rfl := Option.some.inj hf
    exact cm_zret (v := u3) hx hb hr hlocks hP hS (nar01 hz) dX9_isUsable_21
def F_X9_carrierOf (vM : (Nat → Int32) × Int64) (vnow : Nat → Int32) (x1 : Int32) : Option (Int32 × ((Nat → Int32) × Int64)) := lt (va_up vM.1 3 0, vM.2) (fun vM_3 => (F_X9_isUmbrella vM_3 vnow x1).bind (fun u1 => (if u1 = 0 then (F_X9_fails vM_3 1).bind (fun u5 => (some (u5.1, u5.2))) else (F_X9_stands vnow x1).bind (fun u2 => (if u2 = 0 then (F_X9_umbrellaAt x1 2).bind (fun u3 => ck u3 306 ((some ((vnow (Int32.toNatClampNeg u3)), vM_3)))) else (F_X9_fails vM_3 2).bind (fun u4 => (some (u4.1, u4.2))))))))
abbrev rm_X9_carrierOf : Room := { frames := 2, cells := 0, slots := 0, locals := 43 }
set_option maxHeartbeats 4000000 in
set_option maxRecDepth 100000 in
theorem c_X9_carrierOf (E : Ev) (l : Launch) (aM : Nat → Nat) (vM : (Nat → Int32) × Int64) (vnow : Nat → Int32) (x1 : Int32) (r : Int32 × ((Nat → Int32) × Int64)) (hf : F_X9_carrierOf vM vnow x1 = some r) : CM E l yX9_carrierOf (.code yX9_carrierOf cX9_carrierOf 2 (some .int) :: GA) rm_X9_carrierOf [.ref (aM 0), .int x1] (W_M aM vM ++ (W_A E (aM 1) 306 vnow)) (some (.int r.1)) (W_M aM r.2 ++ (W_A E (aM 1) 306 vnow)) := by
  refine CM.of (own := RX9) rfl (by decide) (Nat.le_of_ble_eq_true rfl) ?_
  intro p e s m below meth c A ls hx hb hr hml hown hg hlocks hK hE hA hP hD hS hl
  have hl : lv_has ls 2 [(0, .ref (aM 0)), (1, .int x1)] := hl
  unfold F_X9_carrierOf at hf
  refine lv_aload_n hx hb dX9_carrierOf_0 rfl (lv_at hl 0 rfl) ?_
  refine lv_iconst (v := 0) hx hb dX9_carrierOf_1 (by decide) ?_
  refine pf_X9_48 (w2 := (W_M aM (va_up vM.1 3 0, vM.2) ++ (W_A E (aM 1) 306 vnow))) hx hb hg hown hK hP hD hS 0 rfl (Nat.le_of_ble_eq_true rfl) rfl dX9_carrierOf_2 (fun H locs hP hD hS => ?_)
  obtain ⟨vM_3, hv, hf⟩ := lt_o hf
  rw [← hv] at hP hD
  clear hv
  refine lv_aload_n hx hb dX9_carrierOf_5 rfl (lv_at hl 0 rfl) ?_
  refine lv_iload_n hx hb dX9_carrierOf_6 rfl (lv_at hl 1 rfl) ?_
  obtain ⟨u1, hu1, hf⟩ := bn hf
  refine cm_V (As := [.int x1]) (rest := []) (w2 := (W_M aM vM_3 ++ (W_A E (aM 1) 306 vnow))) hx hb hml hown hg (c_X9_isUmbrella E l aM vM_3 vnow x1 u1 hu1) cy_X9_isUmbrella ml_X9_233 ⟨⟨rfl, rfl⟩, Nat.le_of_ble_eq_true rfl, Nat.le_of_ble_eq_true rfl⟩ hK hE hP hD hS hA [true, true] rfl rfl rfl 0 rfl rfl rfl hl.1 rfl (Nat.le_of_ble_eq_true rfl) dX9_carrierOf_7 ⟨Nat.le_of_ble_eq_true rfl, Nat.le_of_ble_eq_true rfl⟩ [.int u1] rfl (fun H locs hP hD hS => ?_)
  refine lv_if_ne (tgt := 19) hx hb dX9_carrierOf_10 (by decide) (fun cq => ?_) (fun cq => ?_)
  · have hf := ie cq hf
    refine lv_aload_n hx hb dX9_carrierOf_19 rfl (lv_at hl 0 rfl) ?_
    refine gf_X9_7 hx hb hg hown hK hP 0 rfl rfl dX9_carrierOf_20 ?_
    refine lv_iload_n hx hb dX9_carrierOf_23 rfl (lv_at hl 1 rfl) ?_
    obtain ⟨u2, hu2, hf⟩ := bn hf
    refine cm_S (As := [.ref (aM 1), .int x1]) (rest := []) (w2 := (W_M aM vM_3 ++ (W_A E (aM 1) 306 vnow))) hx hb hml hown hg (c_X9_stands E l (aM 1) vnow x1 u2 hu2) cs_X9_stands ml_X9_66 ⟨⟨rfl, rfl⟩, Nat.le_of_ble_eq_true rfl, Nat.le_of_ble_eq_true rfl⟩ hK hE hP hD hS hA [false, true] rfl rfl rfl rfl hl.1 rfl (Nat.le_of_ble_eq_true rfl) dX9_carrierOf_24 ⟨Nat.le_of_ble_eq_true rfl, Nat.le_of_ble_eq_true rfl⟩ [.int u2] rfl (fun H locs hP hD hS => ?_)
    refine lv_if_eq (tgt := 36) hx hb dX9_carrierOf_27 (by decide) (fun cq => ?_) (fun cq => ?_)
    · have hf := it cq hf
      refine lv_aload_n hx hb dX9_carrierOf_36 rfl (lv_at hl 0 rfl) ?_
      refine gf_X9_7 hx hb hg hown hK hP 0 rfl rfl dX9_carrierOf_37 ?_
      refine lv_iload_n hx hb dX9_carrierOf_40 rfl (lv_at hl 1 rfl) ?_
      refine lv_iconst (v := 2) hx hb dX9_carrierOf_41 (by decide) ?_
      obtain ⟨u3, hu3, hf⟩ := bn hf
      refine cm_S (As := [.int x1, .int 2]) (rest := [.ref (aM 1)]) (w2 := (W_M aM vM_3 ++ (W_A E (aM 1) 306 vnow))) hx hb hml hown hg (c_X9_umbrellaAt E l x1 2 u3 hu3) cs_X9_umbrellaAt ml_X9_63 ⟨⟨rfl, rfl⟩, Nat.le_of_ble_eq_true rfl, Nat.le_of_ble_eq_true rfl⟩ hK hE hP hD hS hA [] rfl rfl rfl rfl hl.1 rfl (Nat.le_of_ble_eq_true rfl) dX9_carrierOf_42 ⟨Nat.le_of_ble_eq_true rfl, Nat.le_of_ble_eq_true rfl⟩ [.int u3, .ref (aM 1)] rfl (fun H locs hP hD hS => ?_)
      obtain ⟨hi, hf⟩ := ck_o hf
      refine ar_ld hx hb hK hP 1 rfl hi dX9_carrierOf_45 ?_
      obtain rfl := Option.some.inj hf
      exact cm_iret hx hb hr hlocks hP hS dX9_carrierOf_46
    · have hf := ie cq hf
      refine lv_aload_n hx hb dX9_carrierOf_30 rfl (lv_at hl 0 rfl) ?_
      refine lv_iconst (v := 2) hx hb dX9_carrierOf_31 (by decide) ?_
      obtain ⟨u4, hu4, hf⟩ := bn hf
      refine cm_V (As := [.int 2]) (rest := []) (w2 := (W_M aM u4.2 ++ (W_A E (aM 1) 306 vnow))) hx hb hml hown hg (c_X9_fails E l aM vM_3 2 u4 hu4) cy_X9_fails ml_X9_133 ⟨⟨rfl, rfl⟩, Nat.le_of_ble_eq_true rfl, Nat.le_of_ble_eq_true rfl⟩ hK hE hP hD hS hA [true] rfl rfl rfl 0 rfl rfl rfl hl.1 rfl (Nat.le_of_ble_eq_true rfl) dX9_carrierOf_32 ⟨Nat.le_of_ble_eq_true rfl, Nat.le_of_ble_eq_true rfl⟩ [.int u4.1] rfl (fun H locs hP hD hS => ?_)
      obtain rfl := Option.some.inj hf
      exact cm_iret hx hb hr hlocks hP hS dX9_carrierOf_35
  · have hf := it cq hf
    refine lv_aload_n hx hb dX9_carrierOf_13 rfl (lv_at hl 0 rfl) ?_
    refine lv_iconst (v := 1) hx hb dX9_carrierOf_14 (by decide) ?_
    obtain ⟨u5, hu5, hf⟩ := bn hf
    refine cm_V (As := [.int 1]) (rest := []) (w2 := (W_M aM u5.2 ++ (W_A E (aM 1) 306 vnow))) hx hb hml hown hg (c_X9_fails E l aM vM_3 1 u5 hu5) cy_X9_fails ml_X9_133 ⟨⟨rfl, rfl⟩, Nat.le_of_ble_eq_true rfl, Nat.le_of_ble_eq_true rfl⟩ hK hE hP hD hS hA [true] rfl rfl rfl 0 rfl rfl rfl hl.1 rfl (Nat.le_of_ble_eq_true rfl) dX9_carrierOf_15 ⟨Nat.le_of_ble_eq_true rfl, Nat.le_of_ble_eq_true rfl⟩ [.int u5.1] rfl (fun H locs hP hD hS => ?_)
    obtain rfl := Option.some.inj hf
    exact cm_iret hx hb hr hlocks hP hS dX9_carrierOf_18
def F_X9_umbrellaOf (vM : (Nat → Int32) × Int64) (vnow : Nat → Int32) (x1 : Int32) : Option (Int32 × ((Nat → Int32) × Int64)) := lt (va_up vM.1 3 0, vM.2) (fun vM_3 => (F_X9_isGuest vM_3 vnow x1).bind (fun u1 => (if u1 = 0 then (F_X9_fails vM_3 1).bind (fun u4 => (some (u4.1, u4.2))) else (F_X9_carriedBy vnow x1).bind (fun u2 => (if 0 ≤ u2 then (some (u2, vM_3)) else (F_X9_fails vM_3 2).bind (fun u3 => (some (u3.1, u3.2))))))))
abbrev rm_X9_umbrellaOf : Room := { frames := 2, cells := 0, slots := 0, locals := 43 }
set_option maxHeartbeats 4000000 in
set_option maxRecDepth 100000 in
theorem c_X9_umbrellaOf (E : Ev) (l : Launch) (aM : Nat → Nat) (vM : (Nat → Int32) × Int64) (vnow : Nat → Int32) (x1 : Int32) (r : Int32 × ((Nat → Int32) × Int64)) (hf : F_X9_umbrellaOf vM vnow x1 = some r) : CM E l yX9_umbrellaOf (.code yX9_umbrellaOf cX9_umbrellaOf 3 (some .int) :: GA) rm_X9_umbrellaOf [.ref (aM 0), .int x1] (W_M aM vM ++ (W_A E (aM 1) 306 vnow)) (some (.int r.1)) (W_M aM r.2 ++ (W_A E (aM 1) 306 vnow)) := by
  refine CM.of (own := RX9) rfl (by decide) (Nat.le_of_ble_eq_true rfl) ?_
  intro p e s m below meth c A ls hx hb hr hml hown hg hlocks hK hE hA hP hD hS hl
  have hl : lv_has ls 3 [(0, .ref (aM 0)), (1, .int x1)] := hl
  unfold F_X9_umbrellaOf at hf
  refine lv_aload_n hx hb dX9_umbrellaOf_0 rfl (lv_at hl 0 rfl) ?_
  refine lv_iconst (v := 0) hx hb dX9_umbrellaOf_1 (by decide) ?_
  refine pf_X9_48 (w2 := (W_M aM (va_up vM.1 3 0, vM.2) ++ (W_A E (aM 1) 306 vnow))) hx hb hg hown hK hP hD hS 0 rfl (Nat.le_of_ble_eq_true rfl) rfl dX9_umbrellaOf_2 (fun H locs hP hD hS => ?_)
  obtain ⟨vM_3, hv, hf⟩ := lt_o hf
  rw [← hv] at hP hD
  clear hv
  refine lv_aload_n hx hb dX9_umbrellaOf_5 rfl (lv_at hl 0 rfl) ?_
  refine lv_iload_n hx hb dX9_umbrellaOf_6 rfl (lv_at hl 1 rfl) ?_
  obtain ⟨u1, hu1, hf⟩ := bn hf
  refine cm_V (As := [.int x1]) (rest := []) (w2 := (W_M aM vM_3 ++ (W_A E (aM 1) 306 vnow))) hx hb hml hown hg (c_X9_isGuest E l aM vM_3 vnow x1 u1 hu1) cy_X9_isGuest ml_X9_218 ⟨⟨rfl, rfl⟩, Nat.le_of_ble_eq_true rfl, Nat.le_of_ble_eq_true rfl⟩ hK hE hP hD hS hA [true, true] rfl rfl rfl 0 rfl rfl rfl hl.1 rfl (Nat.le_of_ble_eq_true rfl) dX9_umbrellaOf_7 ⟨Nat.le_of_ble_eq_true rfl, Nat.le_of_ble_eq_true rfl⟩ [.int u1] rfl (fun H locs hP hD hS => ?_)
  refine lv_if_ne (tgt := 19) hx hb dX9_umbrellaOf_10 (by decide) (fun cq => ?_) (fun cq => ?_)
  · have hf := ie cq hf
    refine lv_aload_n hx hb dX9_umbrellaOf_19 rfl (lv_at hl 0 rfl) ?_
    refine gf_X9_7 hx hb hg hown hK hP 0 rfl rfl dX9_umbrellaOf_20 ?_
    refine lv_iload_n hx hb dX9_umbrellaOf_23 rfl (lv_at hl 1 rfl) ?_
    obtain ⟨u2, hu2, hf⟩ := bn hf
    refine cm_S (As := [.ref (aM 1), .int x1]) (rest := []) (w2 := (W_M aM vM_3 ++ (W_A E (aM 1) 306 vnow))) hx hb hml hown hg (c_X9_carriedBy E l (aM 1) vnow x1 u2 hu2) cs_X9_carriedBy ml_X9_106 ⟨⟨rfl, rfl⟩, Nat.le_of_ble_eq_true rfl, Nat.le_of_ble_eq_true rfl⟩ hK hE hP hD hS hA [false, true] rfl rfl rfl rfl hl.1 rfl (Nat.le_of_ble_eq_true rfl) dX9_umbrellaOf_24 ⟨Nat.le_of_ble_eq_true rfl, Nat.le_of_ble_eq_true rfl⟩ [.int u2] rfl (fun H locs hP hD hS => ?_)
    refine lv_istore_n (lv' := [(2, .int u2), (0, .ref (aM 0)), (1, .int x1)]) hx hb dX9_umbrellaOf_27 rfl hl (by decide) rfl (fun ls hl => ?_)
    refine lv_iload_n hx hb dX9_umbrellaOf_28 rfl (lv_at hl 0 rfl) ?_
    refine lv_if_ge (tgt := 38) hx hb dX9_umbrellaOf_29 (by decide) (fun cq => ?_) (fun cq => ?_)
    · have hf := it cq hf
      refine lv_iload_n hx hb dX9_umbrellaOf_38 rfl (lv_at hl 0 rfl) ?_
      obtain rfl := Option.some.inj hf
      exact cm_iret hx hb hr hlocks hP hS dX9_umbrellaOf_39
    · have hf := ie cq hf
      refine lv_aload_n hx hb dX9_umbrellaOf_32 rfl (lv_at hl 1 rfl) ?_
      refine lv_iconst (v := 2) hx hb dX9_umbrellaOf_33 (by decide) ?_
      obtain ⟨u3, hu3, hf⟩ := bn hf
      refine cm_V (As := [.int 2]) (rest := []) (w2 := (W_M aM u3.2 ++ (W_A E (aM 1) 306 vnow))) hx hb hml hown hg (c_X9_fails E l aM vM_3 2 u3 hu3) cy_X9_fails ml_X9_133 ⟨⟨rfl, rfl⟩, Nat.le_of_ble_eq_true rfl, Nat.le_of_ble_eq_true rfl⟩ hK hE hP hD hS hA [true] rfl rfl rfl 0 rfl rfl rfl hl.1 rfl (Nat.le_of_ble_eq_true rfl) dX9_umbrellaOf_34 ⟨Nat.le_of_ble_eq_true rfl, Nat.le_of_ble_eq_true rfl⟩ [.int u3.1] rfl (fun H locs hP hD hS => ?_)
      obtain rfl := Option.some.inj hf
      exact cm_iret hx hb hr hlocks hP hS dX9_umbrellaOf_37
  · have hf := it cq hf
    refine lv_aload_n hx hb dX9_umbrellaOf_13 rfl (lv_at hl 0 rfl) ?_
    refine lv_iconst (v := 1) hx hb dX9_umbrellaOf_14 (by decide) ?_
    obtain ⟨u4, hu4, hf⟩ := bn hf
    refine cm_V (As := [.int 1]) (rest := []) (w2 := (W_M aM u4.2 ++ (W_A E (aM 1) 306 vnow))) hx hb hml hown hg (c_X9_fails E l aM vM_3 1 u4 hu4) cy_X9_fails ml_X9_133 ⟨⟨rfl, rfl⟩, Nat.le_of_ble_eq_true rfl, Nat.le_of_ble_eq_true rfl⟩ hK hE hP hD hS hA [true] rfl rfl rfl 0 rfl rfl rfl hl.1 rfl (Nat.le_of_ble_eq_true rfl) dX9_umbrellaOf_15 ⟨Nat.le_of_ble_eq_true rfl, Nat.le_of_ble_eq_true rfl⟩ [.int u4.1] rfl (fun H locs hP hD hS => ?_)
    obtain rfl := Option.some.inj hf
    exact cm_iret hx hb hr hlocks hP hS dX9_umbrellaOf_18
def B_X9_standCount_9 (rec : Int32 → Int32 → ((Nat → Int32) × Int64) → Option (Int32 × ((Nat → Int32) × Int64))) (vnow : Nat → Int32) (x1 : Int32) (x2 : Int32) (vM : (Nat → Int32) × Int64) : Option (Int32 × ((Nat → Int32) × Int64)) := ck 8 306 ((if (vnow (Int32.toNatClampNeg 8)) ≤ x2 then (some (x1, vM)) else (F_X9_stands vnow x2).bind (fun u1 => (if u1 = 0 then (rec x1 (x2 + 1) vM) else (rec (x1 + 1) (x2 + 1) vM)))))
def L_X9_standCount_9 (vnow : Nat → Int32) : Nat → Int32 → Int32 → ((Nat → Int32) × Int64) → Option (Int32 × ((Nat → Int32) × Int64))
  | 0 => fun _ _ _ => none
  | n + 1 => fun x1 x2 vM => B_X9_standCount_9 (L_X9_standCount_9 vnow n) vnow x1 x2 vM
def F_X9_standCount (vM : (Nat → Int32) × Int64) (vnow : Nat → Int32) : Option (Int32 × ((Nat → Int32) × Int64)) := lt (va_up vM.1 3 0, vM.2) (fun vM_3 => (L_X9_standCount_9 vnow FU 0 0 vM_3))
abbrev rm_X9_standCount : Room := { frames := 2, cells := 0, slots := 0, locals := 42 }
set_option maxHeartbeats 4000000 in
set_option maxRecDepth 100000 in
theorem c_X9_standCount (E : Ev) (l : Launch) (aM : Nat → Nat) (vM : (Nat → Int32) × Int64) (vnow : Nat → Int32) (r : Int32 × ((Nat → Int32) × Int64)) (hf : F_X9_standCount vM vnow = some r) : CM E l yX9_standCount (.code yX9_standCount cX9_standCount 3 (some .int) :: GA) rm_X9_standCount [.ref (aM 0)] (W_M aM vM ++ (W_A E (aM 1) 306 vnow)) (some (.int r.1)) (W_M aM r.2 ++ (W_A E (aM 1) 306 vnow)) := by
  refine CM.of (own := RX9) rfl (by decide) (Nat.le_of_ble_eq_true rfl) ?_
  intro p e s m below meth c A ls hx hb hr hml hown hg hlocks hK hE hA hP hD hS hl
  have hl : lv_has ls 3 [(0, .ref (aM 0))] := hl
  have lp_9 : ∀ (n : Nat) (x1 : Int32) (x2 : Int32) (vM : (Nat → Int32) × Int64) (H : Heap) (locs : List Loc) (ls : Array Slot), L_X9_standCount_9 vnow n x1 x2 vM = some r → va_P E.1 vwCl (W_M aM vM ++ (W_A E (aM 1) 306 vnow)) H → va_D A (W_M aM vM ++ (W_A E (aM 1) 306 vnow)) → va_S A s.heap H locs → lv_has ls 3 [(0, .ref (aM 0)), (1, .int x1), (2, .int x2)] → W p l e rm_X9_standCount s m ([.ref (aM 0)] : List Value).toArray below meth c H locs 0 0 (MQ below (QW E (some (.int r.1)) (W_M aM r.2 ++ (W_A E (aM 1) 306 vnow)) A) ([.ref (aM 0)] : List Value).toArray s 0 0 A) (F0 m 9 ls []) := by
    intro n
    induction n with
    | zero => intro x1 x2 vM H locs ls hf; cases hf
    | succ n ih =>
      intro x1 x2 vM H locs ls hf hP hD hS hl
      replace hf : B_X9_standCount_9 (L_X9_standCount_9 vnow n) vnow x1 x2 vM = some r := hf
      unfold B_X9_standCount_9 at hf
      refine lv_iload_n hx hb dX9_standCount_9 rfl (lv_at hl 2 rfl) ?_
      refine lv_aload_n hx hb dX9_standCount_10 rfl (lv_at hl 0 rfl) ?_
      refine gf_X9_7 hx hb hg hown hK hP 0 rfl rfl dX9_standCount_11 ?_
      refine lv_bipush (v := 8) hx hb dX9_standCount_14 (by decide) ?_
      obtain ⟨hi, hf⟩ := ck_o hf
      refine ar_ld hx hb hK hP 1 rfl hi dX9_standCount_16 ?_
      refine lv_icmp_ge (tgt := 40) hx hb dX9_standCount_17 (by decide) (fun cq => ?_) (fun cq => ?_)
      · have hf := it cq hf
        refine lv_iload_n hx hb dX9_standCount_40 rfl (lv_at hl 1 rfl) ?_
        obtain rfl := Option.some.inj hf
        exact cm_iret hx hb hr hlocks hP hS dX9_standCount_41
      · have hf := ie cq hf
        refine lv_aload_n hx hb dX9_standCount_20 rfl (lv_at hl 0 rfl) ?_
        refine gf_X9_7 hx hb hg hown hK hP 0 rfl rfl dX9_standCount_21 ?_
        refine lv_iload_n hx hb dX9_standCount_24 rfl (lv_at hl 2 rfl) ?_
        obtain ⟨u1, hu1, hf⟩ := bn hf
        refine cm_S (As := [.ref (aM 1), .int x2]) (rest := []) (w2 := (W_M aM vM ++ (W_A E (aM 1) 306 vnow))) hx hb hml hown hg (c_X9_stands E l (aM 1) vnow x2 u1 hu1) cs_X9_stands ml_X9_66 ⟨⟨rfl, rfl⟩, Nat.le_of_ble_eq_true rfl, Nat.le_of_ble_eq_true rfl⟩ hK hE hP hD hS hA [false, true] rfl rfl rfl rfl hl.1 rfl (Nat.le_of_ble_eq_true rfl) dX9_standCount_25 ⟨Nat.le_of_ble_eq_true rfl, Nat.le_of_ble_eq_true rfl⟩ [.int u1] rfl (fun H locs hP hD hS => ?_)
        refine lv_if_eq (tgt := 34) hx hb dX9_standCount_28 (by decide) (fun cq => ?_) (fun cq => ?_)
        · have hf := it cq hf
          refine lv_iinc (v := (x2 + 1)) (lv' := [(2, .int (x2 + 1)), (0, .ref (aM 0)), (1, .int x1)]) hx hb dX9_standCount_34 hl (k := 2) rfl rfl (by decide) rfl (fun ls hl => ?_)
          refine lv_goto (tgt := 9) hx hb dX9_standCount_37 (by decide) ?_
          exact ih _ _ _ _ _ _ hf hP hD hS (lv_sub hl [1, 2, 0] rfl)
        · have hf := ie cq hf
          refine lv_iinc (v := (x1 + 1)) (lv' := [(1, .int (x1 + 1)), (0, .ref (aM 0)), (2, .int x2)]) hx hb dX9_standCount_31 hl (k := 1) rfl rfl (by decide) rfl (fun ls hl => ?_)
          refine lv_iinc (v := (x2 + 1)) (lv' := [(2, .int (x2 + 1)), (1, .int (x1 + 1)), (0, .ref (aM 0))]) hx hb dX9_standCount_34 hl (k := 2) rfl rfl (by decide) rfl (fun ls hl => ?_)
          refine lv_goto (tgt := 9) hx hb dX9_standCount_37 (by decide) ?_
          exact ih _ _ _ _ _ _ hf hP hD hS (lv_sub hl [2, 1, 0] rfl)
  unfold F_X9_standCount at hf
  refine lv_aload_n hx hb dX9_standCount_0 rfl (lv_at hl 0 rfl) ?_
  refine lv_iconst (v := 0) hx hb dX9_standCount_1 (by decide) ?_
  refine pf_X9_48 (w2 := (W_M aM (va_up vM.1 3 0, vM.2) ++ (W_A E (aM 1) 306 vnow))) hx hb hg hown hK hP hD hS 0 rfl (Nat.le_of_ble_eq_true rfl) rfl dX9_standCount_2 (fun H locs hP hD hS => ?_)
  obtain ⟨vM_3, hv, hf⟩ := lt_o hf
  rw [← hv] at hP hD
  clear hv
  refine lv_iconst (v := 0) hx hb dX9_standCount_5 (by decide) ?_
  refine lv_istore_n (lv' := [(1, .int 0), (0, .ref (aM 0))]) hx hb dX9_standCount_6 rfl hl (by decide) rfl (fun ls hl => ?_)
  refine lv_iconst (v := 0) hx hb dX9_standCount_7 (by decide) ?_
  refine lv_istore_n (lv' := [(2, .int 0), (1, .int 0), (0, .ref (aM 0))]) hx hb dX9_standCount_8 rfl hl (by decide) rfl (fun ls hl => ?_)
  exact lp_9 FU _ _ _ _ _ _ hf hP hD hS (lv_sub hl [2, 1, 0] rfl)
def B_X9_borrowedCount_9 (rec : Int32 → Int32 → ((Nat → Int32) × Int64) → Option (Int32 × ((Nat → Int32) × Int64))) (vnow : Nat → Int32) (x1 : Int32) (x2 : Int32) (vM : (Nat → Int32) × Int64) : Option (Int32 × ((Nat → Int32) × Int64)) := ck 8 306 ((if (vnow (Int32.toNatClampNeg 8)) ≤ x2 then (some (x1, vM)) else (F_X9_stands vnow x2).bind (fun u1 => (if u1 = 0 then (F_X9_umbrellaAt x2 2).bind (fun u2 => ck u2 306 ((F_X9_umbrellaAt x2 0).bind (fun u3 => ck u3 306 ((if (vnow (Int32.toNatClampNeg u2)) = (vnow (Int32.toNatClampNeg u3)) then (rec x1 (x2 + 1) vM) else (rec (x1 + 1) (x2 + 1) vM)))))) else (rec x1 (x2 + 1) vM)))))
def L_X9_borrowedCount_9 (vnow : Nat → Int32) : Nat → Int32 → Int32 → ((Nat → Int32) × Int64) → Option (Int32 × ((Nat → Int32) × Int64))
  | 0 => fun _ _ _ => none
  | n + 1 => fun x1 x2 vM => B_X9_borrowedCount_9 (L_X9_borrowedCount_9 vnow n) vnow x1 x2 vM
def F_X9_borrowedCount (vM : (Nat → Int32) × Int64) (vnow : Nat → Int32) : Option (Int32 × ((Nat → Int32) × Int64)) := lt (va_up vM.1 3 0, vM.2) (fun vM_3 => (L_X9_borrowedCount_9 vnow FU 0 0 vM_3))
abbrev rm_X9_borrowedCount : Room := { frames := 2, cells := 0, slots := 0, locals := 42 }
set_option maxHeartbeats 4000000 in
set_option maxRecDepth 100000 in
theorem c_X9_borrowedCount (E : Ev) (l : Launch) (aM : Nat → Nat) (vM : (Nat → Int32) × Int64) (vnow : Nat → Int32) (r : Int32 × ((Nat → Int32) × Int64)) (hf : F_X9_borrowedCount vM vnow = some r) : CM E l yX9_borrowedCount (.code yX9_borrowedCount cX9_borrowedCount 3 (some .int) :: GA) rm_X9_borrowedCount [.ref (aM 0)] (W_M aM vM ++ (W_A E (aM 1) 306 vnow)) (some (.int r.1)) (W_M aM r.2 ++ (W_A E (aM 1) 306 vnow)) := by
  refine CM.of (own := RX9) rfl (by decide) (Nat.le_of_ble_eq_true rfl) ?_
  intro p e s m below meth c A ls hx hb hr hml hown hg hlocks hK hE hA hP hD hS hl
  have hl : lv_has ls 3 [(0, .ref (aM 0))] := hl
  have lp_9 : ∀ (n : Nat) (x1 : Int32) (x2 : Int32) (vM : (Nat → Int32) × Int64) (H : Heap) (locs : List Loc) (ls : Array Slot), L_X9_borrowedCount_9 vnow n x1 x2 vM = some r → va_P E.1 vwCl (W_M aM vM ++ (W_A E (aM 1) 306 vnow)) H → va_D A (W_M aM vM ++ (W_A E (aM 1) 306 vnow)) → va_S A s.heap H locs → lv_has ls 3 [(0, .ref (aM 0)), (1, .int x1), (2, .int x2)] → W p l e rm_X9_borrowedCount s m ([.ref (aM 0)] : List Value).toArray below meth c H locs 0 0 (MQ below (QW E (some (.int r.1)) (W_M aM r.2 ++ (W_A E (aM 1) 306 vnow)) A) ([.ref (aM 0)] : List Value).toArray s 0 0 A) (F0 m 9 ls []) := by
    intro n
    induction n with
    | zero => intro x1 x2 vM H locs ls hf; cases hf
    | succ n ih =>
      intro x1 x2 vM H locs ls hf hP hD hS hl
      replace hf : B_X9_borrowedCount_9 (L_X9_borrowedCount_9 vnow n) vnow x1 x2 vM = some r := hf
      unfold B_X9_borrowedCount_9 at hf
      refine lv_iload_n hx hb dX9_borrowedCount_9 rfl (lv_at hl 2 rfl) ?_
      refine lv_aload_n hx hb dX9_borrowedCount_10 rfl (lv_at hl 0 rfl) ?_
      refine gf_X9_7 hx hb hg hown hK hP 0 rfl rfl dX9_borrowedCount_11 ?_
      refine lv_bipush (v := 8) hx hb dX9_borrowedCount_14 (by decide) ?_
      obtain ⟨hi, hf⟩ := ck_o hf
      refine ar_ld hx hb hK hP 1 rfl hi dX9_borrowedCount_16 ?_
      refine lv_icmp_ge (tgt := 63) hx hb dX9_borrowedCount_17 (by decide) (fun cq => ?_) (fun cq => ?_)
      · have hf := it cq hf
        refine lv_iload_n hx hb dX9_borrowedCount_63 rfl (lv_at hl 1 rfl) ?_
        obtain rfl := Option.some.inj hf
        exact cm_iret hx hb hr hlocks hP hS dX9_borrowedCount_64
      · have hf := ie cq hf
        refine lv_aload_n hx hb dX9_borrowedCount_20 rfl (lv_at hl 0 rfl) ?_
        refine gf_X9_7 hx hb hg hown hK hP 0 rfl rfl dX9_borrowedCount_21 ?_
        refine lv_iload_n hx hb dX9_borrowedCount_24 rfl (lv_at hl 2 rfl) ?_
        obtain ⟨u1, hu1, hf⟩ := bn hf
        refine cm_S (As := [.ref (aM 1), .int x2]) (rest := []) (w2 := (W_M aM vM ++ (W_A E (aM 1) 306 vnow))) hx hb hml hown hg (c_X9_stands E l (aM 1) vnow x2 u1 hu1) cs_X9_stands ml_X9_66 ⟨⟨rfl, rfl⟩, Nat.le_of_ble_eq_true rfl, Nat.le_of_ble_eq_true rfl⟩ hK hE hP hD hS hA [false, true] rfl rfl rfl rfl hl.1 rfl (Nat.le_of_ble_eq_true rfl) dX9_borrowedCount_25 ⟨Nat.le_of_ble_eq_true rfl, Nat.le_of_ble_eq_true rfl⟩ [.int u1] rfl (fun H locs hP hD hS => ?_)
        refine lv_if_ne (tgt := 57) hx hb dX9_borrowedCount_28 (by decide) (fun cq => ?_) (fun cq => ?_)
        · have hf := ie cq hf
          refine lv_iinc (v := (x2 + 1)) (lv' := [(2, .int (x2 + 1)), (0, .ref (aM 0)), (1, .int x1)]) hx hb dX9_borrowedCount_57 hl (k := 2) rfl rfl (by decide) rfl (fun ls hl => ?_)
          refine lv_goto (tgt := 9) hx hb dX9_borrowedCount_60 (by decide) ?_
          exact ih _ _ _ _ _ _ hf hP hD hS (lv_sub hl [1, 2, 0] rfl)
        · have hf := it cq hf
          refine lv_aload_n hx hb dX9_borrowedCount_31 rfl (lv_at hl 0 rfl) ?_
          refine gf_X9_7 hx hb hg hown hK hP 0 rfl rfl dX9_borrowedCount_32 ?_
          refine lv_iload_n hx hb dX9_borrowedCount_35 rfl (lv_at hl 2 rfl) ?_
          refine lv_iconst (v := 2) hx hb dX9_borrowedCount_36 (by decide) ?_
          obtain ⟨u2, hu2, hf⟩ := bn hf
          refine cm_S (As := [.int x2, .int 2]) (rest := [.ref (aM 1)]) (w2 := (W_M aM vM ++ (W_A E (aM 1) 306 vnow))) hx hb hml hown hg (c_X9_umbrellaAt E l x2 2 u2 hu2) cs_X9_umbrellaAt ml_X9_63 ⟨⟨rfl, rfl⟩, Nat.le_of_ble_eq_true rfl, Nat.le_of_ble_eq_true rfl⟩ hK hE hP hD hS hA [] rfl rfl rfl rfl hl.1 rfl (Nat.le_of_ble_eq_true rfl) dX9_borrowedCount_37 ⟨Nat.le_of_ble_eq_true rfl, Nat.le_of_ble_eq_true rfl⟩ [.int u2, .ref (aM 1)] rfl (fun H locs hP hD hS => ?_)
          obtain ⟨hi, hf⟩ := ck_o hf
          refine ar_ld hx hb hK hP 1 rfl hi dX9_borrowedCount_40 ?_
          refine lv_aload_n hx hb dX9_borrowedCount_41 rfl (lv_at hl 0 rfl) ?_
          refine gf_X9_7 hx hb hg hown hK hP 0 rfl rfl dX9_borrowedCount_42 ?_
          refine lv_iload_n hx hb dX9_borrowedCount_45 rfl (lv_at hl 2 rfl) ?_
          refine lv_iconst (v := 0) hx hb dX9_borrowedCount_46 (by decide) ?_
          obtain ⟨u3, hu3, hf⟩ := bn hf
          refine cm_S (As := [.int x2, .int 0]) (rest := [.ref (aM 1), .int (vnow (Int32.toNatClampNeg u2))]) (w2 := (W_M aM vM ++ (W_A E (aM 1) 306 vnow))) hx hb hml hown hg (c_X9_umbrellaAt E l x2 0 u3 hu3) cs_X9_umbrellaAt ml_X9_63 ⟨⟨rfl, rfl⟩, Nat.le_of_ble_eq_true rfl, Nat.le_of_ble_eq_true rfl⟩ hK hE hP hD hS hA [] rfl rfl rfl rfl hl.1 rfl (Nat.le_of_ble_eq_true rfl) dX9_borrowedCount_47 ⟨Nat.le_of_ble_eq_true rfl, Nat.le_of_ble_eq_true rfl⟩ [.int u3, .ref (aM 1), .int (vnow (Int32.toNatClampNeg u2))] rfl (fun H locs hP hD hS => ?_)
          obtain ⟨hi, hf⟩ := ck_o hf
          refine ar_ld hx hb hK hP 1 rfl hi dX9_borrowedCount_50 ?_
          refine lv_icmp_eq (tgt := 57) hx hb dX9_borrowedCount_51 (by decide) (fun cq => ?_) (fun cq => ?_)
          · have hf := it cq hf
            refine lv_iinc (v := (x2 + 1)) (lv' := [(2, .int (x2 + 1)), (0, .ref (aM 0)), (1, .int x1)]) hx hb dX9_borrowedCount_57 hl (k := 2) rfl rfl (by decide) rfl (fun ls hl => ?_)
            refine lv_goto (tgt := 9) hx hb dX9_borrowedCount_60 (by decide) ?_
            exact ih _ _ _ _ _ _ hf hP hD hS (lv_sub hl [1, 2, 0] rfl)
          · have hf := ie cq hf
            refine lv_iinc (v := (x1 + 1)) (lv' := [(1, .int (x1 + 1)), (0, .ref (aM 0)), (2, .int x2)]) hx hb dX9_borrowedCount_54 hl (k := 1) rfl rfl (by decide) rfl (fun ls hl => ?_)
            refine lv_iinc (v := (x2 + 1)) (lv' := [(2, .int (x2 + 1)), (1, .int (x1 + 1)), (0, .ref (aM 0))]) hx hb dX9_borrowedCount_57 hl (k := 2) rfl rfl (by decide) rfl (fun ls hl => ?_)
            refine lv_goto (tgt := 9) hx hb dX9_borrowedCount_60 (by decide) ?_
            exact ih _ _ _ _ _ _ hf hP hD hS (lv_sub hl [2, 1, 0] rfl)
  unfold F_X9_borrowedCount at hf
  refine lv_aload_n hx hb dX9_borrowedCount_0 rfl (lv_at hl 0 rfl) ?_
  refine lv_iconst (v := 0) hx hb dX9_borrowedCount_1 (by decide) ?_
  refine pf_X9_48 (w2 := (W_M aM (va_up vM.1 3 0, vM.2) ++ (W_A E (aM 1) 306 vnow))) hx hb hg hown hK hP hD hS 0 rfl (Nat.le_of_ble_eq_true rfl) rfl dX9_borrowedCount_2 (fun H locs hP hD hS => ?_)
  obtain ⟨vM_3, hv, hf⟩ := lt_o hf
  rw [← hv] at hP hD
  clear hv
  refine lv_iconst (v := 0) hx hb dX9_borrowedCount_5 (by decide) ?_
  refine lv_istore_n (lv' := [(1, .int 0), (0, .ref (aM 0))]) hx hb dX9_borrowedCount_6 rfl hl (by decide) rfl (fun ls hl => ?_)
  refine lv_iconst (v := 0) hx hb dX9_borrowedCount_7 (by decide) ?_
  refine lv_istore_n (lv' := [(2, .int 0), (1, .int 0), (0, .ref (aM 0))]) hx hb dX9_borrowedCount_8 rfl hl (by decide) rfl (fun ls hl => ?_)
  exact lp_9 FU _ _ _ _ _ _ hf hP hD hS (lv_sub hl [2, 1, 0] rfl)
def F_X9_entryNumber (vM : (Nat → Int32) × Int64) (vnow : Nat → Int32) (x1 : Int32) (x2 : Int32) : Option (Int32 × ((Nat → Int32) × Int64)) := ck 9 306 ((F_X9_in x1 0 ((vnow (Int32.toNatClampNeg 9)) - 1)).bind (fun u1 => (if u1 = 0 then (F_X9_fails vM 1).bind (fun u2 => (some (u2.1, u2.2))) else (F_X9_entryAt x1 x2).bind (fun u3 => ck u3 306 ((some ((vnow (Int32.toNatClampNeg u3)), vM)))))))
abbrev rm_X9_entryNumber : Room := { frames := 1, cells := 0, slots := 0, locals := 22 }
set_option maxHeartbeats 4000000 in
set_option maxRecDepth 100000 in
theorem c_X9_entryNumber (E : Ev) (l : Launch) (aM : Nat → Nat) (vM : (Nat → Int32) × Int64) (vnow : Nat → Int32) (x1 : Int32) (x2 : Int32) (r : Int32 × ((Nat → Int32) × Int64)) (hf : F_X9_entryNumber vM vnow x1 x2 = some r) : CM E l yX9_entryNumber (.code yX9_entryNumber cX9_entryNumber 3 (some .int) :: GA) rm_X9_entryNumber [.ref (aM 0), .int x1, .int x2] (W_M aM vM ++ (W_A E (aM 1) 306 vnow)) (some (.int r.1)) (W_M aM r.2 ++ (W_A E (aM 1) 306 vnow)) := by
  refine CM.of (own := RX9) rfl (by decide) (Nat.le_of_ble_eq_true rfl) ?_
  intro p e s m below meth c A ls hx hb hr hml hown hg hlocks hK hE hA hP hD hS hl
  have hl : lv_has ls 3 [(0, .ref (aM 0)), (1, .int x1), (2, .int x2)] := hl
  unfold F_X9_entryNumber at hf
  refine lv_iload_n hx hb dX9_entryNumber_0 rfl (lv_at hl 1 rfl) ?_
  refine lv_iconst (v := 0) hx hb dX9_entryNumber_1 (by decide) ?_
  refine lv_aload_n hx hb dX9_entryNumber_2 rfl (lv_at hl 0 rfl) ?_
  refine gf_X9_7 hx hb hg hown hK hP 0 rfl rfl dX9_entryNumber_3 ?_
  refine lv_bipush (v := 9) hx hb dX9_entryNumber_6 (by decide) ?_
  obtain ⟨hi, hf⟩ := ck_o hf
  refine ar_ld hx hb hK hP 1 rfl hi dX9_entryNumber_8 ?_
  refine lv_iconst (v := 1) hx hb dX9_entryNumber_9 (by decide) ?_
  refine lv_isub hx hb dX9_entryNumber_10 ?_
  obtain ⟨u1, hu1, hf⟩ := bn hf
  refine cm_S (As := [.int x1, .int 0, .int ((vnow (Int32.toNatClampNeg 9)) - 1)]) (rest := []) (w2 := (W_M aM vM ++ (W_A E (aM 1) 306 vnow))) hx hb hml hown hg (c_X9_in E l x1 0 ((vnow (Int32.toNatClampNeg 9)) - 1) u1 hu1) cs_X9_in ml_X9_55 ⟨⟨rfl, rfl⟩, Nat.le_of_ble_eq_true rfl, Nat.le_of_ble_eq_true rfl⟩ hK hE hP hD hS hA [] rfl rfl rfl rfl hl.1 rfl (Nat.le_of_ble_eq_true rfl) dX9_entryNumber_11 ⟨Nat.le_of_ble_eq_true rfl, Nat.le_of_ble_eq_true rfl⟩ [.int u1] rfl (fun H locs hP hD hS => ?_)
  refine lv_if_eq (tgt := 28) hx hb dX9_entryNumber_14 (by decide) (fun cq => ?_) (fun cq => ?_)
  · have hf := it cq hf
    refine lv_aload_n hx hb dX9_entryNumber_28 rfl (lv_at hl 0 rfl) ?_
    refine lv_iconst (v := 1) hx hb dX9_entryNumber_29 (by decide) ?_
    obtain ⟨u2, hu2, hf⟩ := bn hf
    refine cm_V (As := [.int 1]) (rest := []) (w2 := (W_M aM u2.2 ++ (W_A E (aM 1) 306 vnow))) hx hb hml hown hg (c_X9_fails E l aM vM 1 u2 hu2) cy_X9_fails ml_X9_133 ⟨⟨rfl, rfl⟩, Nat.le_of_ble_eq_true rfl, Nat.le_of_ble_eq_true rfl⟩ hK hE hP hD hS hA [true] rfl rfl rfl 0 rfl rfl rfl hl.1 rfl (Nat.le_of_ble_eq_true rfl) dX9_entryNumber_30 ⟨Nat.le_of_ble_eq_true rfl, Nat.le_of_ble_eq_true rfl⟩ [.int u2.1] rfl (fun H locs hP hD hS => ?_)
    obtain rfl := Option.some.inj hf
    exact cm_iret hx hb hr hlocks hP hS dX9_entryNumber_33
  · have hf := ie cq hf
    refine lv_aload_n hx hb dX9_entryNumber_17 rfl (lv_at hl 0 rfl) ?_
    refine gf_X9_7 hx hb hg hown hK hP 0 rfl rfl dX9_entryNumber_18 ?_
    refine lv_iload_n hx hb dX9_entryNumber_21 rfl (lv_at hl 1 rfl) ?_
    refine lv_iload_n hx hb dX9_entryNumber_22 rfl (lv_at hl 2 rfl) ?_
    obtain ⟨u3, hu3, hf⟩ := bn hf
    refine cm_S (As := [.int x1, .int x2]) (rest := [.ref (aM 1)]) (w2 := (W_M aM vM ++ (W_A E (aM 1) 306 vnow))) hx hb hml hown hg (c_X9_entryAt E l x1 x2 u3 hu3) cs_X9_entryAt ml_X9_81 ⟨⟨rfl, rfl⟩, Nat.le_of_ble_eq_true rfl, Nat.le_of_ble_eq_true rfl⟩ hK hE hP hD hS hA [] rfl rfl rfl rfl hl.1 rfl (Nat.le_of_ble_eq_true rfl) dX9_entryNumber_23 ⟨Nat.le_of_ble_eq_true rfl, Nat.le_of_ble_eq_true rfl⟩ [.int u3, .ref (aM 1)] rfl (fun H locs hP hD hS => ?_)
    obtain ⟨hi, hf⟩ := ck_o hf
    refine ar_ld hx hb hK hP 1 rfl hi dX9_entryNumber_26 ?_
    obtain rfl := Option.some.inj hf
    exact cm_iret hx hb hr hlocks hP hS dX9_entryNumber_27
def F_X9_entryCount (vM : (Nat → Int32) × Int64) (vnow : Nat → Int32) : Option (Int32 × ((Nat → Int32) × Int64)) := lt (va_up vM.1 3 0, vM.2) (fun vM_3 => ck 9 306 ((some ((vnow (Int32.toNatClampNeg 9)), vM_3))))
abbrev rm_X9_entryCount : Room := { frames := 0, cells := 0, slots := 0, locals := 0 }
set_option maxHeartbeats 4000000 in
set_option maxRecDepth 100000 in
theorem c_X9_entryCount (E : Ev) (l : Launch) (aM : Nat → Nat) (vM : (Nat → Int32) × Int64) (vnow : Nat → Int32) (r : Int32 × ((Nat → Int32) × Int64)) (hf : F_X9_entryCount vM vnow = some r) : CM E l yX9_entryCount (.code yX9_entryCount cX9_entryCount 1 (some .int) :: GA) rm_X9_entryCount [.ref (aM 0)] (W_M aM vM ++ (W_A E (aM 1) 306 vnow)) (some (.int r.1)) (W_M aM r.2 ++ (W_A E (aM 1) 306 vnow)) := by
  refine CM.of (own := RX9) rfl (by decide) (Nat.le_of_ble_eq_true rfl) ?_
  intro p e s m below meth c A ls hx hb hr hml hown hg hlocks hK hE hA hP hD hS hl
  have hl : lv_has ls 1 [(0, .ref (aM 0))] := hl
  unfold F_X9_entryCount at hf
  refine lv_aload_n hx hb dX9_entryCount_0 rfl (lv_at hl 0 rfl) ?_
  refine lv_iconst (v := 0) hx hb dX9_entryCount_1 (by decide) ?_
  refine pf_X9_48 (w2 := (W_M aM (va_up vM.1 3 0, vM.2) ++ (W_A E (aM 1) 306 vnow))) hx hb hg hown hK hP hD hS 0 rfl (Nat.le_of_ble_eq_true rfl) rfl dX9_entryCount_2 (fun H locs hP hD hS => ?_)
  obtain ⟨vM_3, hv, hf⟩ := lt_o hf
  rw [← hv] at hP hD
  clear hv
  refine lv_aload_n hx hb dX9_entryCount_5 rfl (lv_at hl 0 rfl) ?_
  refine gf_X9_7 hx hb hg hown hK hP 0 rfl rfl dX9_entryCount_6 ?_
  refine lv_bipush (v := 9) hx hb dX9_entryCount_9 (by decide) ?_
  obtain ⟨hi, hf⟩ := ck_o hf
  refine ar_ld hx hb hK hP 1 rfl hi dX9_entryCount_11 ?_
  obtain rfl := Option.some.inj hf
  exact cm_iret hx hb hr hlocks hP hS dX9_entryCount_12
def F_X9_entryMinute (vM : (Nat → Int32) × Int64) (vnow : Nat → Int32) (x1 : Int32) : Option (Int32 × ((Nat → Int32) × Int64)) := lt (va_up vM.1 3 0, vM.2) (fun vM_3 => (F_X9_entryNumber vM_3 vnow x1 0).bind (fun u1 => (some (u1.1, u1.2))))
abbrev rm_X9_entryMinute : Room := { frames := 2, cells := 0, slots := 0, locals := 44 }
set_option maxHeartbeats 4000000 in
set_option maxRecDepth 100000 in
theorem c_X9_entryMinute (E : Ev) (l : Launch) (aM : Nat → Nat) (vM : (Nat → Int32) × Int64) (vnow : Nat → Int32) (x1 : Int32) (r : Int32 × ((Nat → Int32) × Int64)) (hf : F_X9_entryMinute vM vnow x1 = some r) : CM E l yX9_entryMinute (.code yX9_entryMinute cX9_entryMinute 2 (some .int) :: GA) rm_X9_entryMinute [.ref (aM 0), .int x1] (W_M aM vM ++ (W_A E (aM 1) 306 vnow)) (some (.int r.1)) (W_M aM r.2 ++ (W_A E (aM 1) 306 vnow)) := by
  refine CM.of (own := RX9) rfl (by decide) (Nat.le_of_ble_eq_true rfl) ?_
  intro p e s m below meth c A ls hx hb hr hml hown hg hlocks hK hE hA hP hD hS hl
  have hl : lv_has ls 2 [(0, .ref (aM 0)), (1, .int x1)] := hl
  unfold F_X9_entryMinute at hf
  refine lv_aload_n hx hb dX9_entryMinute_0 rfl (lv_at hl 0 rfl) ?_
  refine lv_iconst (v := 0) hx hb dX9_entryMinute_1 (by decide) ?_
  refine pf_X9_48 (w2 := (W_M aM (va_up vM.1 3 0, vM.2) ++ (W_A E (aM 1) 306 vnow))) hx hb hg hown hK hP hD hS 0 rfl (Nat.le_of_ble_eq_true rfl) rfl dX9_entryMinute_2 (fun H locs hP hD hS => ?_)
  obtain ⟨vM_3, hv, hf⟩ := lt_o hf
  rw [← hv] at hP hD
  clear hv
  refine lv_aload_n hx hb dX9_entryMinute_5 rfl (lv_at hl 0 rfl) ?_
  refine lv_iload_n hx hb dX9_entryMinute_6 rfl (lv_at hl 1 rfl) ?_
  refine lv_iconst (v := 0) hx hb dX9_entryMinute_7 (by decide) ?_
  obtain ⟨u1, hu1, hf⟩ := bn hf
  refine cm_V (As := [.int x1, .int 0]) (rest := []) (w2 := (W_M aM u1.2 ++ (W_A E (aM 1) 306 vnow))) hx hb hml hown hg (c_X9_entryNumber E l aM vM_3 vnow x1 0 u1 hu1) cy_X9_entryNumber ml_X9_239 ⟨⟨rfl, rfl⟩, Nat.le_of_ble_eq_true rfl, Nat.le_of_ble_eq_true rfl⟩ hK hE hP hD hS hA [true, true] rfl rfl rfl 0 rfl rfl rfl hl.1 rfl (Nat.le_of_ble_eq_true rfl) dX9_entryMinute_8 ⟨Nat.le_of_ble_eq_true rfl, Nat.le_of_ble_eq_true rfl⟩ [.int u1.1] rfl (fun H locs hP hD hS => ?_)
  obtain rfl := Option.some.inj hf
  exact cm_iret hx hb hr hlocks hP hS dX9_entryMinute_11
def F_X9_entryGuest (vM : (Nat → Int32) × Int64) (vnow : Nat → Int32) (x1 : Int32) : Option (Int32 × ((Nat → Int32) × Int64)) := lt (va_up vM.1 3 0, vM.2) (fun vM_3 => (F_X9_entryNumber vM_3 vnow x1 1).bind (fun u1 => (some (u1.1, u1.2))))
abbrev rm_X9_entryGuest : Room := { frames := 2, cells := 0, slots := 0, locals := 44 }
set_option maxHeartbeats 4000000 in
set_option maxRecDepth 100000 in
theorem c_X9_entryGuest (E : Ev) (l : Launch) (aM : Nat → Nat) (vM : (Nat → Int32) × Int64) (vnow : Nat → Int32) (x1 : Int32) (r : Int32 × ((Nat → Int32) × Int64)) (hf : F_X9_entryGuest vM vnow x1 = some r) : CM E l yX9_entryGuest (.code yX9_entryGuest cX9_entryGuest 2 (some .int) :: GA) rm_X9_entryGuest [.ref (aM 0), .int x1] (W_M aM vM ++ (W_A E (aM 1) 306 vnow)) (some (.int r.1)) (W_M aM r.2 ++ (W_A E (aM 1) 306 vnow)) := by
  refine CM.of (own := RX9) rfl (by decide) (Nat.le_of_ble_eq_true rfl) ?_
  intro p e s m below meth c A ls hx hb hr hml hown hg hlocks hK hE hA hP hD hS hl
  have hl : lv_has ls 2 [(0, .ref (aM 0)), (1, .int x1)] := hl
  unfold F_X9_entryGuest at hf
  refine lv_aload_n hx hb dX9_entryGuest_0 rfl (lv_at hl 0 rfl) ?_
  refine lv_iconst (v := 0) hx hb dX9_entryGuest_1 (by decide) ?_
  refine pf_X9_48 (w2 := (W_M aM (va_up vM.1 3 0, vM.2) ++ (W_A E (aM 1) 306 vnow))) hx hb hg hown hK hP hD hS 0 rfl (Nat.le_of_ble_eq_true rfl) rfl dX9_entryGuest_2 (fun H locs hP hD hS => ?_)
  obtain ⟨vM_3, hv, hf⟩ := lt_o hf
  rw [← hv] at hP hD
  clear hv
  refine lv_aload_n hx hb dX9_entryGuest_5 rfl (lv_at hl 0 rfl) ?_
  refine lv_iload_n hx hb dX9_entryGuest_6 rfl (lv_at hl 1 rfl) ?_
  refine lv_iconst (v := 1) hx hb dX9_entryGuest_7 (by decide) ?_
  obtain ⟨u1, hu1, hf⟩ := bn hf
  refine cm_V (As := [.int x1, .int 1]) (rest := []) (w2 := (W_M aM u1.2 ++ (W_A E (aM 1) 306 vnow))) hx hb hml hown hg (c_X9_entryNumber E l aM vM_3 vnow x1 1 u1 hu1) cy_X9_entryNumber ml_X9_239 ⟨⟨rfl, rfl⟩, Nat.le_of_ble_eq_true rfl, Nat.le_of_ble_eq_true rfl⟩ hK hE hP hD hS hA [true, true] rfl rfl rfl 0 rfl rfl rfl hl.1 rfl (Nat.le_of_ble_eq_true rfl) dX9_entryGuest_8 ⟨Nat.le_of_ble_eq_true rfl, Nat.le_of_ble_eq_true rfl⟩ [.int u1.1] rfl (fun H locs hP hD hS => ?_)
  obtain rfl := Option.some.inj hf
  exact cm_iret hx hb hr hlocks hP hS dX9_entryGuest_11
def F_X9_isLeaving (vM : (Nat → Int32) × Int64) (vnow : Nat → Int32) (x1 : Int32) : Option (Int32 × ((Nat → Int32) × Int64)) := lt (va_up vM.1 3 0, vM.2) (fun vM_3 => (F_X9_entryNumber vM_3 vnow x1 2).bind (fun u1 => (some ((if u1.1 = 1 then 1 else 0), u1.2))))
abbrev rm_X9_isLeaving : Room := { frames := 2, cells := 0, slots := 0, locals := 44 }
set_option maxHeartbeats 4000000 in
set_option maxRecDepth 100000 in
theorem c_X9_isLeaving (E : Ev) (l : Launch) (aM : Nat → Nat) (vM : (Nat → Int32) × Int64) (vnow : Nat → Int32) (x1 : Int32) (r : Int32 × ((Nat → Int32) × Int64)) (hf : F_X9_isLeaving vM vnow x1 = some r) : CM E l yX9_isLeaving (.code yX9_isLeaving cX9_isLeaving 2 (some .boolean) :: GA) rm_X9_isLeaving [.ref (aM 0), .int x1] (W_M aM vM ++ (W_A E (aM 1) 306 vnow)) (some (.int r.1)) (W_M aM r.2 ++ (W_A E (aM 1) 306 vnow)) := by
  refine CM.of (own := RX9) rfl (by decide) (Nat.le_of_ble_eq_true rfl) ?_
  intro p e s m below meth c A ls hx hb hr hml hown hg hlocks hK hE hA hP hD hS hl
  have hl : lv_has ls 2 [(0, .ref (aM 0)), (1, .int x1)] := hl
  unfold F_X9_isLeaving at hf
  refine lv_aload_n hx hb dX9_isLeaving_0 rfl (lv_at hl 0 rfl) ?_
  refine lv_iconst (v := 0) hx hb dX9_isLeaving_1 (by decide) ?_
  refine pf_X9_48 (w2 := (W_M aM (va_up vM.1 3 0, vM.2) ++ (W_A E (aM 1) 306 vnow))) hx hb hg hown hK hP hD hS 0 rfl (Nat.le_of_ble_eq_true rfl) rfl dX9_isLeaving_2 (fun H locs hP hD hS => ?_)
  obtain ⟨vM_3, hv, hf⟩ := lt_o hf
  rw [← hv] at hP hD
  clear hv
  refine lv_aload_n hx hb dX9_isLeaving_5 rfl (lv_at hl 0 rfl) ?_
  refine lv_iload_n hx hb dX9_isLeaving_6 rfl (lv_at hl 1 rfl) ?_
  refine lv_iconst (v := 2) hx hb dX9_isLeaving_7 (by decide) ?_
  obtain ⟨u1, hu1, hf⟩ := bn hf
  refine cm_V (As := [.int x1, .int 2]) (rest := []) (w2 := (W_M aM u1.2 ++ (W_A E (aM 1) 306 vnow))) hx hb hml hown hg (c_X9_entryNumber E l aM vM_3 vnow x1 2 u1 hu1) cy_X9_entryNumber ml_X9_239 ⟨⟨rfl, rfl⟩, Nat.le_of_ble_eq_true rfl, Nat.le_of_ble_eq_true rfl⟩ hK hE hP hD hS hA [true, true] rfl rfl rfl 0 rfl rfl rfl hl.1 rfl (Nat.le_of_ble_eq_true rfl) dX9_isLeaving_8 ⟨Nat.le_of_ble_eq_true rfl, Nat.le_of_ble_eq_true rfl⟩ [.int u1.1] rfl (fun H locs hP hD hS => ?_)
  refine lv_iconst (v := 1) hx hb dX9_isLeaving_11 (by decide) ?_
  refine wj (F0 m 20 ls [.int (if u1.1 = 1 then 1 else 0)]) ?_ (fun jk => ?_)
  rotate_left
  · refine lv_icmp_ne (tgt := 19) hx hb dX9_isLeaving_12 (by decide) (fun cq => ?_) (fun cq => ?_)
    · rw [if_neg cq] at jk
      refine lv_iconst (v := 0) hx hb dX9_isLeaving_19 (by decide) ?_
      exact jk
    · rw [if_pos cq] at jk
      refine lv_iconst (v := 1) hx hb dX9_isLeaving_15 (by decide) ?_
      refine lv_goto (tgt := 20) hx hb dX9_isLeaving_16 (by decide) ?_
      exact jk
  obtain rfl := Option.some.inj hf
  exact cm_zret (v := (if u1.1 = 1 then 1 else 0)) hx hb hr hlocks hP hS (by split <;> rfl) dX9_isLeaving_20
def F_X9_isPast (vM : (Nat → Int32) × Int64) (vnow : Nat → Int32) (x1 : Int32) (x2 : Int32) : Option (Int32) := ck 0 306 ((F_X9_in x1 0 ((vnow (Int32.toNatClampNeg 0)) - 1)).bind (fun u1 => (if u1 = 0 then (some 0) else ck 0 306 ((F_X9_in x2 x1 ((vnow (Int32.toNatClampNeg 0)) - 1)).bind (fun u2 => (if u2 = 0 then (some 0) else (some 1)))))))
abbrev rm_X9_isPast : Room := { frames := 1, cells := 0, slots := 0, locals := 22 }
set_option maxHeartbeats 4000000 in
set_option maxRecDepth 100000 in
theorem c_X9_isPast (E : Ev) (l : Launch) (aM : Nat → Nat) (vM : (Nat → Int32) × Int64) (vnow : Nat → Int32) (x1 : Int32) (x2 : Int32) (r : Int32) (hf : F_X9_isPast vM vnow x1 x2 = some r) : CM E l yX9_isPast (.code yX9_isPast cX9_isPast 3 (some .boolean) :: GA) rm_X9_isPast [.ref (aM 0), .int x1, .int x2] (W_M aM vM ++ (W_A E (aM 1) 306 vnow)) (some (.int r)) (W_M aM vM ++ (W_A E (aM 1) 306 vnow)) := by
  refine CM.of (own := RX9) rfl (by decide) (Nat.le_of_ble_eq_true rfl) ?_
  intro p e s m below meth c A ls hx hb hr hml hown hg hlocks hK hE hA hP hD hS hl
  have hl : lv_has ls 3 [(0, .ref (aM 0)), (1, .int x1), (2, .int x2)] := hl
  unfold F_X9_isPast at hf
  refine lv_iload_n hx hb dX9_isPast_0 rfl (lv_at hl 1 rfl) ?_
  refine lv_iconst (v := 0) hx hb dX9_isPast_1 (by decide) ?_
  refine lv_aload_n hx hb dX9_isPast_2 rfl (lv_at hl 0 rfl) ?_
  refine gf_X9_7 hx hb hg hown hK hP 0 rfl rfl dX9_isPast_3 ?_
  refine lv_iconst (v := 0) hx hb dX9_isPast_6 (by decide) ?_
  obtain ⟨hi, hf⟩ := ck_o hf
  refine ar_ld hx hb hK hP 1 rfl hi dX9_isPast_7 ?_
  refine lv_iconst (v := 1) hx hb dX9_isPast_8 (by decide) ?_
  refine lv_isub hx hb dX9_isPast_9 ?_
  obtain ⟨u1, hu1, hf⟩ := bn hf
  refine cm_S (As := [.int x1, .int 0, .int ((vnow (Int32.toNatClampNeg 0)) - 1)]) (rest := []) (w2 := (W_M aM vM ++ (W_A E (aM 1) 306 vnow))) hx hb hml hown hg (c_X9_in E l x1 0 ((vnow (Int32.toNatClampNeg 0)) - 1) u1 hu1) cs_X9_in ml_X9_55 ⟨⟨rfl, rfl⟩, Nat.le_of_ble_eq_true rfl, Nat.le_of_ble_eq_true rfl⟩ hK hE hP hD hS hA [] rfl rfl rfl rfl hl.1 rfl (Nat.le_of_ble_eq_true rfl) dX9_isPast_10 ⟨Nat.le_of_ble_eq_true rfl, Nat.le_of_ble_eq_true rfl⟩ [.int u1] rfl (fun H locs hP hD hS => ?_)
  refine lv_if_eq (tgt := 36) hx hb dX9_isPast_13 (by decide) (fun cq => ?_) (fun cq => ?_)
  · have hf := it cq hf
    refine lv_iconst (v := 0) hx hb dX9_isPast_36 (by decide) ?_
    obtain rfl := Option.some.inj hf
    exact cm_zret (v := 0) hx hb hr hlocks hP hS rfl dX9_isPast_37
  · have hf := ie cq hf
    refine lv_iload_n hx hb dX9_isPast_16 rfl (lv_at hl 2 rfl) ?_
    refine lv_iload_n hx hb dX9_isPast_17 rfl (lv_at hl 1 rfl) ?_
    refine lv_aload_n hx hb dX9_isPast_18 rfl (lv_at hl 0 rfl) ?_
    refine gf_X9_7 hx hb hg hown hK hP 0 rfl rfl dX9_isPast_19 ?_
    refine lv_iconst (v := 0) hx hb dX9_isPast_22 (by decide) ?_
    obtain ⟨hi, hf⟩ := ck_o hf
    refine ar_ld hx hb hK hP 1 rfl hi dX9_isPast_23 ?_
    refine lv_iconst (v := 1) hx hb dX9_isPast_24 (by decide) ?_
    refine lv_isub hx hb dX9_isPast_25 ?_
    obtain ⟨u2, hu2, hf⟩ := bn hf
    refine cm_S (As := [.int x2, .int x1, .int ((vnow (Int32.toNatClampNeg 0)) - 1)]) (rest := []) (w2 := (W_M aM vM ++ (W_A E (aM 1) 306 vnow))) hx hb hml hown hg (c_X9_in E l x2 x1 ((vnow (Int32.toNatClampNeg 0)) - 1) u2 hu2) cs_X9_in ml_X9_55 ⟨⟨rfl, rfl⟩, Nat.le_of_ble_eq_true rfl, Nat.le_of_ble_eq_true rfl⟩ hK hE hP hD hS hA [] rfl rfl rfl rfl hl.1 rfl (Nat.le_of_ble_eq_true rfl) dX9_isPast_26 ⟨Nat.le_of_ble_eq_true rfl, Nat.le_of_ble_eq_true rfl⟩ [.int u2] rfl (fun H locs hP hD hS => ?_)
    refine lv_if_eq (tgt := 36) hx hb dX9_isPast_29 (by decide) (fun cq => ?_) (fun cq => ?_)
    · have hf := it cq hf
      refine lv_iconst (v := 0) hx hb dX9_isPast_36 (by decide) ?_
      obtain rfl := Option.some.inj hf
      exact cm_zret (v := 0) hx hb hr hlocks hP hS rfl dX9_isPast_37
    · have hf := ie cq hf
      refine lv_iconst (v := 1) hx hb dX9_isPast_32 (by decide) ?_
      refine lv_goto (tgt := 37) hx hb dX9_isPast_33 (by decide) ?_
      obtain rfl := Option.some.inj hf
      exact cm_zret (v := 1) hx hb hr hlocks hP hS rfl dX9_isPast_37
def F_X9_wasOut (vM : (Nat → Int32) × Int64) (vnow : Nat → Int32) (x1 : Int32) (x2 : Int32) : Option (Int32 × ((Nat → Int32) × Int64)) := lt (va_up vM.1 3 0, vM.2) (fun vM_3 => (F_X9_isGuest vM_3 vnow x1).bind (fun u1 => (if u1 = 0 then (F_X9_isFailed vM_3 1).bind (fun u5 => (cn (u5.1 = 0 ∨ u5.1 = 1) (some (u5.1, u5.2)))) else (F_X9_isPast vM_3 vnow x2 x2).bind (fun u2 => (if u2 = 0 then (F_X9_isFailed vM_3 2).bind (fun u4 => (cn (u4.1 = 0 ∨ u4.1 = 1) (some (u4.1, u4.2)))) else (F_X9_outBetween vnow x1 x2 x2).bind (fun u3 => (some ((if u3 ≤ 0 then 0 else 1), vM_3))))))))
abbrev rm_X9_wasOut : Room := { frames := 3, cells := 0, slots := 0, locals := 71 }
set_option maxHeartbeats 4000000 in
set_option maxRecDepth 100000 in
theorem c_X9_wasOut (E : Ev) (l : Launch) (aM : Nat → Nat) (vM : (Nat → Int32) × Int64) (vnow : Nat → Int32) (x1 : Int32) (x2 : Int32) (r : Int32 × ((Nat → Int32) × Int64)) (hf : F_X9_wasOut vM vnow x1 x2 = some r) : CM E l yX9_wasOut (.code yX9_wasOut cX9_wasOut 3 (some .boolean) :: GA) rm_X9_wasOut [.ref (aM 0), .int x1, .int x2] (W_M aM vM ++ (W_A E (aM 1) 306 vnow)) (some (.int r.1)) (W_M aM r.2 ++ (W_A E (aM 1) 306 vnow)) := by
  refine CM.of (own := RX9) rfl (by decide) (Nat.le_of_ble_eq_true rfl) ?_
  intro p e s m below meth c A ls hx hb hr hml hown hg hlocks hK hE hA hP hD hS hl
  have hl : lv_has ls 3 [(0, .ref (aM 0)), (1, .int x1), (2, .int x2)] := hl
  unfold F_X9_wasOut at hf
  refine lv_aload_n hx hb dX9_wasOut_0 rfl (lv_at hl 0 rfl) ?_
  refine lv_iconst (v := 0) hx hb dX9_wasOut_1 (by decide) ?_
  refine pf_X9_48 (w2 := (W_M aM (va_up vM.1 3 0, vM.2) ++ (W_A E (aM 1) 306 vnow))) hx hb hg hown hK hP hD hS 0 rfl (Nat.le_of_ble_eq_true rfl) rfl dX9_wasOut_2 (fun H locs hP hD hS => ?_)
  obtain ⟨vM_3, hv, hf⟩ := lt_o hf
  rw [← hv] at hP hD
  clear hv
  refine lv_aload_n hx hb dX9_wasOut_5 rfl (lv_at hl 0 rfl) ?_
  refine lv_iload_n hx hb dX9_wasOut_6 rfl (lv_at hl 1 rfl) ?_
  obtain ⟨u1, hu1, hf⟩ := bn hf
  refine cm_V (As := [.int x1]) (rest := []) (w2 := (W_M aM vM_3 ++ (W_A E (aM 1) 306 vnow))) hx hb hml hown hg (c_X9_isGuest E l aM vM_3 vnow x1 u1 hu1) cy_X9_isGuest ml_X9_218 ⟨⟨rfl, rfl⟩, Nat.le_of_ble_eq_true rfl, Nat.le_of_ble_eq_true rfl⟩ hK hE hP hD hS hA [true, true] rfl rfl rfl 0 rfl rfl rfl hl.1 rfl (Nat.le_of_ble_eq_true rfl) dX9_wasOut_7 ⟨Nat.le_of_ble_eq_true rfl, Nat.le_of_ble_eq_true rfl⟩ [.int u1] rfl (fun H locs hP hD hS => ?_)
  refine lv_if_ne (tgt := 19) hx hb dX9_wasOut_10 (by decide) (fun cq => ?_) (fun cq => ?_)
  · have hf := ie cq hf
    refine lv_aload_n hx hb dX9_wasOut_19 rfl (lv_at hl 0 rfl) ?_
    refine lv_iload_n hx hb dX9_wasOut_20 rfl (lv_at hl 2 rfl) ?_
    refine lv_iload_n hx hb dX9_wasOut_21 rfl (lv_at hl 2 rfl) ?_
    obtain ⟨u2, hu2, hf⟩ := bn hf
    refine cm_V (As := [.int x2, .int x2]) (rest := []) (w2 := (W_M aM vM_3 ++ (W_A E (aM 1) 306 vnow))) hx hb hml hown hg (c_X9_isPast E l aM vM_3 vnow x2 x2 u2 hu2) cy_X9_isPast ml_X9_242 ⟨⟨rfl, rfl⟩, Nat.le_of_ble_eq_true rfl, Nat.le_of_ble_eq_true rfl⟩ hK hE hP hD hS hA [true, true] rfl rfl rfl 0 rfl rfl rfl hl.1 rfl (Nat.le_of_ble_eq_true rfl) dX9_wasOut_22 ⟨Nat.le_of_ble_eq_true rfl, Nat.le_of_ble_eq_true rfl⟩ [.int u2] rfl (fun H locs hP hD hS => ?_)
    refine lv_if_ne (tgt := 34) hx hb dX9_wasOut_25 (by decide) (fun cq => ?_) (fun cq => ?_)
    · have hf := ie cq hf
      refine lv_aload_n hx hb dX9_wasOut_34 rfl (lv_at hl 0 rfl) ?_
      refine gf_X9_7 hx hb hg hown hK hP 0 rfl rfl dX9_wasOut_35 ?_
      refine lv_iload_n hx hb dX9_wasOut_38 rfl (lv_at hl 1 rfl) ?_
      refine lv_iload_n hx hb dX9_wasOut_39 rfl (lv_at hl 2 rfl) ?_
      refine lv_iload_n hx hb dX9_wasOut_40 rfl (lv_at hl 2 rfl) ?_
      obtain ⟨u3, hu3, hf⟩ := bn hf
      refine cm_S (As := [.ref (aM 1), .int x1, .int x2, .int x2]) (rest := []) (w2 := (W_M aM vM_3 ++ (W_A E (aM 1) 306 vnow))) hx hb hml hown hg (c_X9_outBetween E l (aM 1) vnow x1 x2 x2 u3 hu3) cs_X9_outBetween ml_X9_127 ⟨⟨rfl, rfl⟩, Nat.le_of_ble_eq_true rfl, Nat.le_of_ble_eq_true rfl⟩ hK hE hP hD hS hA [false, true] rfl rfl rfl rfl hl.1 rfl (Nat.le_of_ble_eq_true rfl) dX9_wasOut_41 ⟨Nat.le_of_ble_eq_true rfl, Nat.le_of_ble_eq_true rfl⟩ [.int u3] rfl (fun H locs hP hD hS => ?_)
      refine wj (F0 m 52 ls [.int (if u3 ≤ 0 then 0 else 1)]) ?_ (fun jk => ?_)
      rotate_left
      · refine lv_if_le (tgt := 51) hx hb dX9_wasOut_44 (by decide) (fun cq => ?_) (fun cq => ?_)
        · rw [if_pos cq] at jk
          refine lv_iconst (v := 0) hx hb dX9_wasOut_51 (by decide) ?_
          exact jk
        · rw [if_neg cq] at jk
          refine lv_iconst (v := 1) hx hb dX9_wasOut_47 (by decide) ?_
          refine lv_goto (tgt := 52) hx hb dX9_wasOut_48 (by decide) ?_
          exact jk
      obtain rfl := Option.some.inj hf
      exact cm_zret (v := (if u3 ≤ 0 then 0 else 1)) hx hb hr hlocks hP hS (by split <;> rfl) dX9_wasOut_52
    · have hf := it cq hf
      refine lv_aload_n hx hb dX9_wasOut_28 rfl (lv_at hl 0 rfl) ?_
      refine lv_iconst (v := 2) hx hb dX9_wasOut_29 (by decide) ?_
      obtain ⟨u4, hu4, hf⟩ := bn hf
      refine cm_V (As := [.int 2]) (rest := []) (w2 := (W_M aM u4.2 ++ (W_A E (aM 1) 306 vnow))) hx hb hml hown hg (c_X9_isFailed E l aM vM_3 2 u4 hu4) cy_X9_isFailed ml_X9_230 ⟨⟨rfl, rfl⟩, Nat.le_of_ble_eq_true rfl, Nat.le_of_ble_eq_true rfl⟩ hK hE hP hD hS hA [true] rfl rfl rfl 0 rfl rfl rfl hl.1 rfl (Nat.le_of_ble_eq_true rfl) dX9_wasOut_30 ⟨Nat.le_of_ble_eq_true rfl, Nat.le_of_ble_eq_true rfl⟩ [.int u4.1] rfl (fun H locs hP hD hS => ?_)
      obtain ⟨hz, hf⟩ := cn_o hf
      obtain rfl := Option.some.inj hf
      exact cm_zret (v := u4.1) hx hb hr hlocks hP hS (nar01 hz) dX9_wasOut_33
  · have hf := it cq hf
    refine lv_aload_n hx hb dX9_wasOut_13 rfl (lv_at hl 0 rfl) ?_
    refine lv_iconst (v := 1) hx hb dX9_wasOut_14 (by decide) ?_
    obtain ⟨u5, hu5, hf⟩ := bn hf
    refine cm_V (As := [.int 1]) (rest := []) (w2 := (W_M aM u5.2 ++ (W_A E (aM 1) 306 vnow))) hx hb hml hown hg (c_X9_isFailed E l aM vM_3 1 u5 hu5) cy_X9_isFailed ml_X9_230 ⟨⟨rfl, rfl⟩, Nat.le_of_ble_eq_true rfl, Nat.le_of_ble_eq_true rfl⟩ hK hE hP hD hS hA [true] rfl rfl rfl 0 rfl rfl rfl hl.1 rfl (Nat.le_of_ble_eq_true rfl) dX9_wasOut_15 ⟨Nat.le_of_ble_eq_true rfl, Nat.le_of_ble_eq_true rfl⟩ [.int u5.1] rfl (fun H locs hP hD hS => ?_)
    obtain ⟨hz, hf⟩ := cn_o hf
    obtain rfl := Option.some.inj hf
    exact cm_zret (v := u5.1) hx hb hr hlocks hP hS (nar01 hz) dX9_wasOut_18
def F_X9_hasAlibi (vM : (Nat → Int32) × Int64) (vnow : Nat → Int32) (x1 : Int32) (x2 : Int32) (x3 : Int32) : Option (Int32 × ((Nat → Int32) × Int64)) := lt (va_up vM.1 3 0, vM.2) (fun vM_3 => (F_X9_isGuest vM_3 vnow x1).bind (fun u1 => (if u1 = 0 then (F_X9_isFailed vM_3 1).bind (fun u5 => (cn (u5.1 = 0 ∨ u5.1 = 1) (some (u5.1, u5.2)))) else (F_X9_isPast vM_3 vnow x2 x3).bind (fun u2 => (if u2 = 0 then (F_X9_isFailed vM_3 2).bind (fun u4 => (cn (u4.1 = 0 ∨ u4.1 = 1) (some (u4.1, u4.2)))) else (F_X9_outBetween vnow x1 x2 x3).bind (fun u3 => (some ((if u3 = 0 then 1 else 0), vM_3))))))))
abbrev rm_X9_hasAlibi : Room := { frames := 3, cells := 0, slots := 0, locals := 71 }
set_option maxHeartbeats 4000000 in
set_option maxRecDepth 100000 in
theorem c_X9_hasAlibi (E : Ev) (l : Launch) (aM : Nat → Nat) (vM : (Nat → Int32) × Int64) (vnow : Nat → Int32) (x1 : Int32) (x2 : Int32) (x3 : Int32) (r : Int32 × ((Nat → Int32) × Int64)) (hf : F_X9_hasAlibi vM vnow x1 x2 x3 = some r) : CM E l yX9_hasAlibi (.code yX9_hasAlibi cX9_hasAlibi 4 (some .boolean) :: GA) rm_X9_hasAlibi [.ref (aM 0), .int x1, .int x2, .int x3] (W_M aM vM ++ (W_A E (aM 1) 306 vnow)) (some (.int r.1)) (W_M aM r.2 ++ (W_A E (aM 1) 306 vnow)) := by
  refine CM.of (own := RX9) rfl (by decide) (Nat.le_of_ble_eq_true rfl) ?_
  intro p e s m below meth c A ls hx hb hr hml hown hg hlocks hK hE hA hP hD hS hl
  have hl : lv_has ls 4 [(0, .ref (aM 0)), (1, .int x1), (2, .int x2), (3, .int x3)] := hl
  unfold F_X9_hasAlibi at hf
  refine lv_aload_n hx hb dX9_hasAlibi_0 rfl (lv_at hl 0 rfl) ?_
  refine lv_iconst (v := 0) hx hb dX9_hasAlibi_1 (by decide) ?_
  refine pf_X9_48 (w2 := (W_M aM (va_up vM.1 3 0, vM.2) ++ (W_A E (aM 1) 306 vnow))) hx hb hg hown hK hP hD hS 0 rfl (Nat.le_of_ble_eq_true rfl) rfl dX9_hasAlibi_2 (fun H locs hP hD hS => ?_)
  obtain ⟨vM_3, hv, hf⟩ := lt_o hf
  rw [← hv] at hP hD
  clear hv
  refine lv_aload_n hx hb dX9_hasAlibi_5 rfl (lv_at hl 0 rfl) ?_
  refine lv_iload_n hx hb dX9_hasAlibi_6 rfl (lv_at hl 1 rfl) ?_
  obtain ⟨u1, hu1, hf⟩ := bn hf
  refine cm_V (As := [.int x1]) (rest := []) (w2 := (W_M aM vM_3 ++ (W_A E (aM 1) 306 vnow))) hx hb hml hown hg (c_X9_isGuest E l aM vM_3 vnow x1 u1 hu1) cy_X9_isGuest ml_X9_218 ⟨⟨rfl, rfl⟩, Nat.le_of_ble_eq_true rfl, Nat.le_of_ble_eq_true rfl⟩ hK hE hP hD hS hA [true, true] rfl rfl rfl 0 rfl rfl rfl hl.1 rfl (Nat.le_of_ble_eq_true rfl) dX9_hasAlibi_7 ⟨Nat.le_of_ble_eq_true rfl, Nat.le_of_ble_eq_true rfl⟩ [.int u1] rfl (fun H locs hP hD hS => ?_)
  refine lv_if_ne (tgt := 19) hx hb dX9_hasAlibi_10 (by decide) (fun cq => ?_) (fun cq => ?_)
  · have hf := ie cq hf
    refine lv_aload_n hx hb dX9_hasAlibi_19 rfl (lv_at hl 0 rfl) ?_
    refine lv_iload_n hx hb dX9_hasAlibi_20 rfl (lv_at hl 2 rfl) ?_
    refine lv_iload_n hx hb dX9_hasAlibi_21 rfl (lv_at hl 3 rfl) ?_
    obtain ⟨u2, hu2, hf⟩ := bn hf
    refine cm_V (As := [.int x2, .int x3]) (rest := []) (w2 := (W_M aM vM_3 ++ (W_A E (aM 1) 306 vnow))) hx hb hml hown hg (c_X9_isPast E l aM vM_3 vnow x2 x3 u2 hu2) cy_X9_isPast ml_X9_242 ⟨⟨rfl, rfl⟩, Nat.le_of_ble_eq_true rfl, Nat.le_of_ble_eq_true rfl⟩ hK hE hP hD hS hA [true, true] rfl rfl rfl 0 rfl rfl rfl hl.1 rfl (Nat.le_of_ble_eq_true rfl) dX9_hasAlibi_22 ⟨Nat.le_of_ble_eq_true rfl, Nat.le_of_ble_eq_true rfl⟩ [.int u2] rfl (fun H locs hP hD hS => ?_)
    refine lv_if_ne (tgt := 34) hx hb dX9_hasAlibi_25 (by decide) (fun cq => ?_) (fun cq => ?_)
    · have hf := ie cq hf
      refine lv_aload_n hx hb dX9_hasAlibi_34 rfl (lv_at hl 0 rfl) ?_
      refine gf_X9_7 hx hb hg hown hK hP 0 rfl rfl dX9_hasAlibi_35 ?_
      refine lv_iload_n hx hb dX9_hasAlibi_38 rfl (lv_at hl 1 rfl) ?_
      refine lv_iload_n hx hb dX9_hasAlibi_39 rfl (lv_at hl 2 rfl) ?_
      refine lv_iload_n hx hb dX9_hasAlibi_40 rfl (lv_at hl 3 rfl) ?_
      obtain ⟨u3, hu3, hf⟩ := bn hf
      refine cm_S (As := [.ref (aM 1), .int x1, .int x2, .int x3]) (rest := []) (w2 := (W_M aM vM_3 ++ (W_A E (aM 1) 306 vnow))) hx hb hml hown hg (c_X9_outBetween E l (aM 1) vnow x1 x2 x3 u3 hu3) cs_X9_outBetween ml_X9_127 ⟨⟨rfl, rfl⟩, Nat.le_of_ble_eq_true rfl, Nat.le_of_ble_eq_true rfl⟩ hK hE hP hD hS hA [false, true] rfl rfl rfl rfl hl.1 rfl (Nat.le_of_ble_eq_true rfl) dX9_hasAlibi_41 ⟨Nat.le_of_ble_eq_true rfl, Nat.le_of_ble_eq_true rfl⟩ [.int u3] rfl (fun H locs hP hD hS => ?_)
      refine wj (F0 m 52 ls [.int (if u3 = 0 then 1 else 0)]) ?_ (fun jk => ?_)
      rotate_left
      · refine lv_if_ne (tgt := 51) hx hb dX9_hasAlibi_44 (by decide) (fun cq => ?_) (fun cq => ?_)
        · rw [if_neg cq] at jk
          refine lv_iconst (v := 0) hx hb dX9_hasAlibi_51 (by decide) ?_
          exact jk
        · rw [if_pos cq] at jk
          refine lv_iconst (v := 1) hx hb dX9_hasAlibi_47 (by decide) ?_
          refine lv_goto (tgt := 52) hx hb dX9_hasAlibi_48 (by decide) ?_
          exact jk
      obtain rfl := Option.some.inj hf
      exact cm_zret (v := (if u3 = 0 then 1 else 0)) hx hb hr hlocks hP hS (by split <;> rfl) dX9_hasAlibi_52
    · have hf := it cq hf
      refine lv_aload_n hx hb dX9_hasAlibi_28 rfl (lv_at hl 0 rfl) ?_
      refine lv_iconst (v := 2) hx hb dX9_hasAlibi_29 (by decide) ?_
      obtain ⟨u4, hu4, hf⟩ := bn hf
      refine cm_V (As := [.int 2]) (rest := []) (w2 := (W_M aM u4.2 ++ (W_A E (aM 1) 306 vnow))) hx hb hml hown hg (c_X9_isFailed E l aM vM_3 2 u4 hu4) cy_X9_isFailed ml_X9_230 ⟨⟨rfl, rfl⟩, Nat.le_of_ble_eq_true rfl, Nat.le_of_ble_eq_true rfl⟩ hK hE hP hD hS hA [true] rfl rfl rfl 0 rfl rfl rfl hl.1 rfl (Nat.le_of_ble_eq_true rfl) dX9_hasAlibi_30 ⟨Nat.le_of_ble_eq_true rfl, Nat.le_of_ble_eq_true rfl⟩ [.int u4.1] rfl (fun H locs hP hD hS => ?_)
      obtain ⟨hz, hf⟩ := cn_o hf
      obtain rfl := Option.some.inj hf
      exact cm_zret (v := u4.1) hx hb hr hlocks hP hS (nar01 hz) dX9_hasAlibi_33
  · have hf := it cq hf
    refine lv_aload_n hx hb dX9_hasAlibi_13 rfl (lv_at hl 0 rfl) ?_
    refine lv_iconst (v := 1) hx hb dX9_hasAlibi_14 (by decide) ?_
    obtain ⟨u5, hu5, hf⟩ := bn hf
    refine cm_V (As := [.int 1]) (rest := []) (w2 := (W_M aM u5.2 ++ (W_A E (aM 1) 306 vnow))) hx hb hml hown hg (c_X9_isFailed E l aM vM_3 1 u5 hu5) cy_X9_isFailed ml_X9_230 ⟨⟨rfl, rfl⟩, Nat.le_of_ble_eq_true rfl, Nat.le_of_ble_eq_true rfl⟩ hK hE hP hD hS hA [true] rfl rfl rfl 0 rfl rfl rfl hl.1 rfl (Nat.le_of_ble_eq_true rfl) dX9_hasAlibi_15 ⟨Nat.le_of_ble_eq_true rfl, Nat.le_of_ble_eq_true rfl⟩ [.int u5.1] rfl (fun H locs hP hD hS => ?_)
    obtain ⟨hz, hf⟩ := cn_o hf
    obtain rfl := Option.some.inj hf
    exact cm_zret (v := u5.1) hx hb hr hlocks hP hS (nar01 hz) dX9_hasAlibi_18
