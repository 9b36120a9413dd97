/-! the builders of texts: contracts -/
theorem bytS_fit : ∀ i, i < 16 → ∀ j, fits .byte (.int ((bytS.getD i []).getD j 0)) = true := by
  intro i hi j
  have h : ∀ i, i < 16 → ∀ b ∈ bytS.getD i [], fits .byte (.int b) = true := by decide +kernel
  rw [List.getD_eq_getElem?_getD]
  cases h9 : (bytS.getD i [])[j]? with
  | none => rfl
  | some b => exact h i hi b (List.mem_of_getElem? h9)
theorem bytS_lat : ∀ i, i < 16 → ∀ k, k < lenS.getD i 0 → ((bytS.getD i []).getD k 0).toNatClampNeg < 256 ∧ (bytS.getD i []).getD k 0 = sb_b ((bytS.getD i []).getD k 0).toNatClampNeg := by decide +kernel
set_option maxHeartbeats 4000000 in
set_option maxRecDepth 100000 in
theorem j_lat (E : Ev) (l : Launch) (a b : Nat) (cn : Int32)  : PM E l yJ5_isLatin1_aae02 (.code yJ5_isLatin1_aae02 cJ5_isLatin1_aae02 1 (some .boolean) :: GA) { frames := 0, cells := 0, slots := 0, locals := 0 } [.ref a] [(a, .inr (10, [.ref b, .int 0, .int 0, .int cn]))] 0 0 (fun v bs => v = some (.int 1) ∧ bs = [(a, .inr (10, [.ref b, .int 0, .int 0, .int cn]))]) := by
  refine PM.of (own := RJ5) rfl (by decide) (Nat.le_of_ble_eq_true rfl) ?_
  intro p e s m below meth c A ls hx hb hr hml hown hg hlocks hin hK hE hO hA hP hD hS hl
  have hl : lv_has ls 1 [(0, .ref a)] := hl
  refine va_gets hx hb hE.2.1 hS hown (hg _ mf_J5_18) (fun _ h => h) dJ5_isLatin1_aae02_0 ?_
  refine lv_if_eq (tgt := 17) hx hb dJ5_isLatin1_aae02_3 (by decide) (fun cq => absurd cq (by decide)) (fun cq => ?_)
  refine lv_aload_n hx hb dJ5_isLatin1_aae02_6 rfl (lv_at hl 0 rfl) ?_
  refine va_get (D := E.1) (ci := 10) (C := RJ4) (T := TJ4) (N := 4) hx hb hg inG_J4 hown hK.1 hP 0 rfl rfl 1 (by decide) (hg _ mf_J5_22) (fun _ h => h) rfl dJ5_isLatin1_aae02_7 ?_
  refine lv_if_ne (tgt := 17) hx hb dJ5_isLatin1_aae02_10 (by decide) (fun cq => absurd (rfl) cq) (fun cq => ?_)
  refine lv_iconst (v := 1) hx hb dJ5_isLatin1_aae02_13 (by decide) ?_
  refine lv_goto (tgt := 18) hx hb dJ5_isLatin1_aae02_14 (by decide) ?_
  exact pm_yret hx hb hr rfl hlocks ⟨rfl, rfl⟩ hP hD hS dJ5_isLatin1_aae02_18 (Nat.le_of_ble_eq_true rfl) (Nat.le_of_ble_eq_true rfl)
set_option maxHeartbeats 4000000 in
set_option maxRecDepth 100000 in
theorem j_codD (E : Ev) (l : Launch) (a b : Nat)  : PM E l yJ0_coder_7d493 (.code yJ0_coder_7d493 cJ0_coder_7d493 1 (some .byte) :: GA) { frames := 0, cells := 0, slots := 0, locals := 0 } [.ref a] [(a, .inr (9, [.ref b, .int 0, .int 0, .int 0]))] 0 0 (fun v bs => v = some (.int 0) ∧ bs = [(a, .inr (9, [.ref b, .int 0, .int 0, .int 0]))]) := by
  refine PM.of (own := RJ0) rfl (by decide) (Nat.le_of_ble_eq_true rfl) ?_
  intro p e s m below meth c A ls hx hb hr hml hown hg hlocks hin hK hE hO hA hP hD hS hl
  have hl : lv_has ls 1 [(0, .ref a)] := hl
  refine va_gets hx hb hE.2.1 hS hown (hg _ mf_J0_38) (fun _ h => h) dJ0_coder_7d493_0 ?_
  refine lv_if_eq (tgt := 13) hx hb dJ0_coder_7d493_3 (by decide) (fun cq => absurd cq (by decide)) (fun cq => ?_)
  refine lv_aload_n hx hb dJ0_coder_7d493_6 rfl (lv_at hl 0 rfl) ?_
  refine va_get (D := E.1) (ci := 9) (C := RJ0) (T := TJ0) (N := 4) hx hb hg inG_J0 hown hK.1 hP 0 rfl rfl 1 (by decide) (hg _ mf_J0_15) (fun _ h => h) rfl dJ0_coder_7d493_7 ?_
  refine lv_goto (tgt := 14) hx hb dJ0_coder_7d493_10 (by decide) ?_
  exact pm_yret hx hb hr rfl hlocks ⟨rfl, rfl⟩ hP hD hS dJ0_coder_7d493_14 (Nat.le_of_ble_eq_true rfl) (Nat.le_of_ble_eq_true rfl)
set_option maxHeartbeats 4000000 in
set_option maxRecDepth 100000 in
theorem j_lenD (E : Ev) (l : Launch) (a b n : Nat) (f : Nat → Int32)  : PM E l yJ0_length_8abf5 (.code yJ0_length_8abf5 cJ0_length_8abf5 1 (some .int) :: GA) { frames := 1, cells := 0, slots := 0, locals := 20 } [.ref a] [(a, .inr (9, [.ref b, .int 0, .int 0, .int 0])), (b, .inl (E.2.2.2.1, n, .inl f))] 0 0 (fun v bs => v = some (.int (nI n)) ∧ bs = [(a, .inr (9, [.ref b, .int 0, .int 0, .int 0])), (b, .inl (E.2.2.2.1, n, .inl f))]) := by
  refine PM.of (own := RJ0) rfl (by decide) (Nat.le_of_ble_eq_true rfl) ?_
  intro p e s m below meth c A ls hx hb hr hml hown hg hlocks hin hK hE hO hA hP hD hS hl
  have hl : lv_has ls 1 [(0, .ref a)] := hl
  refine lv_aload_n hx hb dJ0_length_8abf5_0 rfl (lv_at hl 0 rfl) ?_
  refine va_get (D := E.1) (ci := 9) (C := RJ0) (T := TJ0) (N := 4) hx hb hg inG_J0 hown hK.1 hP 0 rfl rfl 0 (by decide) (hg _ mf_J0_9) (fun _ h => h) rfl dJ0_length_8abf5_1 ?_
  refine va_alen (v := nI n) hx hb hK.1 hP 1 2 rfl rfl rfl dJ0_length_8abf5_4 ?_
  refine lv_aload_n hx hb dJ0_length_8abf5_5 rfl (lv_at hl 0 rfl) ?_
  have hP : va_P E.1 vwCl ([(b, .inl (E.2.2.2.1, n, .inl f))] ++ [(a, .inr (9, [.ref b, .int 0, .int 0, .int 0]))]) _ := hP.sub [1, 0] rfl
  have hD : va_D A ([(b, .inl (E.2.2.2.1, n, .inl f))] ++ [(a, .inr (9, [.ref b, .int 0, .int 0, .int 0]))]) := hD.sub [1, 0] rfl rfl
  refine pm_V (As := []) (rest := [.int (nI n)]) (wr := [(b, .inl (E.2.2.2.1, n, .inl f))]) (bs := [(a, .inr (9, [.ref b, .int 0, .int 0, .int 0]))]) hx hb hml hown hg (j_codD E l a b) cv_J0_coder_7d493 ml_J0_335 ⟨⟨rfl, rfl⟩, Nat.le_of_ble_eq_true rfl, Nat.le_of_ble_eq_true rfl⟩ hK hE hO hP hD hS hA 1 rfl rfl rfl hl.1 rfl (Nat.le_of_ble_eq_true rfl) dJ0_length_8abf5_6 ⟨(Nat.le_of_ble_eq_true rfl), (Nat.le_of_ble_eq_true rfl)⟩ (fun v9 bs9 H locs hp hP hD hS => ?_)
  obtain ⟨rfl, rfl⟩ := hp
  have hP : va_P E.1 vwCl [(b, .inl (E.2.2.2.1, n, .inl f)), (a, .inr (9, [.ref b, .int 0, .int 0, .int 0]))] _ := hP
  have hD : va_D A [(b, .inl (E.2.2.2.1, n, .inl f)), (a, .inr (9, [.ref b, .int 0, .int 0, .int 0]))] := hD
  refine lv_ishr hx hb dJ0_length_8abf5_9 ?_
  rw [sb_shr0]
  have hP : va_P E.1 vwCl [(a, .inr (9, [.ref b, .int 0, .int 0, .int 0])), (b, .inl (E.2.2.2.1, n, .inl f))] _ := hP.sub [1, 0] rfl
  have hD : va_D A [(a, .inr (9, [.ref b, .int 0, .int 0, .int 0])), (b, .inl (E.2.2.2.1, n, .inl f))] := hD.sub [1, 0] rfl rfl
  exact pm_yret hx hb hr rfl hlocks ⟨rfl, rfl⟩ hP hD hS dJ0_length_8abf5_10 (Nat.le_of_ble_eq_true rfl) (Nat.le_of_ble_eq_true rfl)
set_option maxHeartbeats 4000000 in
set_option maxRecDepth 100000 in
theorem j_latD (E : Ev) (l : Launch) (a b : Nat)  : PM E l yJ0_isLatin1_aae02 (.code yJ0_isLatin1_aae02 cJ0_isLatin1_aae02 1 (some .boolean) :: GA) { frames := 0, cells := 0, slots := 0, locals := 0 } [.ref a] [(a, .inr (9, [.ref b, .int 0, .int 0, .int 0]))] 0 0 (fun v bs => v = some (.int 1) ∧ bs = [(a, .inr (9, [.ref b, .int 0, .int 0, .int 0]))]) := by
  refine PM.of (own := RJ0) rfl (by decide) (Nat.le_of_ble_eq_true rfl) ?_
  intro p e s m below meth c A ls hx hb hr hml hown hg hlocks hin hK hE hO hA hP hD hS hl
  have hl : lv_has ls 1 [(0, .ref a)] := hl
  refine va_gets hx hb hE.2.1 hS hown (hg _ mf_J0_38) (fun _ h => h) dJ0_isLatin1_aae02_0 ?_
  refine lv_if_eq (tgt := 17) hx hb dJ0_isLatin1_aae02_3 (by decide) (fun cq => absurd cq (by decide)) (fun cq => ?_)
  refine lv_aload_n hx hb dJ0_isLatin1_aae02_6 rfl (lv_at hl 0 rfl) ?_
  refine va_get (D := E.1) (ci := 9) (C := RJ0) (T := TJ0) (N := 4) hx hb hg inG_J0 hown hK.1 hP 0 rfl rfl 1 (by decide) (hg _ mf_J0_15) (fun _ h => h) rfl dJ0_isLatin1_aae02_7 ?_
  refine lv_if_ne (tgt := 17) hx hb dJ0_isLatin1_aae02_10 (by decide) (fun cq => absurd (rfl) cq) (fun cq => ?_)
  refine lv_iconst (v := 1) hx hb dJ0_isLatin1_aae02_13 (by decide) ?_
  refine lv_goto (tgt := 18) hx hb dJ0_isLatin1_aae02_14 (by decide) ?_
  exact pm_yret hx hb hr rfl hlocks ⟨rfl, rfl⟩ hP hD hS dJ0_isLatin1_aae02_18 (Nat.le_of_ble_eq_true rfl) (Nat.le_of_ble_eq_true rfl)
set_option maxHeartbeats 4000000 in
set_option maxRecDepth 100000 in
theorem j_l1D (E : Ev) (l : Launch) (b n i : Nat) (f : Nat → Int32) (t : Nat → Nat) (hL : sb_Lat t n f) (hi : i < n) (hn : n ≤ 65536) : PM E l yJ1_charAt_3b067 (.code yJ1_charAt_3b067 cJ1_charAt_3b067 2 (some .char) :: GA) { frames := 2, cells := 0, slots := 0, locals := 43 } [.ref b, .int (nI i)] [(b, .inl (E.2.2.2.1, n, .inl f))] 0 0 (fun v bs => v = some (.int (nI (t i))) ∧ bs = [(b, .inl (E.2.2.2.1, n, .inl f))]) := by
  refine PM.of (own := RJ1) rfl (by decide) (Nat.le_of_ble_eq_true rfl) ?_
  intro p e s m below meth c A ls hx hb hr hml hown hg hlocks hin hK hE hO hA hP hD hS hl
  have hl : lv_has ls 2 [(0, .ref b), (1, .int (nI i))] := hl
  refine lv_iload_n hx hb dJ1_charAt_3b067_0 rfl (lv_at hl 1 rfl) ?_
  refine lv_aload_n hx hb dJ1_charAt_3b067_1 rfl (lv_at hl 0 rfl) ?_
  refine va_alen (v := nI n) hx hb hK.1 hP 0 2 rfl rfl rfl dJ1_charAt_3b067_2 ?_
  refine cm_SX (As := [.int (nI i), .int (nI n)]) (rest := []) (w2 := [(b, .inl (E.2.2.2.1, n, .inl f))]) hx hb hml hown hg (c_scheck E l (nI i) (nI n) (nI_pos (by omega)) (nI_lt hi (by omega))) cs_J0_checkIndex_df160 ml_J1_9 ⟨⟨rfl, rfl⟩, Nat.le_of_ble_eq_true rfl, Nat.le_of_ble_eq_true rfl⟩ hK hE hP hD hS hA [] rfl rfl rfl rfl hl.1 rfl (Nat.le_of_ble_eq_true rfl) dJ1_charAt_3b067_3 ⟨(Nat.le_of_ble_eq_true rfl), (Nat.le_of_ble_eq_true rfl)⟩ [] rfl (fun H locs hP hD hS => ?_)
  refine lv_aload_n hx hb dJ1_charAt_3b067_6 rfl (lv_at hl 0 rfl) ?_
  refine lv_iload_n hx hb dJ1_charAt_3b067_7 rfl (lv_at hl 1 rfl) ?_
  refine va_bald hx hb hK.1 hP 0 2 rfl rfl (vp_in_nI hi (by omega)) dJ1_charAt_3b067_8 ?_
  rw [nI_clamp (by omega : i < 2 ^ 31), (hL i hi).2]
  refine lv_sipush (v := 255) hx hb dJ1_charAt_3b067_9 (by decide) ?_
  refine lv_iand hx hb dJ1_charAt_3b067_12 ?_
  rw [(sb_byte _ (hL i hi).1).1]
  refine lv_i2c (v := nI (t i)) hx hb dJ1_charAt_3b067_13 (sb_byte _ (hL i hi).1).2.1 ?_
  exact pm_yret hx hb hr (pk_charN (q := t i) (Nat.lt_of_lt_of_le (hL i hi).1 (by omega))).1 hlocks ⟨rfl, rfl⟩ hP hD hS dJ1_charAt_3b067_14 (Nat.le_of_ble_eq_true rfl) (Nat.le_of_ble_eq_true rfl)
set_option maxHeartbeats 4000000 in
set_option maxRecDepth 100000 in
theorem j_chD (E : Ev) (l : Launch) (a b n i : Nat) (f : Nat → Int32) (t : Nat → Nat) (hL : sb_Lat t n f) (hi : i < n) (hn : n ≤ 65536) : PM E l yJ0_charAt_5068e (.code yJ0_charAt_5068e cJ0_charAt_5068e 2 (some .char) :: GA) { frames := 3, cells := 0, slots := 0, locals := 64 } [.ref a, .int (nI i)] [(a, .inr (9, [.ref b, .int 0, .int 0, .int 0])), (b, .inl (E.2.2.2.1, n, .inl f))] 0 0 (fun v bs => v = some (.int (nI (t i))) ∧ bs = [(a, .inr (9, [.ref b, .int 0, .int 0, .int 0])), (b, .inl (E.2.2.2.1, n, .inl f))]) := by
  refine PM.of (own := RJ0) rfl (by decide) (Nat.le_of_ble_eq_true rfl) ?_
  intro p e s m below meth c A ls hx hb hr hml hown hg hlocks hin hK hE hO hA hP hD hS hl
  have hl : lv_has ls 2 [(0, .ref a), (1, .int (nI i))] := hl
  refine lv_aload_n hx hb dJ0_charAt_5068e_0 rfl (lv_at hl 0 rfl) ?_
  have hP : va_P E.1 vwCl ([(b, .inl (E.2.2.2.1, n, .inl f))] ++ [(a, .inr (9, [.ref b, .int 0, .int 0, .int 0]))]) _ := hP.sub [1, 0] rfl
  have hD : va_D A ([(b, .inl (E.2.2.2.1, n, .inl f))] ++ [(a, .inr (9, [.ref b, .int 0, .int 0, .int 0]))]) := hD.sub [1, 0] rfl rfl
  refine pm_V (As := []) (rest := []) (wr := [(b, .inl (E.2.2.2.1, n, .inl f))]) (bs := [(a, .inr (9, [.ref b, .int 0, .int 0, .int 0]))]) hx hb hml hown hg (j_latD E l a b) cv_J0_isLatin1_aae02 ml_J0_492 ⟨⟨rfl, rfl⟩, Nat.le_of_ble_eq_true rfl, Nat.le_of_ble_eq_true rfl⟩ hK hE hO hP hD hS hA 1 rfl rfl rfl hl.1 rfl (Nat.le_of_ble_eq_true rfl) dJ0_charAt_5068e_1 ⟨(Nat.le_of_ble_eq_true rfl), (Nat.le_of_ble_eq_true rfl)⟩ (fun v9 bs9 H locs hp hP hD hS => ?_)
  obtain ⟨rfl, rfl⟩ := hp
  have hP : va_P E.1 vwCl [(b, .inl (E.2.2.2.1, n, .inl f)), (a, .inr (9, [.ref b, .int 0, .int 0, .int 0]))] _ := hP
  have hD : va_D A [(b, .inl (E.2.2.2.1, n, .inl f)), (a, .inr (9, [.ref b, .int 0, .int 0, .int 0]))] := hD
  refine lv_if_eq (tgt := 16) hx hb dJ0_charAt_5068e_4 (by decide) (fun cq => absurd cq (by decide)) (fun cq => ?_)
  refine lv_aload_n hx hb dJ0_charAt_5068e_7 rfl (lv_at hl 0 rfl) ?_
  refine va_get (D := E.1) (ci := 9) (C := RJ0) (T := TJ0) (N := 4) hx hb hg inG_J0 hown hK.1 hP 1 rfl rfl 0 (by decide) (hg _ mf_J0_9) (fun _ h => h) rfl dJ0_charAt_5068e_8 ?_
  refine lv_iload_n hx hb dJ0_charAt_5068e_11 rfl (lv_at hl 1 rfl) ?_
  have hP : va_P E.1 vwCl ([(a, .inr (9, [.ref b, .int 0, .int 0, .int 0]))] ++ [(b, .inl (E.2.2.2.1, n, .inl f))]) _ := hP.sub [1, 0] rfl
  have hD : va_D A ([(a, .inr (9, [.ref b, .int 0, .int 0, .int 0]))] ++ [(b, .inl (E.2.2.2.1, n, .inl f))]) := hD.sub [1, 0] rfl rfl
  refine pm_S (As := [.ref b, .int (nI i)]) (rest := []) (wr := [(a, .inr (9, [.ref b, .int 0, .int 0, .int 0]))]) (bs := [(b, .inl (E.2.2.2.1, n, .inl f))]) hx hb hml hown hg (j_l1D E l b n i f t hL hi hn) cs_J1_charAt_3b067 ml_J0_495 ⟨⟨rfl, rfl⟩, Nat.le_of_ble_eq_true rfl, Nat.le_of_ble_eq_true rfl⟩ hK hE hO hP hD hS hA rfl hl.1 rfl (Nat.le_of_ble_eq_true rfl) dJ0_charAt_5068e_12 ⟨(Nat.le_of_ble_eq_true rfl), (Nat.le_of_ble_eq_true rfl)⟩ (fun v9 bs9 H locs hp hP hD hS => ?_)
  obtain ⟨rfl, rfl⟩ := hp
  have hP : va_P E.1 vwCl [(a, .inr (9, [.ref b, .int 0, .int 0, .int 0])), (b, .inl (E.2.2.2.1, n, .inl f))] _ := hP
  have hD : va_D A [(a, .inr (9, [.ref b, .int 0, .int 0, .int 0])), (b, .inl (E.2.2.2.1, n, .inl f))] := hD
  have hP : va_P E.1 vwCl [(a, .inr (9, [.ref b, .int 0, .int 0, .int 0])), (b, .inl (E.2.2.2.1, n, .inl f))] _ := hP.sub [0, 1] rfl
  have hD : va_D A [(a, .inr (9, [.ref b, .int 0, .int 0, .int 0])), (b, .inl (E.2.2.2.1, n, .inl f))] := hD.sub [0, 1] rfl rfl
  exact pm_yret hx hb hr (pk_charN (q := t i) (Nat.lt_of_lt_of_le (hL i hi).1 (by omega))).1 hlocks ⟨rfl, rfl⟩ hP hD hS dJ0_charAt_5068e_15 (Nat.le_of_ble_eq_true rfl) (Nat.le_of_ble_eq_true rfl)
set_option maxHeartbeats 4000000 in
set_option maxRecDepth 100000 in
theorem j_enc (E : Ev) (l : Launch) (ch : Nat) (h : ch < 256) : PM E l yJ1_canEncode_fc78d (.code yJ1_canEncode_fc78d cJ1_canEncode_fc78d 1 (some .boolean) :: GA) { frames := 0, cells := 0, slots := 0, locals := 0 } [.int (nI ch)] [] 0 0 (fun v bs => v = some (.int 1) ∧ bs = []) := by
  refine PM.of (own := RJ1) rfl (by decide) (Nat.le_of_ble_eq_true rfl) ?_
  intro p e s m below meth c A ls hx hb hr hml hown hg hlocks hin hK hE hO hA hP hD hS hl
  have hl : lv_has ls 1 [(0, .int (nI ch))] := hl
  refine lv_iload_n hx hb dJ1_canEncode_fc78d_0 rfl (lv_at hl 0 rfl) ?_
  refine lv_sipush (v := 255) hx hb dJ1_canEncode_fc78d_1 (by decide) ?_
  refine lv_icmp_gt (tgt := 11) hx hb dJ1_canEncode_fc78d_4 (by decide) (fun cq => absurd cq ((nI_nlt (by omega) (by decide) : ¬ nI 255 < nI ch))) (fun cq => ?_)
  refine lv_iconst (v := 1) hx hb dJ1_canEncode_fc78d_7 (by decide) ?_
  refine lv_goto (tgt := 12) hx hb dJ1_canEncode_fc78d_8 (by decide) ?_
  exact pm_yret hx hb hr rfl hlocks ⟨rfl, rfl⟩ hP hD hS dJ1_canEncode_fc78d_12 (Nat.le_of_ble_eq_true rfl) (Nat.le_of_ble_eq_true rfl)
set_option maxHeartbeats 4000000 in
set_option maxRecDepth 100000 in
theorem j_val (E : Ev) (l : Launch) (a b : Nat) (cn : Int32)  : PM E l yJ5_getValue_6d5f1 (.code yJ5_getValue_6d5f1 cJ5_getValue_6d5f1 1 (some (.array .byte)) :: GA) { frames := 0, cells := 0, slots := 0, locals := 0 } [.ref a] [(a, .inr (10, [.ref b, .int 0, .int 0, .int cn]))] 0 0 (fun v bs => v = some (.ref b) ∧ bs = [(a, .inr (10, [.ref b, .int 0, .int 0, .int cn]))]) := by
  refine PM.of (own := RJ5) rfl (by decide) (Nat.le_of_ble_eq_true rfl) ?_
  intro p e s m below meth c A ls hx hb hr hml hown hg hlocks hin hK hE hO hA hP hD hS hl
  have hl : lv_has ls 1 [(0, .ref a)] := hl
  refine lv_aload_n hx hb dJ5_getValue_6d5f1_0 rfl (lv_at hl 0 rfl) ?_
  refine va_get (D := E.1) (ci := 10) (C := RJ4) (T := TJ4) (N := 4) hx hb hg inG_J4 hown hK.1 hP 0 rfl rfl 0 (by decide) (hg _ mf_J5_15) (fun _ h => h) rfl dJ5_getValue_6d5f1_1 ?_
  exact pm_aret hx hb hr (Or.inr ⟨_, rfl⟩) hlocks ⟨rfl, rfl⟩ hP hD hS dJ5_getValue_6d5f1_4 (Nat.le_of_ble_eq_true rfl) (Nat.le_of_ble_eq_true rfl)
set_option maxHeartbeats 4000000 in
set_option maxRecDepth 100000 in
theorem j_sbl5 (E : Ev) (l : Launch) (a b : Nat) (cn : Int32)  : PM E l yJ5_length_8abf5 (.code yJ5_length_8abf5 cJ5_length_8abf5 1 (some .int) :: GA) { frames := 0, cells := 0, slots := 0, locals := 0 } [.ref a] [(a, .inr (10, [.ref b, .int 0, .int 0, .int cn]))] 0 0 (fun v bs => v = some (.int cn) ∧ bs = [(a, .inr (10, [.ref b, .int 0, .int 0, .int cn]))]) := by
  refine PM.of (own := RJ5) rfl (by decide) (Nat.le_of_ble_eq_true rfl) ?_
  intro p e s m below meth c A ls hx hb hr hml hown hg hlocks hin hK hE hO hA hP hD hS hl
  have hl : lv_has ls 1 [(0, .ref a)] := hl
  refine lv_aload_n hx hb dJ5_length_8abf5_0 rfl (lv_at hl 0 rfl) ?_
  refine va_get (D := E.1) (ci := 10) (C := RJ4) (T := TJ4) (N := 4) hx hb hg inG_J4 hown hK.1 hP 0 rfl rfl 3 (by decide) (hg _ mf_J5_79) (fun _ h => h) rfl dJ5_length_8abf5_1 ?_
  exact pm_yret hx hb hr rfl hlocks ⟨rfl, rfl⟩ hP hD hS dJ5_length_8abf5_4 (Nat.le_of_ble_eq_true rfl) (Nat.le_of_ble_eq_true rfl)
set_option maxHeartbeats 4000000 in
set_option maxRecDepth 100000 in
theorem j_sbl (E : Ev) (l : Launch) (a b : Nat) (cn : Int32)  : PM E l yJ4_length_8abf5 (.code yJ4_length_8abf5 cJ4_length_8abf5 1 (some .int) :: GA) { frames := 1, cells := 0, slots := 0, locals := 20 } [.ref a] [(a, .inr (10, [.ref b, .int 0, .int 0, .int cn]))] 0 0 (fun v bs => v = some (.int cn) ∧ bs = [(a, .inr (10, [.ref b, .int 0, .int 0, .int cn]))]) := by
  refine PM.of (own := RJ4) rfl (by decide) (Nat.le_of_ble_eq_true rfl) ?_
  intro p e s m below meth c A ls hx hb hr hml hown hg hlocks hin hK hE hO hA hP hD hS hl
  have hl : lv_has ls 1 [(0, .ref a)] := hl
  refine lv_aload_n hx hb dJ4_length_8abf5_0 rfl (lv_at hl 0 rfl) ?_
  refine pm_SU (n := 0) (As := []) (rest := []) (wr := []) (bs := [(a, .inr (10, [.ref b, .int 0, .int 0, .int cn]))]) hx hb hml hown hg (j_sbl5 E l a b cn) cx_J5_length_8abf5 sm_J5_length_8abf5 sup_J4 ini_J5 (by decide +kernel) ml_J4_343 ⟨⟨rfl, rfl⟩, Nat.le_of_ble_eq_true rfl, Nat.le_of_ble_eq_true rfl⟩ hK hE hO hP hD hS hA 0 rfl rfl rfl hl.1 rfl (Nat.le_of_ble_eq_true rfl) dJ4_length_8abf5_1 ⟨(Nat.le_of_ble_eq_true rfl), (Nat.le_of_ble_eq_true rfl)⟩ (fun v9 bs9 H locs hp hP hD hS => ?_)
  obtain ⟨rfl, rfl⟩ := hp
  have hP : va_P E.1 vwCl [(a, .inr (10, [.ref b, .int 0, .int 0, .int cn]))] _ := hP
  have hD : va_D A [(a, .inr (10, [.ref b, .int 0, .int 0, .int cn]))] := hD
  exact pm_yret hx hb hr rfl hlocks ⟨rfl, rfl⟩ hP hD hS dJ4_length_8abf5_4 (Nat.le_of_ble_eq_true rfl) (Nat.le_of_ble_eq_true rfl)
set_option maxHeartbeats 4000000 in
set_option maxRecDepth 100000 in
theorem j_nlen (E : Ev) (l : Launch) (mm g : Nat) (hm : mm ≤ 65536) (hg9 : g < 2 ^ 28) : PM E l yJ8_newLength_cabcc (.code yJ8_newLength_cabcc cJ8_newLength_cabcc 4 (some .int) :: GA) { frames := 1, cells := 0, slots := 0, locals := 21 } [.int (nI mm), .int (nI g), .int (nI (mm + 2))] [] 0 0 (fun v bs => v = some (.int (nI (mm + if g < mm + 2 then mm + 2 else g))) ∧ bs = []) := by
  refine PM.of (own := RJ8) rfl (by decide) (Nat.le_of_ble_eq_true rfl) ?_
  intro p e s m below meth c A ls hx hb hr hml hown hg hlocks hin hK hE hO hA hP hD hS hl
  have hl : lv_has ls 4 [(0, .int (nI mm)), (1, .int (nI g)), (2, .int (nI (mm + 2)))] := hl
  have hb9 : (mm + if g < mm + 2 then mm + 2 else g) < 2 ^ 29 := by split <;> omega
  have hz : 0 < (mm + if g < mm + 2 then mm + 2 else g) := by split <;> omega
  have e3 : nI mm + (if nI g < nI (mm + 2) then nI (mm + 2) else nI g) = nI (mm + if g < mm + 2 then mm + 2 else g) := by
    by_cases h2 : g < mm + 2
    · rw [if_pos h2, if_pos (nI_lt h2 (by omega))]; exact nI_add mm (mm + 2)
    · rw [if_neg h2, if_neg (nI_nlt (by omega) (by omega))]; exact nI_add mm g
  refine lv_iload_n hx hb dJ8_newLength_cabcc_0 rfl (lv_at hl 0 rfl) ?_
  refine lv_iload_n hx hb dJ8_newLength_cabcc_1 rfl (lv_at hl 1 rfl) ?_
  refine lv_iload_n hx hb dJ8_newLength_cabcc_2 rfl (lv_at hl 2 rfl) ?_
  refine cm_max hx hb hml hl.1 hown hg ml_J8_194 (Nat.le_of_ble_eq_true rfl) (Nat.le_of_ble_eq_true rfl) ⟨(Nat.le_of_ble_eq_true rfl), (Nat.le_of_ble_eq_true rfl)⟩ dJ8_newLength_cabcc_3 ?_
  refine lv_iadd hx hb dJ8_newLength_cabcc_6 ?_
  rw [e3]
  refine lv_istore_n (lv' := [(3, .int (nI (mm + if g < mm + 2 then mm + 2 else g))), (0, .int (nI mm)), (1, .int (nI g)), (2, .int (nI (mm + 2)))]) hx hb dJ8_newLength_cabcc_7 rfl hl (by decide) rfl (fun ls hl => ?_)
  refine lv_iconst (v := 0) hx hb dJ8_newLength_cabcc_8 (by decide) ?_
  refine lv_iload_n hx hb dJ8_newLength_cabcc_9 rfl (lv_at hl 0 rfl) ?_
  refine lv_icmp_ge (tgt := 21) hx hb dJ8_newLength_cabcc_10 (by decide) (fun cq => absurd cq ((nI_nle (by omega) (by omega) : ¬ nI (mm + if g < mm + 2 then mm + 2 else g) ≤ nI 0))) (fun cq => ?_)
  refine lv_iload_n hx hb dJ8_newLength_cabcc_13 rfl (lv_at hl 0 rfl) ?_
  refine lv_ldc (v := 2147483639) hx hb hown (hg _ kc_J8_200) dJ8_newLength_cabcc_14 ?_
  refine lv_icmp_gt (tgt := 21) hx hb dJ8_newLength_cabcc_16 (by decide) (fun cq => absurd cq ((nI_nlt (by omega) (by decide) : ¬ nI 2147483639 < nI (mm + if g < mm + 2 then mm + 2 else g)))) (fun cq => ?_)
  refine lv_iload_n hx hb dJ8_newLength_cabcc_19 rfl (lv_at hl 0 rfl) ?_
  exact pm_yret hx hb hr rfl hlocks ⟨rfl, rfl⟩ hP hD hS dJ8_newLength_cabcc_20 (Nat.le_of_ble_eq_true rfl) (Nat.le_of_ble_eq_true rfl)
set_option maxHeartbeats 4000000 in
set_option maxRecDepth 100000 in
theorem j_ncap (E : Ev) (l : Launch) (a b mm q : Nat) (f : Nat → Int32) (cn : Int32) (hm : mm ≤ 65536) (hq : q < 2 ^ 28) (hmq : mm < q) : PM E l yJ5_newCapacity_0f7a4 (.code yJ5_newCapacity_0f7a4 cJ5_newCapacity_0f7a4 6 (some .int) :: GA) { frames := 2, cells := 0, slots := 0, locals := 44 } [.ref a, .int (nI q)] [(a, .inr (10, [.ref b, .int 0, .int 0, .int cn])), (b, .inl (E.2.2.2.1, mm, .inl f))] 0 0 (fun v bs => v = some (.int (nI (sb_cap q mm))) ∧ bs = [(a, .inr (10, [.ref b, .int 0, .int 0, .int cn])), (b, .inl (E.2.2.2.1, mm, .inl f))]) := by
  refine PM.of (own := RJ5) rfl (by decide) (Nat.le_of_ble_eq_true rfl) ?_
  intro p e s m below meth c A ls hx hb hr hml hown hg hlocks hin hK hE hO hA hP hD hS hl
  have hl : lv_has ls 6 [(0, .ref a), (1, .int (nI q))] := hl
  have e2 : nI mm + ((2 : Int32) <<< ((0 : Int32) &&& 31)) = nI (mm + 2) := by rw [sb_shl0]; exact nI_add mm 2
  have hc : (mm + if q - mm < mm + 2 then mm + 2 else q - mm) = sb_cap q mm := by unfold sb_cap; rw [if_neg (show ¬ q ≤ mm by omega)]; split <;> split <;> omega
  have hcl : sb_cap q mm < 2 ^ 30 := by rw [← hc]; split <;> omega
  refine lv_aload_n hx hb dJ5_newCapacity_0f7a4_0 rfl (lv_at hl 0 rfl) ?_
  refine va_get (D := E.1) (ci := 10) (C := RJ4) (T := TJ4) (N := 4) hx hb hg inG_J4 hown hK.1 hP 0 rfl rfl 0 (by decide) (hg _ mf_J5_15) (fun _ h => h) rfl dJ5_newCapacity_0f7a4_1 ?_
  refine va_alen (v := nI mm) hx hb hK.1 hP 1 2 rfl rfl rfl dJ5_newCapacity_0f7a4_4 ?_
  refine lv_istore_n (lv' := [(2, .int (nI mm)), (0, .ref a), (1, .int (nI q))]) hx hb dJ5_newCapacity_0f7a4_5 rfl hl (by decide) rfl (fun ls hl => ?_)
  refine lv_iload_n hx hb dJ5_newCapacity_0f7a4_6 rfl (lv_at hl 2 rfl) ?_
  refine lv_aload_n hx hb dJ5_newCapacity_0f7a4_7 rfl (lv_at hl 1 rfl) ?_
  refine va_get (D := E.1) (ci := 10) (C := RJ4) (T := TJ4) (N := 4) hx hb hg inG_J4 hown hK.1 hP 0 rfl rfl 1 (by decide) (hg _ mf_J5_22) (fun _ h => h) rfl dJ5_newCapacity_0f7a4_8 ?_
  refine lv_ishl hx hb dJ5_newCapacity_0f7a4_11 ?_
  rw [sb_shl0]
  refine lv_istore_n (lv' := [(3, .int (nI q)), (2, .int (nI mm)), (0, .ref a), (1, .int (nI q))]) hx hb dJ5_newCapacity_0f7a4_12 rfl hl (by decide) rfl (fun ls hl => ?_)
  refine lv_iload_n hx hb dJ5_newCapacity_0f7a4_13 rfl (lv_at hl 0 rfl) ?_
  refine lv_iload_n hx hb dJ5_newCapacity_0f7a4_14 rfl (lv_at hl 1 rfl) ?_
  refine lv_isub hx hb dJ5_newCapacity_0f7a4_15 ?_
  rw [show nI q - nI mm = nI (q - mm) from pk_sub (by omega)]
  refine lv_istore (lv' := [(4, .int (nI (q - mm))), (3, .int (nI q)), (2, .int (nI mm)), (0, .ref a), (1, .int (nI q))]) hx hb dJ5_newCapacity_0f7a4_16 hl (by decide) rfl (fun ls hl => ?_)
  refine lv_iload_n hx hb dJ5_newCapacity_0f7a4_18 rfl (lv_at hl 2 rfl) ?_
  refine lv_iload hx hb dJ5_newCapacity_0f7a4_19 (lv_at hl 0 rfl) ?_
  refine lv_iload_n hx hb dJ5_newCapacity_0f7a4_21 rfl (lv_at hl 2 rfl) ?_
  refine lv_iconst (v := 2) hx hb dJ5_newCapacity_0f7a4_22 (by decide) ?_
  refine lv_aload_n hx hb dJ5_newCapacity_0f7a4_23 rfl (lv_at hl 3 rfl) ?_
  refine va_get (D := E.1) (ci := 10) (C := RJ4) (T := TJ4) (N := 4) hx hb hg inG_J4 hown hK.1 hP 0 rfl rfl 1 (by decide) (hg _ mf_J5_22) (fun _ h => h) rfl dJ5_newCapacity_0f7a4_24 ?_
  refine lv_ishl hx hb dJ5_newCapacity_0f7a4_27 ?_
  refine lv_iadd hx hb dJ5_newCapacity_0f7a4_28 ?_
  rw [e2]
  refine pm_S (As := [.int (nI mm), .int (nI (q - mm)), .int (nI (mm + 2))]) (rest := []) (wr := [(a, .inr (10, [.ref b, .int 0, .int 0, .int cn])), (b, .inl (E.2.2.2.1, mm, .inl f))]) (bs := []) hx hb hml hown hg (j_nlen E l mm (q - mm) hm (by omega)) cs_J8_newLength_cabcc ml_J5_114 ⟨⟨rfl, rfl⟩, Nat.le_of_ble_eq_true rfl, Nat.le_of_ble_eq_true rfl⟩ hK hE hO hP hD hS hA rfl hl.1 rfl (Nat.le_of_ble_eq_true rfl) dJ5_newCapacity_0f7a4_29 ⟨(Nat.le_of_ble_eq_true rfl), (Nat.le_of_ble_eq_true rfl)⟩ (fun v9 bs9 H locs hp hP hD hS => ?_)
  obtain ⟨rfl, rfl⟩ := hp
  have hP : va_P E.1 vwCl [(a, .inr (10, [.ref b, .int 0, .int 0, .int cn])), (b, .inl (E.2.2.2.1, mm, .inl f))] _ := hP
  have hD : va_D A [(a, .inr (10, [.ref b, .int 0, .int 0, .int cn])), (b, .inl (E.2.2.2.1, mm, .inl f))] := hD
  rw [hc]
  refine lv_istore (lv' := [(5, .int (nI (sb_cap q mm))), (4, .int (nI (q - mm))), (3, .int (nI q)), (2, .int (nI mm)), (0, .ref a), (1, .int (nI q))]) hx hb dJ5_newCapacity_0f7a4_32 hl (by decide) rfl (fun ls hl => ?_)
  refine lv_iload hx hb dJ5_newCapacity_0f7a4_34 (lv_at hl 0 rfl) ?_
  refine lv_ldc (v := 2147483647) hx hb hown (hg _ kc_J5_39) dJ5_newCapacity_0f7a4_36 ?_
  refine lv_icmp_ne (tgt := 51) hx hb dJ5_newCapacity_0f7a4_38 (by decide) (fun cq => ?_) (fun cq => absurd cq (fun z => absurd ((nI_eq (by omega) (by decide)).mp (show nI (sb_cap q mm) = nI 2147483647 from z)) (by omega)))
  refine lv_iload hx hb dJ5_newCapacity_0f7a4_51 (lv_at hl 0 rfl) ?_
  refine lv_aload_n hx hb dJ5_newCapacity_0f7a4_53 rfl (lv_at hl 4 rfl) ?_
  refine va_get (D := E.1) (ci := 10) (C := RJ4) (T := TJ4) (N := 4) hx hb hg inG_J4 hown hK.1 hP 0 rfl rfl 1 (by decide) (hg _ mf_J5_22) (fun _ h => h) rfl dJ5_newCapacity_0f7a4_54 ?_
  refine lv_ishr hx hb dJ5_newCapacity_0f7a4_57 ?_
  rw [sb_shr0]
  exact pm_yret hx hb hr rfl hlocks ⟨rfl, rfl⟩ hP hD hS dJ5_newCapacity_0f7a4_58 (Nat.le_of_ble_eq_true rfl) (Nat.le_of_ble_eq_true rfl)
set_option maxHeartbeats 4000000 in
set_option maxRecDepth 100000 in
theorem j_cpOf (E : Ev) (l : Launch) (b n q : Nat) (f : Nat → Int32) (hf : sb_Fit f) (hn : n < q) (hq : q ≤ 1300) : PM E l yJ7_copyOf_9075b (.code yJ7_copyOf_9075b cJ7_copyOf_9075b 3 (some (.array .byte)) :: GA) { frames := 1, cells := 1, slots := 1300, locals := 70 } [.ref b, .int (nI q)] [(b, .inl (E.2.2.2.1, n, .inl f))] 1 1300 (fun v bs => ∃ (b2 : Nat) (f2 : Nat → Int32), v = some (.ref b2) ∧ sb_Fit f2 ∧ (∀ j, j < n → f2 j = f j) ∧ bs = [(b, .inl (E.2.2.2.1, n, .inl f)), (b2, .inl (E.2.2.2.1, q, .inl f2))]) := by
  refine PM.of (own := RJ7) rfl (by decide) (Nat.le_of_ble_eq_true rfl) ?_
  intro p e s m below meth c A ls hx hb hr hml hown hg hlocks hin hK hE hO hA hP hD hS hl
  have hl : lv_has ls 3 [(0, .ref b), (1, .int (nI q))] := hl
  refine lv_iload_n hx hb dJ7_copyOf_9075b_0 rfl (lv_at hl 1 rfl) ?_
  refine lv_aload_n hx hb dJ7_copyOf_9075b_1 rfl (lv_at hl 0 rfl) ?_
  refine va_alen (v := nI n) hx hb hK.1 hP 0 2 rfl rfl rfl dJ7_copyOf_9075b_2 ?_
  refine lv_icmp_ne (tgt := 14) hx hb dJ7_copyOf_9075b_3 (by decide) (fun cq => ?_) (fun cq => absurd cq (fun z => absurd ((nI_eq (by omega) (by omega)).mp z) (by omega)))
  refine lv_iload_n hx hb dJ7_copyOf_9075b_14 rfl (lv_at hl 1 rfl) ?_
  refine nw_b (N := q) hx hb hg hK hP hD hS hA (nI_pos (by omega)) (nI_clamp (by omega)) (by omega) (by show _ ≤ 1; omega) (by show _ ≤ 1300; omega) dJ7_copyOf_9075b_15 (fun b2 H hP hD hS => ?_)
  have hP : va_P E.1 vwCl [(b, .inl (E.2.2.2.1, n, .inl f)), (b2, .inl (E.2.2.2.1, q, .inl (fun _ => 0)))] _ := hP
  have hD : va_D A [(b, .inl (E.2.2.2.1, n, .inl f)), (b2, .inl (E.2.2.2.1, q, .inl (fun _ => 0)))] := hD
  refine lv_astore_n (lv' := [(2, .ref b2), (0, .ref b), (1, .int (nI q))]) hx hb dJ7_copyOf_9075b_17 rfl hl (by decide) rfl (fun ls hl => ?_)
  refine lv_aload_n hx hb dJ7_copyOf_9075b_18 rfl (lv_at hl 1 rfl) ?_
  refine lv_iconst (v := 0) hx hb dJ7_copyOf_9075b_19 (by decide) ?_
  refine lv_aload_n hx hb dJ7_copyOf_9075b_20 rfl (lv_at hl 0 rfl) ?_
  refine lv_iconst (v := 0) hx hb dJ7_copyOf_9075b_21 (by decide) ?_
  refine lv_aload_n hx hb dJ7_copyOf_9075b_22 rfl (lv_at hl 1 rfl) ?_
  refine va_alen (v := nI n) hx hb hK.1 hP 0 2 rfl rfl rfl dJ7_copyOf_9075b_23 ?_
  refine lv_iload_n hx hb dJ7_copyOf_9075b_24 rfl (lv_at hl 2 rfl) ?_
  refine cm_min hx hb hml hl.1 hown hg ml_J7_304 (Nat.le_of_ble_eq_true rfl) (Nat.le_of_ble_eq_true rfl) ⟨(by show _ ≤ 1; omega), (by show _ ≤ 1300; omega)⟩ dJ7_copyOf_9075b_25 ?_
  rw [if_neg (nI_nlt (by omega) (by omega) : ¬ nI q < nI n)]
  refine ab_cp (w2 := [(b, .inl (E.2.2.2.1, n, .inl f)), (b2, .inl (E.2.2.2.1, q, .inl (va_cpy f (fun _ => 0) (Int32.toNatClampNeg 0) (Int32.toNatClampNeg 0) (Int32.toNatClampNeg (nI n)))))]) hx hb hml hl.1 hown hg ml_J7_150 hK hP hD hS 0 1 rfl rfl (by decide) (by decide) (nI_pos (by omega)) (by rw [sb_cl0, nI_clamp (by omega)]; omega) (by rw [sb_cl0, nI_clamp (by omega)]; omega) hf (Nat.le_of_ble_eq_true rfl) (Nat.le_of_ble_eq_true rfl) rfl dJ7_copyOf_9075b_28 (fun H locs hP hD hS => ?_)
  refine lv_aload_n hx hb dJ7_copyOf_9075b_31 rfl (lv_at hl 0 rfl) ?_
  exact pm_aret hx hb hr (Or.inr ⟨_, rfl⟩) hlocks ⟨b2, _, rfl, sb_fitC hf sb_fit0, fun j hj => by rw [sb_cl0, nI_clamp (by omega)]; exact sb_cpy0 hj, rfl⟩ hP hD hS dJ7_copyOf_9075b_32 (by omega) (by omega)
set_option maxHeartbeats 4000000 in
set_option maxRecDepth 100000 in
theorem j_ens (E : Ev) (l : Launch) (a b mm q : Nat) (f : Nat → Int32) (cn : Int32) (hf : sb_Fit f) (hm : mm ≤ 602) (hq : q ≤ 300) : PM E l yJ5_ensureCapacityInternal_d00df (.code yJ5_ensureCapacityInternal_d00df cJ5_ensureCapacityInternal_d00df 3 none :: GA) { frames := 3, cells := 1, slots := 1300, locals := 92 } [.ref a, .int (nI q)] [(a, .inr (10, [.ref b, .int 0, .int 0, .int cn])), (b, .inl (E.2.2.2.1, mm, .inl f))] 1 1300 (fun v bs => ∃ (b2 : Nat) (f2 : Nat → Int32), v = none ∧ sb_Fit f2 ∧ (∀ j, j < mm → f2 j = f j) ∧ bs = [(a, .inr (10, [.ref b2, .int 0, .int 0, .int cn])), (b2, .inl (E.2.2.2.1, (sb_cap q mm), .inl f2))]) := by
  refine PM.of (own := RJ5) rfl (by decide) (Nat.le_of_ble_eq_true rfl) ?_
  intro p e s m below meth c A ls hx hb hr hml hown hg hlocks hin hK hE hO hA hP hD hS hl
  have hl : lv_has ls 3 [(0, .ref a), (1, .int (nI q))] := hl
  have e1 : (nI q - nI mm).toInt = (q : Int) - mm := pk_sub_toInt (by omega) (by omega)
  refine lv_aload_n hx hb dJ5_ensureCapacityInternal_d00df_0 rfl (lv_at hl 0 rfl) ?_
  refine va_get (D := E.1) (ci := 10) (C := RJ4) (T := TJ4) (N := 4) hx hb hg inG_J4 hown hK.1 hP 0 rfl rfl 0 (by decide) (hg _ mf_J5_15) (fun _ h => h) rfl dJ5_ensureCapacityInternal_d00df_1 ?_
  refine va_alen (v := nI mm) hx hb hK.1 hP 1 2 rfl rfl rfl dJ5_ensureCapacityInternal_d00df_4 ?_
  refine lv_aload_n hx hb dJ5_ensureCapacityInternal_d00df_5 rfl (lv_at hl 0 rfl) ?_
  refine va_get (D := E.1) (ci := 10) (C := RJ4) (T := TJ4) (N := 4) hx hb hg inG_J4 hown hK.1 hP 0 rfl rfl 1 (by decide) (hg _ mf_J5_22) (fun _ h => h) rfl dJ5_ensureCapacityInternal_d00df_6 ?_
  refine lv_ishr hx hb dJ5_ensureCapacityInternal_d00df_9 ?_
  rw [sb_shr0]
  refine lv_istore_n (lv' := [(2, .int (nI mm)), (0, .ref a), (1, .int (nI q))]) hx hb dJ5_ensureCapacityInternal_d00df_10 rfl hl (by decide) rfl (fun ls hl => ?_)
  refine lv_iload_n hx hb dJ5_ensureCapacityInternal_d00df_11 rfl (lv_at hl 2 rfl) ?_
  refine lv_iload_n hx hb dJ5_ensureCapacityInternal_d00df_12 rfl (lv_at hl 0 rfl) ?_
  refine lv_isub hx hb dJ5_ensureCapacityInternal_d00df_13 ?_
  by_cases h : q ≤ mm
  · refine lv_if_le (tgt := 38) hx hb dJ5_ensureCapacityInternal_d00df_14 (by decide) (fun cq => ?_) (fun cq => absurd (by rw [Int32.le_iff_toInt_le, e1, Int32.toInt_zero]; omega) cq)
    have ecap : sb_cap q mm = mm := if_pos h
    exact pm_vret hx hb hr hlocks ⟨b, f, rfl, hf, fun _ _ => rfl, by rw [ecap]⟩ hP hD hS dJ5_ensureCapacityInternal_d00df_38 (Nat.le_of_ble_eq_true rfl) (Nat.le_of_ble_eq_true rfl)
  · refine lv_if_le (tgt := 38) hx hb dJ5_ensureCapacityInternal_d00df_14 (by decide) (fun cq => absurd cq (by rw [Int32.le_iff_toInt_le, e1, Int32.toInt_zero]; omega)) (fun cq => ?_)
    refine lv_aload_n hx hb dJ5_ensureCapacityInternal_d00df_17 rfl (lv_at hl 1 rfl) ?_
    refine lv_aload_n hx hb dJ5_ensureCapacityInternal_d00df_18 rfl (lv_at hl 1 rfl) ?_
    refine va_get (D := E.1) (ci := 10) (C := RJ4) (T := TJ4) (N := 4) hx hb hg inG_J4 hown hK.1 hP 0 rfl rfl 0 (by decide) (hg _ mf_J5_15) (fun _ h => h) rfl dJ5_ensureCapacityInternal_d00df_19 ?_
    refine lv_aload_n hx hb dJ5_ensureCapacityInternal_d00df_22 rfl (lv_at hl 1 rfl) ?_
    refine lv_iload_n hx hb dJ5_ensureCapacityInternal_d00df_23 rfl (lv_at hl 2 rfl) ?_
    refine pm_V (As := [.int (nI q)]) (rest := [.ref b, .ref a]) (wr := []) (bs := [(a, .inr (10, [.ref b, .int 0, .int 0, .int cn])), (b, .inl (E.2.2.2.1, mm, .inl f))]) hx hb hml hown hg (j_ncap E l a b mm q f cn (by omega) (by omega) (by omega)) cv_J5_newCapacity_0f7a4 ml_J5_104 ⟨⟨rfl, rfl⟩, Nat.le_of_ble_eq_true rfl, Nat.le_of_ble_eq_true rfl⟩ hK hE hO hP hD hS hA 0 rfl rfl rfl hl.1 rfl (Nat.le_of_ble_eq_true rfl) dJ5_ensureCapacityInternal_d00df_24 ⟨(Nat.le_of_ble_eq_true rfl), (Nat.le_of_ble_eq_true rfl)⟩ (fun v9 bs9 H locs hp hP hD hS => ?_)
    obtain ⟨rfl, rfl⟩ := hp
    have hP : va_P E.1 vwCl [(a, .inr (10, [.ref b, .int 0, .int 0, .int cn])), (b, .inl (E.2.2.2.1, mm, .inl f))] _ := hP
    have hD : va_D A [(a, .inr (10, [.ref b, .int 0, .int 0, .int cn])), (b, .inl (E.2.2.2.1, mm, .inl f))] := hD
    refine lv_aload_n hx hb dJ5_ensureCapacityInternal_d00df_27 rfl (lv_at hl 1 rfl) ?_
    refine va_get (D := E.1) (ci := 10) (C := RJ4) (T := TJ4) (N := 4) hx hb hg inG_J4 hown hK.1 hP 0 rfl rfl 1 (by decide) (hg _ mf_J5_22) (fun _ h => h) rfl dJ5_ensureCapacityInternal_d00df_28 ?_
    refine lv_ishl hx hb dJ5_ensureCapacityInternal_d00df_31 ?_
    rw [sb_shl0]
    have hcap : mm < sb_cap q mm ∧ sb_cap q mm ≤ 1300 := by unfold sb_cap; rw [if_neg h]; split <;> omega
    refine pm_S (As := [.ref b, .int (nI (sb_cap q mm))]) (rest := [.ref a]) (wr := [(a, .inr (10, [.ref b, .int 0, .int 0, .int cn]))]) (bs := [(b, .inl (E.2.2.2.1, mm, .inl f))]) hx hb hml hown hg (j_cpOf E l b mm (sb_cap q mm) f hf hcap.1 hcap.2) cs_J7_copyOf_9075b ml_J5_108 ⟨⟨rfl, rfl⟩, Nat.le_of_ble_eq_true rfl, Nat.le_of_ble_eq_true rfl⟩ hK hE hO hP hD hS hA rfl hl.1 rfl (Nat.le_of_ble_eq_true rfl) dJ5_ensureCapacityInternal_d00df_32 ⟨(by show _ ≤ 1; omega), (by show _ ≤ 1300; omega)⟩ (fun v9 bs9 H locs hp hP hD hS => ?_)
    obtain ⟨b2, f2, rfl, hf2, hk2, rfl⟩ := hp
    have hP : va_P E.1 vwCl [(a, .inr (10, [.ref b, .int 0, .int 0, .int cn])), (b, .inl (E.2.2.2.1, mm, .inl f)), (b2, .inl (E.2.2.2.1, (sb_cap q mm), .inl f2))] _ := hP
    have hD : va_D A [(a, .inr (10, [.ref b, .int 0, .int 0, .int cn])), (b, .inl (E.2.2.2.1, mm, .inl f)), (b2, .inl (E.2.2.2.1, (sb_cap q mm), .inl f2))] := hD
    refine va_put (D := E.1) (ci := 10) (v := .ref b2) (ty := .array .byte) (C := RJ4) (T := TJ4) (N := 4) hx hb hg inG_J4 tyJ4 tyJ4_ok nmJ4 hown hK.1 hP hD hS 0 rfl rfl 0 (by decide) (hg _ mf_J5_15) (fun _ h => h) rfl (by decide +kernel) rfl rfl (Nat.le_of_ble_eq_true rfl) dJ5_ensureCapacityInternal_d00df_35 (fun H locs hP hD hS => ?_)
    have hP : va_P E.1 vwCl [(a, .inr (10, [.ref b2, .int 0, .int 0, .int cn])), (b, .inl (E.2.2.2.1, mm, .inl f)), (b2, .inl (E.2.2.2.1, (sb_cap q mm), .inl f2))] _ := hP
    have hD : va_D A [(a, .inr (10, [.ref b2, .int 0, .int 0, .int cn])), (b, .inl (E.2.2.2.1, mm, .inl f)), (b2, .inl (E.2.2.2.1, (sb_cap q mm), .inl f2))] := hD
    have hP : va_P E.1 vwCl [(a, .inr (10, [.ref b2, .int 0, .int 0, .int cn])), (b2, .inl (E.2.2.2.1, (sb_cap q mm), .inl f2))] _ := hP.sub [0, 2] rfl
    have hD : va_D A [(a, .inr (10, [.ref b2, .int 0, .int 0, .int cn])), (b2, .inl (E.2.2.2.1, (sb_cap q mm), .inl f2))] := hD.sub [0, 2] rfl rfl
    exact pm_vret hx hb hr hlocks ⟨b2, f2, rfl, hf2, hk2, rfl⟩ hP hD hS dJ5_ensureCapacityInternal_d00df_38 (by omega) (by omega)
set_option maxHeartbeats 4000000 in
set_option maxRecDepth 100000 in
theorem j_gbC (E : Ev) (l : Launch) (i d mm pp : Nat) (g : Nat → Int32) (hi : i < 16) (hm : mm ≤ 65536) (hp : pp + lenS.getD i 0 ≤ mm) : PM E l yJ0_getBytes_840e7 (.code yJ0_getBytes_840e7 cJ0_getBytes_840e7 4 none :: GA) { frames := 1, cells := 0, slots := 0, locals := 70 } [.ref (E.2.2.2.2.2.1 i), .ref d, .int (nI pp), .int 0] [(d, .inl (E.2.2.2.1, mm, .inl g))] 0 0 (fun v bs => v = none ∧ bs = [(d, .inl (E.2.2.2.1, mm, .inl (va_cpy (fun j => (bytS.getD i []).getD j 0) g 0 pp (lenS.getD i 0))))]) := by
  refine PM.of (own := RJ0) rfl (by decide) (Nat.le_of_ble_eq_true rfl) ?_
  intro p e s m below meth c A ls hx hb hr hml hown hg hlocks hin hK hE hO hA hP hD hS hl
  have hl : lv_has ls 4 [(0, .ref (E.2.2.2.2.2.1 i)), (1, .ref d), (2, .int (nI pp)), (3, .int 0)] := hl
  refine lv_aload_n hx hb dJ0_getBytes_840e7_0 rfl (lv_at hl 0 rfl) ?_
  refine cm_Vs (As := []) (rest := []) (i := i) hx hb hml hown hg (c_coder E l i hi) cy_J0_coder_7d493 ml_J0_335 hi ⟨⟨rfl, rfl⟩, Nat.le_of_ble_eq_true rfl, Nat.le_of_ble_eq_true rfl⟩ hK hE hP hD hS hA rfl hl.1 rfl (Nat.le_of_ble_eq_true rfl) dJ0_getBytes_840e7_1 ⟨(Nat.le_of_ble_eq_true rfl), (Nat.le_of_ble_eq_true rfl)⟩ [.int 0] rfl (fun H locs hP hD hS => ?_)
  refine lv_iload_n hx hb dJ0_getBytes_840e7_4 rfl (lv_at hl 3 rfl) ?_
  refine lv_icmp_ne (tgt := 28) hx hb dJ0_getBytes_840e7_5 (by decide) (fun cq => absurd (rfl) cq) (fun cq => ?_)
  refine lv_aload_n hx hb dJ0_getBytes_840e7_8 rfl (lv_at hl 0 rfl) ?_
  refine vk_getf hx hb (hE.1.1 i hi).2.2.1 hS hown (hg _ mf_J0_9) (fun _ h => h) dJ0_getBytes_840e7_9 ?_
  refine lv_iconst (v := 0) hx hb dJ0_getBytes_840e7_12 (by decide) ?_
  refine lv_aload_n hx hb dJ0_getBytes_840e7_13 rfl (lv_at hl 1 rfl) ?_
  refine lv_iload_n hx hb dJ0_getBytes_840e7_14 rfl (lv_at hl 2 rfl) ?_
  refine lv_iload_n hx hb dJ0_getBytes_840e7_15 rfl (lv_at hl 3 rfl) ?_
  refine lv_ishl hx hb dJ0_getBytes_840e7_16 ?_
  rw [sb_shl0]
  refine lv_aload_n hx hb dJ0_getBytes_840e7_17 rfl (lv_at hl 0 rfl) ?_
  refine vk_getf hx hb (hE.1.1 i hi).2.2.1 hS hown (hg _ mf_J0_9) (fun _ h => h) dJ0_getBytes_840e7_18 ?_
  refine va_tlen (v := nI (lenS.getD i 0)) hx hb (hE.1.1 i hi).2.2.2 hS rfl dJ0_getBytes_840e7_21 ?_
  have hl9 := (lenS_ok i hi).1
  refine vk_copyt (f := fun j => (bytS.getD i []).getD j 0) hx hb (hml.trans hl.1.symm) hown (hg _ ml_J0_212) (hg _ nt_acp) (hg _ st_acp) (hg _ ini_Sys) hK.1 hP hD hS (hE.1.1 i hi).2.2.2 0 2 rfl rfl (by decide) (nI_pos (by omega)) (nI_pos (by omega)) (by rw [sb_cl0, nI_clamp (by omega)]; omega) (by rw [nI_clamp (by omega), nI_clamp (by omega)]; omega) (fun k hk => bytS_fit i hi _) (Nat.le_of_ble_eq_true rfl) (Nat.le_of_ble_eq_true rfl) dJ0_getBytes_840e7_22 (fun H locs hP hD hS => ?_)
  rw [sb_cl0, nI_clamp (by omega), nI_clamp (by omega)] at hP hD
  have hP : va_P E.1 vwCl [(d, .inl (E.2.2.2.1, mm, .inl (va_cpy (fun j => (bytS.getD i []).getD j 0) g 0 pp (lenS.getD i 0))))] _ := hP
  have hD : va_D A [(d, .inl (E.2.2.2.1, mm, .inl (va_cpy (fun j => (bytS.getD i []).getD j 0) g 0 pp (lenS.getD i 0))))] := hD
  refine lv_goto (tgt := 43) hx hb dJ0_getBytes_840e7_25 (by decide) ?_
  exact pm_vret hx hb hr hlocks ⟨rfl, rfl⟩ hP hD hS dJ0_getBytes_840e7_43 (Nat.le_of_ble_eq_true rfl) (Nat.le_of_ble_eq_true rfl)
set_option maxHeartbeats 4000000 in
set_option maxRecDepth 100000 in
theorem j_gbD (E : Ev) (l : Launch) (a b n d mm pp : Nat) (f g : Nat → Int32) (hf : sb_Fit f) (hm : mm ≤ 65536) (hp : pp + n ≤ mm) : PM E l yJ0_getBytes_840e7 (.code yJ0_getBytes_840e7 cJ0_getBytes_840e7 4 none :: GA) { frames := 1, cells := 0, slots := 0, locals := 70 } [.ref a, .ref d, .int (nI pp), .int 0] [(a, .inr (9, [.ref b, .int 0, .int 0, .int 0])), (b, .inl (E.2.2.2.1, n, .inl f)), (d, .inl (E.2.2.2.1, mm, .inl g))] 0 0 (fun v bs => v = none ∧ bs = [(a, .inr (9, [.ref b, .int 0, .int 0, .int 0])), (b, .inl (E.2.2.2.1, n, .inl f)), (d, .inl (E.2.2.2.1, mm, .inl (va_cpy f g 0 pp n)))]) := by
  refine PM.of (own := RJ0) rfl (by decide) (Nat.le_of_ble_eq_true rfl) ?_
  intro p e s m below meth c A ls hx hb hr hml hown hg hlocks hin hK hE hO hA hP hD hS hl
  have hl : lv_has ls 4 [(0, .ref a), (1, .ref d), (2, .int (nI pp)), (3, .int 0)] := hl
  refine lv_aload_n hx hb dJ0_getBytes_840e7_0 rfl (lv_at hl 0 rfl) ?_
  have hP : va_P E.1 vwCl ([(b, .inl (E.2.2.2.1, n, .inl f)), (d, .inl (E.2.2.2.1, mm, .inl g))] ++ [(a, .inr (9, [.ref b, .int 0, .int 0, .int 0]))]) _ := hP.sub [1, 2, 0] rfl
  have hD : va_D A ([(b, .inl (E.2.2.2.1, n, .inl f)), (d, .inl (E.2.2.2.1, mm, .inl g))] ++ [(a, .inr (9, [.ref b, .int 0, .int 0, .int 0]))]) := hD.sub [1, 2, 0] rfl rfl
  refine pm_V (As := []) (rest := []) (wr := [(b, .inl (E.2.2.2.1, n, .inl f)), (d, .inl (E.2.2.2.1, mm, .inl g))]) (bs := [(a, .inr (9, [.ref b, .int 0, .int 0, .int 0]))]) hx hb hml hown hg (j_codD E l a b) cv_J0_coder_7d493 ml_J0_335 ⟨⟨rfl, rfl⟩, Nat.le_of_ble_eq_true rfl, Nat.le_of_ble_eq_true rfl⟩ hK hE hO hP hD hS hA 2 rfl rfl rfl hl.1 rfl (Nat.le_of_ble_eq_true rfl) dJ0_getBytes_840e7_1 ⟨(Nat.le_of_ble_eq_true rfl), (Nat.le_of_ble_eq_true rfl)⟩ (fun v9 bs9 H locs hp hP hD hS => ?_)
  obtain ⟨rfl, rfl⟩ := hp
  have hP : va_P E.1 vwCl [(b, .inl (E.2.2.2.1, n, .inl f)), (d, .inl (E.2.2.2.1, mm, .inl g)), (a, .inr (9, [.ref b, .int 0, .int 0, .int 0]))] _ := hP
  have hD : va_D A [(b, .inl (E.2.2.2.1, n, .inl f)), (d, .inl (E.2.2.2.1, mm, .inl g)), (a, .inr (9, [.ref b, .int 0, .int 0, .int 0]))] := hD
  refine lv_iload_n hx hb dJ0_getBytes_840e7_4 rfl (lv_at hl 3 rfl) ?_
  refine lv_icmp_ne (tgt := 28) hx hb dJ0_getBytes_840e7_5 (by decide) (fun cq => absurd (rfl) cq) (fun cq => ?_)
  refine lv_aload_n hx hb dJ0_getBytes_840e7_8 rfl (lv_at hl 0 rfl) ?_
  refine va_get (D := E.1) (ci := 9) (C := RJ0) (T := TJ0) (N := 4) hx hb hg inG_J0 hown hK.1 hP 2 rfl rfl 0 (by decide) (hg _ mf_J0_9) (fun _ h => h) rfl dJ0_getBytes_840e7_9 ?_
  refine lv_iconst (v := 0) hx hb dJ0_getBytes_840e7_12 (by decide) ?_
  refine lv_aload_n hx hb dJ0_getBytes_840e7_13 rfl (lv_at hl 1 rfl) ?_
  refine lv_iload_n hx hb dJ0_getBytes_840e7_14 rfl (lv_at hl 2 rfl) ?_
  refine lv_iload_n hx hb dJ0_getBytes_840e7_15 rfl (lv_at hl 3 rfl) ?_
  refine lv_ishl hx hb dJ0_getBytes_840e7_16 ?_
  rw [sb_shl0]
  refine lv_aload_n hx hb dJ0_getBytes_840e7_17 rfl (lv_at hl 0 rfl) ?_
  refine va_get (D := E.1) (ci := 9) (C := RJ0) (T := TJ0) (N := 4) hx hb hg inG_J0 hown hK.1 hP 2 rfl rfl 0 (by decide) (hg _ mf_J0_9) (fun _ h => h) rfl dJ0_getBytes_840e7_18 ?_
  refine va_alen (v := nI n) hx hb hK.1 hP 0 2 rfl rfl rfl dJ0_getBytes_840e7_21 ?_
  refine ab_cp (w2 := [(b, .inl (E.2.2.2.1, n, .inl f)), (d, .inl (E.2.2.2.1, mm, .inl (va_cpy f g (Int32.toNatClampNeg 0) (Int32.toNatClampNeg (nI pp)) (Int32.toNatClampNeg (nI n))))), (a, .inr (9, [.ref b, .int 0, .int 0, .int 0]))]) hx hb hml hl.1 hown hg ml_J0_212 hK hP hD hS 0 1 rfl rfl (by decide) (nI_pos (by omega)) (nI_pos (by omega)) (by rw [sb_cl0, nI_clamp (by omega)]; omega) (by rw [nI_clamp (by omega), nI_clamp (by omega)]; omega) hf (Nat.le_of_ble_eq_true rfl) (Nat.le_of_ble_eq_true rfl) rfl dJ0_getBytes_840e7_22 (fun H locs hP hD hS => ?_)
  rw [sb_cl0, nI_clamp (by omega), nI_clamp (by omega)] at hP hD
  have hP : va_P E.1 vwCl [(b, .inl (E.2.2.2.1, n, .inl f)), (d, .inl (E.2.2.2.1, mm, .inl (va_cpy f g 0 pp n))), (a, .inr (9, [.ref b, .int 0, .int 0, .int 0]))] _ := hP
  have hD : va_D A [(b, .inl (E.2.2.2.1, n, .inl f)), (d, .inl (E.2.2.2.1, mm, .inl (va_cpy f g 0 pp n))), (a, .inr (9, [.ref b, .int 0, .int 0, .int 0]))] := hD
  refine lv_goto (tgt := 43) hx hb dJ0_getBytes_840e7_25 (by decide) ?_
  have hP : va_P E.1 vwCl [(a, .inr (9, [.ref b, .int 0, .int 0, .int 0])), (b, .inl (E.2.2.2.1, n, .inl f)), (d, .inl (E.2.2.2.1, mm, .inl (va_cpy f g 0 pp n)))] _ := hP.sub [2, 0, 1] rfl
  have hD : va_D A [(a, .inr (9, [.ref b, .int 0, .int 0, .int 0])), (b, .inl (E.2.2.2.1, n, .inl f)), (d, .inl (E.2.2.2.1, mm, .inl (va_cpy f g 0 pp n)))] := hD.sub [2, 0, 1] rfl rfl
  exact pm_vret hx hb hr hlocks ⟨rfl, rfl⟩ hP hD hS dJ0_getBytes_840e7_43 (Nat.le_of_ble_eq_true rfl) (Nat.le_of_ble_eq_true rfl)
set_option maxHeartbeats 4000000 in
set_option maxRecDepth 100000 in
theorem j_infC (E : Ev) (l : Launch) (a b i : Nat) (cn : Int32) (hi : i < 16) : PM E l yJ5_inflateIfNeededFor_a7421 (.code yJ5_inflateIfNeededFor_a7421 cJ5_inflateIfNeededFor_a7421 2 none :: GA) { frames := 1, cells := 0, slots := 0, locals := 20 } [.ref a, .ref (E.2.2.2.2.2.1 i)] [(a, .inr (10, [.ref b, .int 0, .int 0, .int cn]))] 0 0 (fun v bs => v = none ∧ bs = [(a, .inr (10, [.ref b, .int 0, .int 0, .int cn]))]) := by
  refine PM.of (own := RJ5) rfl (by decide) (Nat.le_of_ble_eq_true rfl) ?_
  intro p e s m below meth c A ls hx hb hr hml hown hg hlocks hin hK hE hO hA hP hD hS hl
  have hl : lv_has ls 2 [(0, .ref a), (1, .ref (E.2.2.2.2.2.1 i))] := hl
  refine va_gets hx hb hE.2.1 hS hown (hg _ mf_J5_18) (fun _ h => h) dJ5_inflateIfNeededFor_a7421_0 ?_
  refine lv_if_eq (tgt := 21) hx hb dJ5_inflateIfNeededFor_a7421_3 (by decide) (fun cq => absurd cq (by decide)) (fun cq => ?_)
  refine lv_aload_n hx hb dJ5_inflateIfNeededFor_a7421_6 rfl (lv_at hl 0 rfl) ?_
  refine va_get (D := E.1) (ci := 10) (C := RJ4) (T := TJ4) (N := 4) hx hb hg inG_J4 hown hK.1 hP 0 rfl rfl 1 (by decide) (hg _ mf_J5_22) (fun _ h => h) rfl dJ5_inflateIfNeededFor_a7421_7 ?_
  refine lv_aload_n hx hb dJ5_inflateIfNeededFor_a7421_10 rfl (lv_at hl 1 rfl) ?_
  refine cm_Vs (As := []) (rest := [.int 0]) (i := i) hx hb hml hown hg (c_coder E l i hi) cy_J0_coder_7d493 ml_J5_40 hi ⟨⟨rfl, rfl⟩, Nat.le_of_ble_eq_true rfl, Nat.le_of_ble_eq_true rfl⟩ hK hE hP hD hS hA rfl hl.1 rfl (Nat.le_of_ble_eq_true rfl) dJ5_inflateIfNeededFor_a7421_11 ⟨(Nat.le_of_ble_eq_true rfl), (Nat.le_of_ble_eq_true rfl)⟩ [.int 0, .int 0] rfl (fun H locs hP hD hS => ?_)
  refine lv_icmp_eq (tgt := 21) hx hb dJ5_inflateIfNeededFor_a7421_14 (by decide) (fun cq => ?_) (fun cq => absurd (rfl) cq)
  exact pm_vret hx hb hr hlocks ⟨rfl, rfl⟩ hP hD hS dJ5_inflateIfNeededFor_a7421_21 (Nat.le_of_ble_eq_true rfl) (Nat.le_of_ble_eq_true rfl)
set_option maxHeartbeats 4000000 in
set_option maxRecDepth 100000 in
theorem j_infD (E : Ev) (l : Launch) (a b a1 b1 : Nat) (cn : Int32)  : PM E l yJ5_inflateIfNeededFor_a7421 (.code yJ5_inflateIfNeededFor_a7421 cJ5_inflateIfNeededFor_a7421 2 none :: GA) { frames := 1, cells := 0, slots := 0, locals := 20 } [.ref a, .ref a1] [(a, .inr (10, [.ref b, .int 0, .int 0, .int cn])), (a1, .inr (9, [.ref b1, .int 0, .int 0, .int 0]))] 0 0 (fun v bs => v = none ∧ bs = [(a, .inr (10, [.ref b, .int 0, .int 0, .int cn])), (a1, .inr (9, [.ref b1, .int 0, .int 0, .int 0]))]) := by
  refine PM.of (own := RJ5) rfl (by decide) (Nat.le_of_ble_eq_true rfl) ?_
  intro p e s m below meth c A ls hx hb hr hml hown hg hlocks hin hK hE hO hA hP hD hS hl
  have hl : lv_has ls 2 [(0, .ref a), (1, .ref a1)] := hl
  refine va_gets hx hb hE.2.1 hS hown (hg _ mf_J5_18) (fun _ h => h) dJ5_inflateIfNeededFor_a7421_0 ?_
  refine lv_if_eq (tgt := 21) hx hb dJ5_inflateIfNeededFor_a7421_3 (by decide) (fun cq => absurd cq (by decide)) (fun cq => ?_)
  refine lv_aload_n hx hb dJ5_inflateIfNeededFor_a7421_6 rfl (lv_at hl 0 rfl) ?_
  refine va_get (D := E.1) (ci := 10) (C := RJ4) (T := TJ4) (N := 4) hx hb hg inG_J4 hown hK.1 hP 0 rfl rfl 1 (by decide) (hg _ mf_J5_22) (fun _ h => h) rfl dJ5_inflateIfNeededFor_a7421_7 ?_
  refine lv_aload_n hx hb dJ5_inflateIfNeededFor_a7421_10 rfl (lv_at hl 1 rfl) ?_
  refine pm_V (As := []) (rest := [.int 0]) (wr := [(a, .inr (10, [.ref b, .int 0, .int 0, .int cn]))]) (bs := [(a1, .inr (9, [.ref b1, .int 0, .int 0, .int 0]))]) hx hb hml hown hg (j_codD E l a1 b1) cv_J0_coder_7d493 ml_J5_40 ⟨⟨rfl, rfl⟩, Nat.le_of_ble_eq_true rfl, Nat.le_of_ble_eq_true rfl⟩ hK hE hO hP hD hS hA 1 rfl rfl rfl hl.1 rfl (Nat.le_of_ble_eq_true rfl) dJ5_inflateIfNeededFor_a7421_11 ⟨(Nat.le_of_ble_eq_true rfl), (Nat.le_of_ble_eq_true rfl)⟩ (fun v9 bs9 H locs hp hP hD hS => ?_)
  obtain ⟨rfl, rfl⟩ := hp
  have hP : va_P E.1 vwCl [(a, .inr (10, [.ref b, .int 0, .int 0, .int cn])), (a1, .inr (9, [.ref b1, .int 0, .int 0, .int 0]))] _ := hP
  have hD : va_D A [(a, .inr (10, [.ref b, .int 0, .int 0, .int cn])), (a1, .inr (9, [.ref b1, .int 0, .int 0, .int 0]))] := hD
  refine lv_icmp_eq (tgt := 21) hx hb dJ5_inflateIfNeededFor_a7421_14 (by decide) (fun cq => ?_) (fun cq => absurd (rfl) cq)
  have hP : va_P E.1 vwCl [(a, .inr (10, [.ref b, .int 0, .int 0, .int cn])), (a1, .inr (9, [.ref b1, .int 0, .int 0, .int 0]))] _ := hP.sub [0, 1] rfl
  have hD : va_D A [(a, .inr (10, [.ref b, .int 0, .int 0, .int cn])), (a1, .inr (9, [.ref b1, .int 0, .int 0, .int 0]))] := hD.sub [0, 1] rfl rfl
  exact pm_vret hx hb hr hlocks ⟨rfl, rfl⟩ hP hD hS dJ5_inflateIfNeededFor_a7421_21 (Nat.le_of_ble_eq_true rfl) (Nat.le_of_ble_eq_true rfl)
set_option maxHeartbeats 4000000 in
set_option maxRecDepth 100000 in
theorem j_puC (E : Ev) (l : Launch) (a b mm pp i : Nat) (g : Nat → Int32) (cn : Int32) (hi : i < 16) (hm : mm ≤ 65536) (hp : pp + lenS.getD i 0 ≤ mm) : PM E l yJ5_putStringAt_47b60 (.code yJ5_putStringAt_47b60 cJ5_putStringAt_47b60 3 none :: GA) { frames := 2, cells := 0, slots := 0, locals := 93 } [.ref a, .int (nI pp), .ref (E.2.2.2.2.2.1 i)] [(a, .inr (10, [.ref b, .int 0, .int 0, .int cn])), (b, .inl (E.2.2.2.1, mm, .inl g))] 0 0 (fun v bs => v = none ∧ bs = [(a, .inr (10, [.ref b, .int 0, .int 0, .int cn])), (b, .inl (E.2.2.2.1, mm, .inl (va_cpy (fun j => (bytS.getD i []).getD j 0) g 0 pp (lenS.getD i 0))))]) := by
  refine PM.of (own := RJ5) rfl (by decide) (Nat.le_of_ble_eq_true rfl) ?_
  intro p e s m below meth c A ls hx hb hr hml hown hg hlocks hin hK hE hO hA hP hD hS hl
  have hl : lv_has ls 3 [(0, .ref a), (1, .int (nI pp)), (2, .ref (E.2.2.2.2.2.1 i))] := hl
  refine lv_aload_n hx hb dJ5_putStringAt_47b60_0 rfl (lv_at hl 0 rfl) ?_
  refine lv_aload_n hx hb dJ5_putStringAt_47b60_1 rfl (lv_at hl 2 rfl) ?_
  have hP : va_P E.1 vwCl ([(b, .inl (E.2.2.2.1, mm, .inl g))] ++ [(a, .inr (10, [.ref b, .int 0, .int 0, .int cn]))]) _ := hP.sub [1, 0] rfl
  have hD : va_D A ([(b, .inl (E.2.2.2.1, mm, .inl g))] ++ [(a, .inr (10, [.ref b, .int 0, .int 0, .int cn]))]) := hD.sub [1, 0] rfl rfl
  refine pm_V (As := [.ref (E.2.2.2.2.2.1 i)]) (rest := []) (wr := [(b, .inl (E.2.2.2.1, mm, .inl g))]) (bs := [(a, .inr (10, [.ref b, .int 0, .int 0, .int cn]))]) hx hb hml hown hg (j_infC E l a b i cn hi) cv_J5_inflateIfNeededFor_a7421 ml_J5_397 ⟨⟨rfl, rfl⟩, Nat.le_of_ble_eq_true rfl, Nat.le_of_ble_eq_true rfl⟩ hK hE hO hP hD hS hA 1 rfl rfl rfl hl.1 rfl (Nat.le_of_ble_eq_true rfl) dJ5_putStringAt_47b60_2 ⟨(Nat.le_of_ble_eq_true rfl), (Nat.le_of_ble_eq_true rfl)⟩ (fun v9 bs9 H locs hp hP hD hS => ?_)
  obtain ⟨rfl, rfl⟩ := hp
  have hP : va_P E.1 vwCl [(b, .inl (E.2.2.2.1, mm, .inl g)), (a, .inr (10, [.ref b, .int 0, .int 0, .int cn]))] _ := hP
  have hD : va_D A [(b, .inl (E.2.2.2.1, mm, .inl g)), (a, .inr (10, [.ref b, .int 0, .int 0, .int cn]))] := hD
  refine lv_aload_n hx hb dJ5_putStringAt_47b60_5 rfl (lv_at hl 2 rfl) ?_
  refine lv_aload_n hx hb dJ5_putStringAt_47b60_6 rfl (lv_at hl 0 rfl) ?_
  refine va_get (D := E.1) (ci := 10) (C := RJ4) (T := TJ4) (N := 4) hx hb hg inG_J4 hown hK.1 hP 1 rfl rfl 0 (by decide) (hg _ mf_J5_15) (fun _ h => h) rfl dJ5_putStringAt_47b60_7 ?_
  refine lv_iload_n hx hb dJ5_putStringAt_47b60_10 rfl (lv_at hl 1 rfl) ?_
  refine lv_aload_n hx hb dJ5_putStringAt_47b60_11 rfl (lv_at hl 0 rfl) ?_
  refine va_get (D := E.1) (ci := 10) (C := RJ4) (T := TJ4) (N := 4) hx hb hg inG_J4 hown hK.1 hP 1 rfl rfl 1 (by decide) (hg _ mf_J5_22) (fun _ h => h) rfl dJ5_putStringAt_47b60_12 ?_
  have hP : va_P E.1 vwCl ([(a, .inr (10, [.ref b, .int 0, .int 0, .int cn]))] ++ [(b, .inl (E.2.2.2.1, mm, .inl g))]) _ := hP.sub [1, 0] rfl
  have hD : va_D A ([(a, .inr (10, [.ref b, .int 0, .int 0, .int cn]))] ++ [(b, .inl (E.2.2.2.1, mm, .inl g))]) := hD.sub [1, 0] rfl rfl
  refine pm_Vs (As := [.ref b, .int (nI pp), .int 0]) (rest := []) (i := i) (wr := [(a, .inr (10, [.ref b, .int 0, .int 0, .int cn]))]) (bs := [(b, .inl (E.2.2.2.1, mm, .inl g))]) hx hb hml hown hg (j_gbC E l i b mm pp g hi hm hp) cv_J0_getBytes_840e7 ml_J5_399 hi ⟨⟨rfl, rfl⟩, Nat.le_of_ble_eq_true rfl, Nat.le_of_ble_eq_true rfl⟩ hK hE hO hP hD hS hA rfl hl.1 rfl (Nat.le_of_ble_eq_true rfl) dJ5_putStringAt_47b60_15 ⟨(Nat.le_of_ble_eq_true rfl), (Nat.le_of_ble_eq_true rfl)⟩ (fun v9 bs9 H locs hp hP hD hS => ?_)
  obtain ⟨rfl, rfl⟩ := hp
  have hP : va_P E.1 vwCl [(a, .inr (10, [.ref b, .int 0, .int 0, .int cn])), (b, .inl (E.2.2.2.1, mm, .inl (va_cpy (fun j => (bytS.getD i []).getD j 0) g 0 pp (lenS.getD i 0))))] _ := hP
  have hD : va_D A [(a, .inr (10, [.ref b, .int 0, .int 0, .int cn])), (b, .inl (E.2.2.2.1, mm, .inl (va_cpy (fun j => (bytS.getD i []).getD j 0) g 0 pp (lenS.getD i 0))))] := hD
  have hP : va_P E.1 vwCl [(a, .inr (10, [.ref b, .int 0, .int 0, .int cn])), (b, .inl (E.2.2.2.1, mm, .inl (va_cpy (fun j => (bytS.getD i []).getD j 0) g 0 pp (lenS.getD i 0))))] _ := hP.sub [0, 1] rfl
  have hD : va_D A [(a, .inr (10, [.ref b, .int 0, .int 0, .int cn])), (b, .inl (E.2.2.2.1, mm, .inl (va_cpy (fun j => (bytS.getD i []).getD j 0) g 0 pp (lenS.getD i 0))))] := hD.sub [0, 1] rfl rfl
  exact pm_vret hx hb hr hlocks ⟨rfl, rfl⟩ hP hD hS dJ5_putStringAt_47b60_18 (Nat.le_of_ble_eq_true rfl) (Nat.le_of_ble_eq_true rfl)
set_option maxHeartbeats 4000000 in
set_option maxRecDepth 100000 in
theorem j_puD (E : Ev) (l : Launch) (a b mm pp a1 b1 n1 : Nat) (g f1 : Nat → Int32) (cn : Int32) (hf : sb_Fit f1) (hm : mm ≤ 65536) (hp : pp + n1 ≤ mm) : PM E l yJ5_putStringAt_47b60 (.code yJ5_putStringAt_47b60 cJ5_putStringAt_47b60 3 none :: GA) { frames := 2, cells := 0, slots := 0, locals := 93 } [.ref a, .int (nI pp), .ref a1] [(a, .inr (10, [.ref b, .int 0, .int 0, .int cn])), (b, .inl (E.2.2.2.1, mm, .inl g)), (a1, .inr (9, [.ref b1, .int 0, .int 0, .int 0])), (b1, .inl (E.2.2.2.1, n1, .inl f1))] 0 0 (fun v bs => v = none ∧ bs = [(a, .inr (10, [.ref b, .int 0, .int 0, .int cn])), (b, .inl (E.2.2.2.1, mm, .inl (va_cpy f1 g 0 pp n1))), (a1, .inr (9, [.ref b1, .int 0, .int 0, .int 0])), (b1, .inl (E.2.2.2.1, n1, .inl f1))]) := by
  refine PM.of (own := RJ5) rfl (by decide) (Nat.le_of_ble_eq_true rfl) ?_
  intro p e s m below meth c A ls hx hb hr hml hown hg hlocks hin hK hE hO hA hP hD hS hl
  have hl : lv_has ls 3 [(0, .ref a), (1, .int (nI pp)), (2, .ref a1)] := hl
  refine lv_aload_n hx hb dJ5_putStringAt_47b60_0 rfl (lv_at hl 0 rfl) ?_
  refine lv_aload_n hx hb dJ5_putStringAt_47b60_1 rfl (lv_at hl 2 rfl) ?_
  have hP : va_P E.1 vwCl ([(b, .inl (E.2.2.2.1, mm, .inl g)), (b1, .inl (E.2.2.2.1, n1, .inl f1))] ++ [(a, .inr (10, [.ref b, .int 0, .int 0, .int cn])), (a1, .inr (9, [.ref b1, .int 0, .int 0, .int 0]))]) _ := hP.sub [1, 3, 0, 2] rfl
  have hD : va_D A ([(b, .inl (E.2.2.2.1, mm, .inl g)), (b1, .inl (E.2.2.2.1, n1, .inl f1))] ++ [(a, .inr (10, [.ref b, .int 0, .int 0, .int cn])), (a1, .inr (9, [.ref b1, .int 0, .int 0, .int 0]))]) := hD.sub [1, 3, 0, 2] rfl rfl
  refine pm_V (As := [.ref a1]) (rest := []) (wr := [(b, .inl (E.2.2.2.1, mm, .inl g)), (b1, .inl (E.2.2.2.1, n1, .inl f1))]) (bs := [(a, .inr (10, [.ref b, .int 0, .int 0, .int cn])), (a1, .inr (9, [.ref b1, .int 0, .int 0, .int 0]))]) hx hb hml hown hg (j_infD E l a b a1 b1 cn) cv_J5_inflateIfNeededFor_a7421 ml_J5_397 ⟨⟨rfl, rfl⟩, Nat.le_of_ble_eq_true rfl, Nat.le_of_ble_eq_true rfl⟩ hK hE hO hP hD hS hA 2 rfl rfl rfl hl.1 rfl (Nat.le_of_ble_eq_true rfl) dJ5_putStringAt_47b60_2 ⟨(Nat.le_of_ble_eq_true rfl), (Nat.le_of_ble_eq_true rfl)⟩ (fun v9 bs9 H locs hp hP hD hS => ?_)
  obtain ⟨rfl, rfl⟩ := hp
  have hP : va_P E.1 vwCl [(b, .inl (E.2.2.2.1, mm, .inl g)), (b1, .inl (E.2.2.2.1, n1, .inl f1)), (a, .inr (10, [.ref b, .int 0, .int 0, .int cn])), (a1, .inr (9, [.ref b1, .int 0, .int 0, .int 0]))] _ := hP
  have hD : va_D A [(b, .inl (E.2.2.2.1, mm, .inl g)), (b1, .inl (E.2.2.2.1, n1, .inl f1)), (a, .inr (10, [.ref b, .int 0, .int 0, .int cn])), (a1, .inr (9, [.ref b1, .int 0, .int 0, .int 0]))] := hD
  refine lv_aload_n hx hb dJ5_putStringAt_47b60_5 rfl (lv_at hl 2 rfl) ?_
  refine lv_aload_n hx hb dJ5_putStringAt_47b60_6 rfl (lv_at hl 0 rfl) ?_
  refine va_get (D := E.1) (ci := 10) (C := RJ4) (T := TJ4) (N := 4) hx hb hg inG_J4 hown hK.1 hP 2 rfl rfl 0 (by decide) (hg _ mf_J5_15) (fun _ h => h) rfl dJ5_putStringAt_47b60_7 ?_
  refine lv_iload_n hx hb dJ5_putStringAt_47b60_10 rfl (lv_at hl 1 rfl) ?_
  refine lv_aload_n hx hb dJ5_putStringAt_47b60_11 rfl (lv_at hl 0 rfl) ?_
  refine va_get (D := E.1) (ci := 10) (C := RJ4) (T := TJ4) (N := 4) hx hb hg inG_J4 hown hK.1 hP 2 rfl rfl 1 (by decide) (hg _ mf_J5_22) (fun _ h => h) rfl dJ5_putStringAt_47b60_12 ?_
  have hP : va_P E.1 vwCl ([(a, .inr (10, [.ref b, .int 0, .int 0, .int cn]))] ++ [(a1, .inr (9, [.ref b1, .int 0, .int 0, .int 0])), (b1, .inl (E.2.2.2.1, n1, .inl f1)), (b, .inl (E.2.2.2.1, mm, .inl g))]) _ := hP.sub [2, 3, 1, 0] rfl
  have hD : va_D A ([(a, .inr (10, [.ref b, .int 0, .int 0, .int cn]))] ++ [(a1, .inr (9, [.ref b1, .int 0, .int 0, .int 0])), (b1, .inl (E.2.2.2.1, n1, .inl f1)), (b, .inl (E.2.2.2.1, mm, .inl g))]) := hD.sub [2, 3, 1, 0] rfl rfl
  refine pm_V (As := [.ref b, .int (nI pp), .int 0]) (rest := []) (wr := [(a, .inr (10, [.ref b, .int 0, .int 0, .int cn]))]) (bs := [(a1, .inr (9, [.ref b1, .int 0, .int 0, .int 0])), (b1, .inl (E.2.2.2.1, n1, .inl f1)), (b, .inl (E.2.2.2.1, mm, .inl g))]) hx hb hml hown hg (j_gbD E l a1 b1 n1 b mm pp f1 g hf hm hp) cv_J0_getBytes_840e7 ml_J5_399 ⟨⟨rfl, rfl⟩, Nat.le_of_ble_eq_true rfl, Nat.le_of_ble_eq_true rfl⟩ hK hE hO hP hD hS hA 1 rfl rfl rfl hl.1 rfl (Nat.le_of_ble_eq_true rfl) dJ5_putStringAt_47b60_15 ⟨(Nat.le_of_ble_eq_true rfl), (Nat.le_of_ble_eq_true rfl)⟩ (fun v9 bs9 H locs hp hP hD hS => ?_)
  obtain ⟨rfl, rfl⟩ := hp
  have hP : va_P E.1 vwCl [(a, .inr (10, [.ref b, .int 0, .int 0, .int cn])), (a1, .inr (9, [.ref b1, .int 0, .int 0, .int 0])), (b1, .inl (E.2.2.2.1, n1, .inl f1)), (b, .inl (E.2.2.2.1, mm, .inl (va_cpy f1 g 0 pp n1)))] _ := hP
  have hD : va_D A [(a, .inr (10, [.ref b, .int 0, .int 0, .int cn])), (a1, .inr (9, [.ref b1, .int 0, .int 0, .int 0])), (b1, .inl (E.2.2.2.1, n1, .inl f1)), (b, .inl (E.2.2.2.1, mm, .inl (va_cpy f1 g 0 pp n1)))] := hD
  have hP : va_P E.1 vwCl [(a, .inr (10, [.ref b, .int 0, .int 0, .int cn])), (b, .inl (E.2.2.2.1, mm, .inl (va_cpy f1 g 0 pp n1))), (a1, .inr (9, [.ref b1, .int 0, .int 0, .int 0])), (b1, .inl (E.2.2.2.1, n1, .inl f1))] _ := hP.sub [0, 3, 1, 2] rfl
  have hD : va_D A [(a, .inr (10, [.ref b, .int 0, .int 0, .int cn])), (b, .inl (E.2.2.2.1, mm, .inl (va_cpy f1 g 0 pp n1))), (a1, .inr (9, [.ref b1, .int 0, .int 0, .int 0])), (b1, .inl (E.2.2.2.1, n1, .inl f1))] := hD.sub [0, 3, 1, 2] rfl rfl
  exact pm_vret hx hb hr hlocks ⟨rfl, rfl⟩ hP hD hS dJ5_putStringAt_47b60_18 (Nat.le_of_ble_eq_true rfl) (Nat.le_of_ble_eq_true rfl)
set_option maxHeartbeats 4000000 in
set_option maxRecDepth 100000 in
theorem j_ap5C (E : Ev) (l : Launch) (a b mm n i : Nat) (f : Nat → Int32) (t : Nat → Nat) (hi : i < 16) (hnm : n ≤ mm) (hm : mm ≤ 602) (hq : n + lenS.getD i 0 ≤ 300) (hL : sb_Lat t n f) (hf : sb_Fit f) : PM E l yJ5_append_cf1ce (.code yJ5_append_cf1ce cJ5_append_cf1ce 3 (some (.object "java/lang/AbstractStringBuilder")) :: GA) { frames := 4, cells := 1, slots := 1300, locals := 115 } [.ref a, .ref (E.2.2.2.2.2.1 i)] [(a, .inr (10, [.ref b, .int 0, .int 0, .int (nI n)])), (b, .inl (E.2.2.2.1, mm, .inl f))] 1 1300 (fun v bs => ∃ (b2 m2 : Nat) (f2 : Nat → Int32), v = some (.ref a) ∧ n + lenS.getD i 0 ≤ m2 ∧ m2 ≤ 602 ∧ sb_Lat (sb_cat t n (fun j => ((bytS.getD i []).getD j 0).toNatClampNeg)) (n + lenS.getD i 0) f2 ∧ sb_Fit f2 ∧ bs = [(a, .inr (10, [.ref b2, .int 0, .int 0, .int (nI (n + lenS.getD i 0))])), (b2, .inl (E.2.2.2.1, m2, .inl f2))]) := by
  refine PM.of (own := RJ5) rfl (by decide) (Nat.le_of_ble_eq_true rfl) ?_
  intro p e s m below meth c A ls hx hb hr hml hown hg hlocks hin hK hE hO hA hP hD hS hl
  have hl : lv_has ls 3 [(0, .ref a), (1, .ref (E.2.2.2.2.2.1 i))] := hl
  refine lv_aload_n hx hb dJ5_append_cf1ce_0 rfl (lv_at hl 1 rfl) ?_
  refine lv_ifnonnull (tgt := 9) hx hb dJ5_append_cf1ce_1 (by decide) ?_
  refine lv_aload_n hx hb dJ5_append_cf1ce_9 rfl (lv_at hl 1 rfl) ?_
  refine cm_Vs (As := []) (rest := []) (i := i) hx hb hml hown hg (c_length E l i hi) cy_J0_length_8abf5 ml_J5_32 hi ⟨⟨rfl, rfl⟩, Nat.le_of_ble_eq_true rfl, Nat.le_of_ble_eq_true rfl⟩ hK hE hP hD hS hA rfl hl.1 rfl (Nat.le_of_ble_eq_true rfl) dJ5_append_cf1ce_10 ⟨(Nat.le_of_ble_eq_true rfl), (Nat.le_of_ble_eq_true rfl)⟩ [.int (nI (lenS.getD i 0))] rfl (fun H locs hP hD hS => ?_)
  refine lv_istore_n (lv' := [(2, .int (nI (lenS.getD i 0))), (0, .ref a), (1, .ref (E.2.2.2.2.2.1 i))]) hx hb dJ5_append_cf1ce_13 rfl hl (by decide) rfl (fun ls hl => ?_)
  refine lv_aload_n hx hb dJ5_append_cf1ce_14 rfl (lv_at hl 1 rfl) ?_
  refine lv_aload_n hx hb dJ5_append_cf1ce_15 rfl (lv_at hl 1 rfl) ?_
  refine va_get (D := E.1) (ci := 10) (C := RJ4) (T := TJ4) (N := 4) hx hb hg inG_J4 hown hK.1 hP 0 rfl rfl 3 (by decide) (hg _ mf_J5_79) (fun _ h => h) rfl dJ5_append_cf1ce_16 ?_
  refine lv_iload_n hx hb dJ5_append_cf1ce_19 rfl (lv_at hl 0 rfl) ?_
  refine lv_iadd hx hb dJ5_append_cf1ce_20 ?_
  rw [nI_add]
  refine pm_V (As := [.int (nI (n + lenS.getD i 0))]) (rest := []) (wr := []) (bs := [(a, .inr (10, [.ref b, .int 0, .int 0, .int (nI n)])), (b, .inl (E.2.2.2.1, mm, .inl f))]) hx hb hml hown hg (j_ens E l a b mm (n + lenS.getD i 0) f (nI n) hf hm hq) cv_J5_ensureCapacityInternal_d00df ml_J5_100 ⟨⟨rfl, rfl⟩, Nat.le_of_ble_eq_true rfl, Nat.le_of_ble_eq_true rfl⟩ hK hE hO hP hD hS hA 0 rfl rfl rfl hl.1 rfl (Nat.le_of_ble_eq_true rfl) dJ5_append_cf1ce_21 ⟨(by show _ ≤ 1; omega), (by show _ ≤ 1300; omega)⟩ (fun v9 bs9 H locs hp hP hD hS => ?_)
  obtain ⟨b2, f2, rfl, hf2, hk2, rfl⟩ := hp
  have hP : va_P E.1 vwCl [(a, .inr (10, [.ref b2, .int 0, .int 0, .int (nI n)])), (b2, .inl (E.2.2.2.1, (sb_cap (n + lenS.getD i 0) mm), .inl f2))] _ := hP
  have hD : va_D A [(a, .inr (10, [.ref b2, .int 0, .int 0, .int (nI n)])), (b2, .inl (E.2.2.2.1, (sb_cap (n + lenS.getD i 0) mm), .inl f2))] := hD
  have hcap : n + lenS.getD i 0 ≤ sb_cap (n + lenS.getD i 0) mm ∧ mm ≤ sb_cap (n + lenS.getD i 0) mm ∧ sb_cap (n + lenS.getD i 0) mm ≤ 602 := ⟨sb_cap_ge _ _, sb_cap_gem _ _, by unfold sb_cap; split <;> (try split) <;> omega⟩
  refine lv_aload_n hx hb dJ5_append_cf1ce_24 rfl (lv_at hl 1 rfl) ?_
  refine lv_aload_n hx hb dJ5_append_cf1ce_25 rfl (lv_at hl 1 rfl) ?_
  refine va_get (D := E.1) (ci := 10) (C := RJ4) (T := TJ4) (N := 4) hx hb hg inG_J4 hown hK.1 hP 0 rfl rfl 3 (by decide) (hg _ mf_J5_79) (fun _ h => h) rfl dJ5_append_cf1ce_26 ?_
  refine lv_aload_n hx hb dJ5_append_cf1ce_29 rfl (lv_at hl 2 rfl) ?_
  refine pm_V (As := [.int (nI n), .ref (E.2.2.2.2.2.1 i)]) (rest := []) (wr := []) (bs := [(a, .inr (10, [.ref b2, .int 0, .int 0, .int (nI n)])), (b2, .inl (E.2.2.2.1, (sb_cap (n + lenS.getD i 0) mm), .inl f2))]) hx hb hml hown hg (j_puC E l a b2 (sb_cap (n + lenS.getD i 0) mm) n i f2 (nI n) hi (by omega) (by omega)) cv_J5_putStringAt_47b60 ml_J5_208 ⟨⟨rfl, rfl⟩, Nat.le_of_ble_eq_true rfl, Nat.le_of_ble_eq_true rfl⟩ hK hE hO hP hD hS hA 0 rfl rfl rfl hl.1 rfl (Nat.le_of_ble_eq_true rfl) dJ5_append_cf1ce_30 ⟨(by show _ ≤ 1; omega), (by show _ ≤ 1300; omega)⟩ (fun v9 bs9 H locs hp hP hD hS => ?_)
  obtain ⟨rfl, rfl⟩ := hp
  have hP : va_P E.1 vwCl [(a, .inr (10, [.ref b2, .int 0, .int 0, .int (nI n)])), (b2, .inl (E.2.2.2.1, (sb_cap (n + lenS.getD i 0) mm), .inl (va_cpy (fun j => (bytS.getD i []).getD j 0) f2 0 n (lenS.getD i 0))))] _ := hP
  have hD : va_D A [(a, .inr (10, [.ref b2, .int 0, .int 0, .int (nI n)])), (b2, .inl (E.2.2.2.1, (sb_cap (n + lenS.getD i 0) mm), .inl (va_cpy (fun j => (bytS.getD i []).getD j 0) f2 0 n (lenS.getD i 0))))] := hD
  refine lv_aload_n hx hb dJ5_append_cf1ce_33 rfl (lv_at hl 1 rfl) ?_
  refine lv_dup hx hb dJ5_append_cf1ce_34 rfl ?_
  refine va_get (D := E.1) (ci := 10) (C := RJ4) (T := TJ4) (N := 4) hx hb hg inG_J4 hown hK.1 hP 0 rfl rfl 3 (by decide) (hg _ mf_J5_79) (fun _ h => h) rfl dJ5_append_cf1ce_35 ?_
  refine lv_iload_n hx hb dJ5_append_cf1ce_38 rfl (lv_at hl 0 rfl) ?_
  refine lv_iadd hx hb dJ5_append_cf1ce_39 ?_
  rw [nI_add]
  refine va_put (D := E.1) (ci := 10) (v := .int (nI (n + lenS.getD i 0))) (ty := .int) (C := RJ4) (T := TJ4) (N := 4) hx hb hg inG_J4 tyJ4 tyJ4_ok nmJ4 hown hK.1 hP hD hS 0 rfl rfl 3 (by decide) (hg _ mf_J5_79) (fun _ h => h) rfl (by decide +kernel) rfl rfl (Nat.le_of_ble_eq_true rfl) dJ5_append_cf1ce_40 (fun H locs hP hD hS => ?_)
  have hP : va_P E.1 vwCl [(a, .inr (10, [.ref b2, .int 0, .int 0, .int (nI (n + lenS.getD i 0))])), (b2, .inl (E.2.2.2.1, (sb_cap (n + lenS.getD i 0) mm), .inl (va_cpy (fun j => (bytS.getD i []).getD j 0) f2 0 n (lenS.getD i 0))))] _ := hP
  have hD : va_D A [(a, .inr (10, [.ref b2, .int 0, .int 0, .int (nI (n + lenS.getD i 0))])), (b2, .inl (E.2.2.2.1, (sb_cap (n + lenS.getD i 0) mm), .inl (va_cpy (fun j => (bytS.getD i []).getD j 0) f2 0 n (lenS.getD i 0))))] := hD
  refine lv_aload_n hx hb dJ5_append_cf1ce_43 rfl (lv_at hl 1 rfl) ?_
  exact pm_aret hx hb hr (Or.inl ⟨_, rfl⟩) hlocks ⟨b2, _, _, rfl, hcap.1, hcap.2.2, sb_latPut hL (fun j hj => by rw [pk_cpy_out (Or.inl (by omega))]; exact hk2 j (by omega)) (fun k hk => by rw [pk_cpy_in (by omega) (by omega), show 0 + (n + k - n) = k by omega]; exact bytS_lat i hi k hk), sb_fitC (fun j => bytS_fit i hi j) hf2, rfl⟩ hP hD hS dJ5_append_cf1ce_44 (by omega) (by omega)
set_option maxHeartbeats 4000000 in
set_option maxRecDepth 100000 in
theorem j_ap5D (E : Ev) (l : Launch) (a b mm n a1 b1 n1 : Nat) (f f1 : Nat → Int32) (t t1 : Nat → Nat) (hL1 : sb_Lat t1 n1 f1) (hf1 : sb_Fit f1) (hnm : n ≤ mm) (hm : mm ≤ 602) (hq : n + n1 ≤ 300) (hL : sb_Lat t n f) (hf : sb_Fit f) : PM E l yJ5_append_cf1ce (.code yJ5_append_cf1ce cJ5_append_cf1ce 3 (some (.object "java/lang/AbstractStringBuilder")) :: GA) { frames := 4, cells := 1, slots := 1300, locals := 115 } [.ref a, .ref a1] [(a, .inr (10, [.ref b, .int 0, .int 0, .int (nI n)])), (b, .inl (E.2.2.2.1, mm, .inl f)), (a1, .inr (9, [.ref b1, .int 0, .int 0, .int 0])), (b1, .inl (E.2.2.2.1, n1, .inl f1))] 1 1300 (fun v bs => ∃ (b2 m2 : Nat) (f2 : Nat → Int32), v = some (.ref a) ∧ n + n1 ≤ m2 ∧ m2 ≤ 602 ∧ sb_Lat (sb_cat t n t1) (n + n1) f2 ∧ sb_Fit f2 ∧ bs = [(a, .inr (10, [.ref b2, .int 0, .int 0, .int (nI (n + n1))])), (b2, .inl (E.2.2.2.1, m2, .inl f2)), (a1, .inr (9, [.ref b1, .int 0, .int 0, .int 0])), (b1, .inl (E.2.2.2.1, n1, .inl f1))]) := by
  refine PM.of (own := RJ5) rfl (by decide) (Nat.le_of_ble_eq_true rfl) ?_
  intro p e s m below meth c A ls hx hb hr hml hown hg hlocks hin hK hE hO hA hP hD hS hl
  have hl : lv_has ls 3 [(0, .ref a), (1, .ref a1)] := hl
  refine lv_aload_n hx hb dJ5_append_cf1ce_0 rfl (lv_at hl 1 rfl) ?_
  refine lv_ifnonnull (tgt := 9) hx hb dJ5_append_cf1ce_1 (by decide) ?_
  refine lv_aload_n hx hb dJ5_append_cf1ce_9 rfl (lv_at hl 1 rfl) ?_
  refine pm_V (As := []) (rest := []) (wr := [(a, .inr (10, [.ref b, .int 0, .int 0, .int (nI n)])), (b, .inl (E.2.2.2.1, mm, .inl f))]) (bs := [(a1, .inr (9, [.ref b1, .int 0, .int 0, .int 0])), (b1, .inl (E.2.2.2.1, n1, .inl f1))]) hx hb hml hown hg (j_lenD E l a1 b1 n1 f1) cv_J0_length_8abf5 ml_J5_32 ⟨⟨rfl, rfl⟩, Nat.le_of_ble_eq_true rfl, Nat.le_of_ble_eq_true rfl⟩ hK hE hO hP hD hS hA 2 rfl rfl rfl hl.1 rfl (Nat.le_of_ble_eq_true rfl) dJ5_append_cf1ce_10 ⟨(Nat.le_of_ble_eq_true rfl), (Nat.le_of_ble_eq_true rfl)⟩ (fun v9 bs9 H locs hp hP hD hS => ?_)
  obtain ⟨rfl, rfl⟩ := hp
  have hP : va_P E.1 vwCl [(a, .inr (10, [.ref b, .int 0, .int 0, .int (nI n)])), (b, .inl (E.2.2.2.1, mm, .inl f)), (a1, .inr (9, [.ref b1, .int 0, .int 0, .int 0])), (b1, .inl (E.2.2.2.1, n1, .inl f1))] _ := hP
  have hD : va_D A [(a, .inr (10, [.ref b, .int 0, .int 0, .int (nI n)])), (b, .inl (E.2.2.2.1, mm, .inl f)), (a1, .inr (9, [.ref b1, .int 0, .int 0, .int 0])), (b1, .inl (E.2.2.2.1, n1, .inl f1))] := hD
  refine lv_istore_n (lv' := [(2, .int (nI n1)), (0, .ref a), (1, .ref a1)]) hx hb dJ5_append_cf1ce_13 rfl hl (by decide) rfl (fun ls hl => ?_)
  refine lv_aload_n hx hb dJ5_append_cf1ce_14 rfl (lv_at hl 1 rfl) ?_
  refine lv_aload_n hx hb dJ5_append_cf1ce_15 rfl (lv_at hl 1 rfl) ?_
  refine va_get (D := E.1) (ci := 10) (C := RJ4) (T := TJ4) (N := 4) hx hb hg inG_J4 hown hK.1 hP 0 rfl rfl 3 (by decide) (hg _ mf_J5_79) (fun _ h => h) rfl dJ5_append_cf1ce_16 ?_
  refine lv_iload_n hx hb dJ5_append_cf1ce_19 rfl (lv_at hl 0 rfl) ?_
  refine lv_iadd hx hb dJ5_append_cf1ce_20 ?_
  rw [nI_add]
  have hP : va_P E.1 vwCl ([(a1, .inr (9, [.ref b1, .int 0, .int 0, .int 0])), (b1, .inl (E.2.2.2.1, n1, .inl f1))] ++ [(a, .inr (10, [.ref b, .int 0, .int 0, .int (nI n)])), (b, .inl (E.2.2.2.1, mm, .inl f))]) _ := hP.sub [2, 3, 0, 1] rfl
  have hD : va_D A ([(a1, .inr (9, [.ref b1, .int 0, .int 0, .int 0])), (b1, .inl (E.2.2.2.1, n1, .inl f1))] ++ [(a, .inr (10, [.ref b, .int 0, .int 0, .int (nI n)])), (b, .inl (E.2.2.2.1, mm, .inl f))]) := hD.sub [2, 3, 0, 1] rfl rfl
  refine pm_V (As := [.int (nI (n + n1))]) (rest := []) (wr := [(a1, .inr (9, [.ref b1, .int 0, .int 0, .int 0])), (b1, .inl (E.2.2.2.1, n1, .inl f1))]) (bs := [(a, .inr (10, [.ref b, .int 0, .int 0, .int (nI n)])), (b, .inl (E.2.2.2.1, mm, .inl f))]) hx hb hml hown hg (j_ens E l a b mm (n + n1) f (nI n) hf hm hq) cv_J5_ensureCapacityInternal_d00df ml_J5_100 ⟨⟨rfl, rfl⟩, Nat.le_of_ble_eq_true rfl, Nat.le_of_ble_eq_true rfl⟩ hK hE hO hP hD hS hA 2 rfl rfl rfl hl.1 rfl (Nat.le_of_ble_eq_true rfl) dJ5_append_cf1ce_21 ⟨(by show _ ≤ 1; omega), (by show _ ≤ 1300; omega)⟩ (fun v9 bs9 H locs hp hP hD hS => ?_)
  obtain ⟨b2, f2, rfl, hf2, hk2, rfl⟩ := hp
  have hP : va_P E.1 vwCl [(a1, .inr (9, [.ref b1, .int 0, .int 0, .int 0])), (b1, .inl (E.2.2.2.1, n1, .inl f1)), (a, .inr (10, [.ref b2, .int 0, .int 0, .int (nI n)])), (b2, .inl (E.2.2.2.1, (sb_cap (n + n1) mm), .inl f2))] _ := hP
  have hD : va_D A [(a1, .inr (9, [.ref b1, .int 0, .int 0, .int 0])), (b1, .inl (E.2.2.2.1, n1, .inl f1)), (a, .inr (10, [.ref b2, .int 0, .int 0, .int (nI n)])), (b2, .inl (E.2.2.2.1, (sb_cap (n + n1) mm), .inl f2))] := hD
  have hcap : n + n1 ≤ sb_cap (n + n1) mm ∧ mm ≤ sb_cap (n + n1) mm ∧ sb_cap (n + n1) mm ≤ 602 := ⟨sb_cap_ge _ _, sb_cap_gem _ _, by unfold sb_cap; split <;> (try split) <;> omega⟩
  refine lv_aload_n hx hb dJ5_append_cf1ce_24 rfl (lv_at hl 1 rfl) ?_
  refine lv_aload_n hx hb dJ5_append_cf1ce_25 rfl (lv_at hl 1 rfl) ?_
  refine va_get (D := E.1) (ci := 10) (C := RJ4) (T := TJ4) (N := 4) hx hb hg inG_J4 hown hK.1 hP 2 rfl rfl 3 (by decide) (hg _ mf_J5_79) (fun _ h => h) rfl dJ5_append_cf1ce_26 ?_
  refine lv_aload_n hx hb dJ5_append_cf1ce_29 rfl (lv_at hl 2 rfl) ?_
  have hP : va_P E.1 vwCl ([] ++ [(a, .inr (10, [.ref b2, .int 0, .int 0, .int (nI n)])), (b2, .inl (E.2.2.2.1, (sb_cap (n + n1) mm), .inl f2)), (a1, .inr (9, [.ref b1, .int 0, .int 0, .int 0])), (b1, .inl (E.2.2.2.1, n1, .inl f1))]) _ := hP.sub [2, 3, 0, 1] rfl
  have hD : va_D A ([] ++ [(a, .inr (10, [.ref b2, .int 0, .int 0, .int (nI n)])), (b2, .inl (E.2.2.2.1, (sb_cap (n + n1) mm), .inl f2)), (a1, .inr (9, [.ref b1, .int 0, .int 0, .int 0])), (b1, .inl (E.2.2.2.1, n1, .inl f1))]) := hD.sub [2, 3, 0, 1] rfl rfl
  refine pm_V (As := [.int (nI n), .ref a1]) (rest := []) (wr := []) (bs := [(a, .inr (10, [.ref b2, .int 0, .int 0, .int (nI n)])), (b2, .inl (E.2.2.2.1, (sb_cap (n + n1) mm), .inl f2)), (a1, .inr (9, [.ref b1, .int 0, .int 0, .int 0])), (b1, .inl (E.2.2.2.1, n1, .inl f1))]) hx hb hml hown hg (j_puD E l a b2 (sb_cap (n + n1) mm) n a1 b1 n1 f2 f1 (nI n) hf1 (by omega) (by omega)) cv_J5_putStringAt_47b60 ml_J5_208 ⟨⟨rfl, rfl⟩, Nat.le_of_ble_eq_true rfl, Nat.le_of_ble_eq_true rfl⟩ hK hE hO hP hD hS hA 0 rfl rfl rfl hl.1 rfl (Nat.le_of_ble_eq_true rfl) dJ5_append_cf1ce_30 ⟨(by show _ ≤ 1; omega), (by show _ ≤ 1300; omega)⟩ (fun v9 bs9 H locs hp hP hD hS => ?_)
  obtain ⟨rfl, rfl⟩ := hp
  have hP : va_P E.1 vwCl [(a, .inr (10, [.ref b2, .int 0, .int 0, .int (nI n)])), (b2, .inl (E.2.2.2.1, (sb_cap (n + n1) mm), .inl (va_cpy f1 f2 0 n n1))), (a1, .inr (9, [.ref b1, .int 0, .int 0, .int 0])), (b1, .inl (E.2.2.2.1, n1, .inl f1))] _ := hP
  have hD : va_D A [(a, .inr (10, [.ref b2, .int 0, .int 0, .int (nI n)])), (b2, .inl (E.2.2.2.1, (sb_cap (n + n1) mm), .inl (va_cpy f1 f2 0 n n1))), (a1, .inr (9, [.ref b1, .int 0, .int 0, .int 0])), (b1, .inl (E.2.2.2.1, n1, .inl f1))] := hD
  refine lv_aload_n hx hb dJ5_append_cf1ce_33 rfl (lv_at hl 1 rfl) ?_
  refine lv_dup hx hb dJ5_append_cf1ce_34 rfl ?_
  refine va_get (D := E.1) (ci := 10) (C := RJ4) (T := TJ4) (N := 4) hx hb hg inG_J4 hown hK.1 hP 0 rfl rfl 3 (by decide) (hg _ mf_J5_79) (fun _ h => h) rfl dJ5_append_cf1ce_35 ?_
  refine lv_iload_n hx hb dJ5_append_cf1ce_38 rfl (lv_at hl 0 rfl) ?_
  refine lv_iadd hx hb dJ5_append_cf1ce_39 ?_
  rw [nI_add]
  refine va_put (D := E.1) (ci := 10) (v := .int (nI (n + n1))) (ty := .int) (C := RJ4) (T := TJ4) (N := 4) hx hb hg inG_J4 tyJ4 tyJ4_ok nmJ4 hown hK.1 hP hD hS 0 rfl rfl 3 (by decide) (hg _ mf_J5_79) (fun _ h => h) rfl (by decide +kernel) rfl rfl (Nat.le_of_ble_eq_true rfl) dJ5_append_cf1ce_40 (fun H locs hP hD hS => ?_)
  have hP : va_P E.1 vwCl [(a, .inr (10, [.ref b2, .int 0, .int 0, .int (nI (n + n1))])), (b2, .inl (E.2.2.2.1, (sb_cap (n + n1) mm), .inl (va_cpy f1 f2 0 n n1))), (a1, .inr (9, [.ref b1, .int 0, .int 0, .int 0])), (b1, .inl (E.2.2.2.1, n1, .inl f1))] _ := hP
  have hD : va_D A [(a, .inr (10, [.ref b2, .int 0, .int 0, .int (nI (n + n1))])), (b2, .inl (E.2.2.2.1, (sb_cap (n + n1) mm), .inl (va_cpy f1 f2 0 n n1))), (a1, .inr (9, [.ref b1, .int 0, .int 0, .int 0])), (b1, .inl (E.2.2.2.1, n1, .inl f1))] := hD
  refine lv_aload_n hx hb dJ5_append_cf1ce_43 rfl (lv_at hl 1 rfl) ?_
  exact pm_aret hx hb hr (Or.inl ⟨_, rfl⟩) hlocks ⟨b2, _, _, rfl, hcap.1, hcap.2.2, sb_latPut hL (fun j hj => by rw [pk_cpy_out (Or.inl (by omega))]; exact hk2 j (by omega)) (fun k hk => by rw [pk_cpy_in (by omega) (by omega), show 0 + (n + k - n) = k by omega]; exact hL1 k hk), sb_fitC hf1 hf2, rfl⟩ hP hD hS dJ5_append_cf1ce_44 (by omega) (by omega)
set_option maxHeartbeats 4000000 in
set_option maxRecDepth 100000 in
theorem j_apC (E : Ev) (l : Launch) (a b mm n i : Nat) (f : Nat → Int32) (t : Nat → Nat) (hi : i < 16) (hnm : n ≤ mm) (hm : mm ≤ 602) (hq : n + lenS.getD i 0 ≤ 300) (hL : sb_Lat t n f) (hf : sb_Fit f) : PM E l yJ4_append_15ec4 (.code yJ4_append_15ec4 cJ4_append_15ec4 2 (some (.object "java/lang/StringBuilder")) :: GA) { frames := 5, cells := 1, slots := 1300, locals := 137 } [.ref a, .ref (E.2.2.2.2.2.1 i)] [(a, .inr (10, [.ref b, .int 0, .int 0, .int (nI n)])), (b, .inl (E.2.2.2.1, mm, .inl f))] 1 1300 (fun v bs => ∃ (b2 m2 : Nat) (f2 : Nat → Int32), v = some (.ref a) ∧ n + lenS.getD i 0 ≤ m2 ∧ m2 ≤ 602 ∧ sb_Lat (sb_cat t n (fun j => ((bytS.getD i []).getD j 0).toNatClampNeg)) (n + lenS.getD i 0) f2 ∧ sb_Fit f2 ∧ bs = [(a, .inr (10, [.ref b2, .int 0, .int 0, .int (nI (n + lenS.getD i 0))])), (b2, .inl (E.2.2.2.1, m2, .inl f2))]) := by
  refine PM.of (own := RJ4) rfl (by decide) (Nat.le_of_ble_eq_true rfl) ?_
  intro p e s m below meth c A ls hx hb hr hml hown hg hlocks hin hK hE hO hA hP hD hS hl
  have hl : lv_has ls 2 [(0, .ref a), (1, .ref (E.2.2.2.2.2.1 i))] := hl
  refine lv_aload_n hx hb dJ4_append_15ec4_0 rfl (lv_at hl 0 rfl) ?_
  refine lv_aload_n hx hb dJ4_append_15ec4_1 rfl (lv_at hl 1 rfl) ?_
  refine pm_SU (n := 1) (As := [.ref (E.2.2.2.2.2.1 i)]) (rest := []) (wr := []) (bs := [(a, .inr (10, [.ref b, .int 0, .int 0, .int (nI n)])), (b, .inl (E.2.2.2.1, mm, .inl f))]) hx hb hml hown hg (j_ap5C E l a b mm n i f t hi hnm hm hq hL hf) cx_J5_append_cf1ce sm_J5_append_cf1ce sup_J4 ini_J5 (by decide +kernel) ml_J4_29 ⟨⟨rfl, rfl⟩, Nat.le_of_ble_eq_true rfl, Nat.le_of_ble_eq_true rfl⟩ hK hE hO hP hD hS hA 0 rfl rfl rfl hl.1 rfl (Nat.le_of_ble_eq_true rfl) dJ4_append_15ec4_2 ⟨(by show _ ≤ 1; omega), (by show _ ≤ 1300; omega)⟩ (fun v9 bs9 H locs hp hP hD hS => ?_)
  obtain ⟨b2, m2, f2, rfl, h1, h2, h3, h4, rfl⟩ := hp
  have hP : va_P E.1 vwCl [(a, .inr (10, [.ref b2, .int 0, .int 0, .int (nI (n + lenS.getD i 0))])), (b2, .inl (E.2.2.2.1, m2, .inl f2))] _ := hP
  have hD : va_D A [(a, .inr (10, [.ref b2, .int 0, .int 0, .int (nI (n + lenS.getD i 0))])), (b2, .inl (E.2.2.2.1, m2, .inl f2))] := hD
  refine lv_pop hx hb dJ4_append_15ec4_5 rfl ?_
  refine lv_aload_n hx hb dJ4_append_15ec4_6 rfl (lv_at hl 0 rfl) ?_
  exact pm_aret hx hb hr (Or.inl ⟨_, rfl⟩) hlocks ⟨b2, m2, f2, rfl, h1, h2, h3, h4, rfl⟩ hP hD hS dJ4_append_15ec4_7 (by omega) (by omega)
set_option maxHeartbeats 4000000 in
set_option maxRecDepth 100000 in
theorem j_apCb (E : Ev) (l : Launch) (a b mm n i : Nat) (f : Nat → Int32) (t : Nat → Nat) (hi : i < 16) (hnm : n ≤ mm) (hm : mm ≤ 602) (hq : n + lenS.getD i 0 ≤ 300) (hL : sb_Lat t n f) (hf : sb_Fit f) : PM E l yJ4_append_cf1ce (.code yJ4_append_cf1ce cJ4_append_cf1ce 2 (some (.object "java/lang/AbstractStringBuilder")) :: GA) { frames := 6, cells := 1, slots := 1300, locals := 158 } [.ref a, .ref (E.2.2.2.2.2.1 i)] [(a, .inr (10, [.ref b, .int 0, .int 0, .int (nI n)])), (b, .inl (E.2.2.2.1, mm, .inl f))] 1 1300 (fun v bs => ∃ (b2 m2 : Nat) (f2 : Nat → Int32), v = some (.ref a) ∧ n + lenS.getD i 0 ≤ m2 ∧ m2 ≤ 602 ∧ sb_Lat (sb_cat t n (fun j => ((bytS.getD i []).getD j 0).toNatClampNeg)) (n + lenS.getD i 0) f2 ∧ sb_Fit f2 ∧ bs = [(a, .inr (10, [.ref b2, .int 0, .int 0, .int (nI (n + lenS.getD i 0))])), (b2, .inl (E.2.2.2.1, m2, .inl f2))]) := by
  refine PM.of (own := RJ4) rfl (by decide) (Nat.le_of_ble_eq_true rfl) ?_
  intro p e s m below meth c A ls hx hb hr hml hown hg hlocks hin hK hE hO hA hP hD hS hl
  have hl : lv_has ls 2 [(0, .ref a), (1, .ref (E.2.2.2.2.2.1 i))] := hl
  refine lv_aload_n hx hb dJ4_append_cf1ce_0 rfl (lv_at hl 0 rfl) ?_
  refine lv_aload_n hx hb dJ4_append_cf1ce_1 rfl (lv_at hl 1 rfl) ?_
  refine pm_V (As := [.ref (E.2.2.2.2.2.1 i)]) (rest := []) (wr := []) (bs := [(a, .inr (10, [.ref b, .int 0, .int 0, .int (nI n)])), (b, .inl (E.2.2.2.1, mm, .inl f))]) hx hb hml hown hg (j_apC E l a b mm n i f t hi hnm hm hq hL hf) cv_J4_append_15ec4 ml_J4_23 ⟨⟨rfl, rfl⟩, Nat.le_of_ble_eq_true rfl, Nat.le_of_ble_eq_true rfl⟩ hK hE hO hP hD hS hA 0 rfl rfl rfl hl.1 rfl (Nat.le_of_ble_eq_true rfl) dJ4_append_cf1ce_2 ⟨(by show _ ≤ 1; omega), (by show _ ≤ 1300; omega)⟩ (fun v9 bs9 H locs hp hP hD hS => ?_)
  obtain ⟨b2, m2, f2, rfl, h1, h2, h3, h4, rfl⟩ := hp
  have hP : va_P E.1 vwCl [(a, .inr (10, [.ref b2, .int 0, .int 0, .int (nI (n + lenS.getD i 0))])), (b2, .inl (E.2.2.2.1, m2, .inl f2))] _ := hP
  have hD : va_D A [(a, .inr (10, [.ref b2, .int 0, .int 0, .int (nI (n + lenS.getD i 0))])), (b2, .inl (E.2.2.2.1, m2, .inl f2))] := hD
  exact pm_aret hx hb hr (Or.inl ⟨_, rfl⟩) hlocks ⟨b2, m2, f2, rfl, h1, h2, h3, h4, rfl⟩ hP hD hS dJ4_append_cf1ce_5 (by omega) (by omega)
set_option maxHeartbeats 4000000 in
set_option maxRecDepth 100000 in
theorem j_apD (E : Ev) (l : Launch) (a b mm n a1 b1 n1 : Nat) (f f1 : Nat → Int32) (t t1 : Nat → Nat) (hL1 : sb_Lat t1 n1 f1) (hf1 : sb_Fit f1) (hnm : n ≤ mm) (hm : mm ≤ 602) (hq : n + n1 ≤ 300) (hL : sb_Lat t n f) (hf : sb_Fit f) : PM E l yJ4_append_15ec4 (.code yJ4_append_15ec4 cJ4_append_15ec4 2 (some (.object "java/lang/StringBuilder")) :: GA) { frames := 5, cells := 1, slots := 1300, locals := 137 } [.ref a, .ref a1] [(a, .inr (10, [.ref b, .int 0, .int 0, .int (nI n)])), (b, .inl (E.2.2.2.1, mm, .inl f)), (a1, .inr (9, [.ref b1, .int 0, .int 0, .int 0])), (b1, .inl (E.2.2.2.1, n1, .inl f1))] 1 1300 (fun v bs => ∃ (b2 m2 : Nat) (f2 : Nat → Int32), v = some (.ref a) ∧ n + n1 ≤ m2 ∧ m2 ≤ 602 ∧ sb_Lat (sb_cat t n t1) (n + n1) f2 ∧ sb_Fit f2 ∧ bs = [(a, .inr (10, [.ref b2, .int 0, .int 0, .int (nI (n + n1))])), (b2, .inl (E.2.2.2.1, m2, .inl f2)), (a1, .inr (9, [.ref b1, .int 0, .int 0, .int 0])), (b1, .inl (E.2.2.2.1, n1, .inl f1))]) := by
  refine PM.of (own := RJ4) rfl (by decide) (Nat.le_of_ble_eq_true rfl) ?_
  intro p e s m below meth c A ls hx hb hr hml hown hg hlocks hin hK hE hO hA hP hD hS hl
  have hl : lv_has ls 2 [(0, .ref a), (1, .ref a1)] := hl
  refine lv_aload_n hx hb dJ4_append_15ec4_0 rfl (lv_at hl 0 rfl) ?_
  refine lv_aload_n hx hb dJ4_append_15ec4_1 rfl (lv_at hl 1 rfl) ?_
  refine pm_SU (n := 1) (As := [.ref a1]) (rest := []) (wr := []) (bs := [(a, .inr (10, [.ref b, .int 0, .int 0, .int (nI n)])), (b, .inl (E.2.2.2.1, mm, .inl f)), (a1, .inr (9, [.ref b1, .int 0, .int 0, .int 0])), (b1, .inl (E.2.2.2.1, n1, .inl f1))]) hx hb hml hown hg (j_ap5D E l a b mm n a1 b1 n1 f f1 t t1 hL1 hf1 hnm hm hq hL hf) cx_J5_append_cf1ce sm_J5_append_cf1ce sup_J4 ini_J5 (by decide +kernel) ml_J4_29 ⟨⟨rfl, rfl⟩, Nat.le_of_ble_eq_true rfl, Nat.le_of_ble_eq_true rfl⟩ hK hE hO hP hD hS hA 0 rfl rfl rfl hl.1 rfl (Nat.le_of_ble_eq_true rfl) dJ4_append_15ec4_2 ⟨(by show _ ≤ 1; omega), (by show _ ≤ 1300; omega)⟩ (fun v9 bs9 H locs hp hP hD hS => ?_)
  obtain ⟨b2, m2, f2, rfl, h1, h2, h3, h4, rfl⟩ := hp
  have hP : va_P E.1 vwCl [(a, .inr (10, [.ref b2, .int 0, .int 0, .int (nI (n + n1))])), (b2, .inl (E.2.2.2.1, m2, .inl f2)), (a1, .inr (9, [.ref b1, .int 0, .int 0, .int 0])), (b1, .inl (E.2.2.2.1, n1, .inl f1))] _ := hP
  have hD : va_D A [(a, .inr (10, [.ref b2, .int 0, .int 0, .int (nI (n + n1))])), (b2, .inl (E.2.2.2.1, m2, .inl f2)), (a1, .inr (9, [.ref b1, .int 0, .int 0, .int 0])), (b1, .inl (E.2.2.2.1, n1, .inl f1))] := hD
  refine lv_pop hx hb dJ4_append_15ec4_5 rfl ?_
  refine lv_aload_n hx hb dJ4_append_15ec4_6 rfl (lv_at hl 0 rfl) ?_
  exact pm_aret hx hb hr (Or.inl ⟨_, rfl⟩) hlocks ⟨b2, m2, f2, rfl, h1, h2, h3, h4, rfl⟩ hP hD hS dJ4_append_15ec4_7 (by omega) (by omega)
set_option maxHeartbeats 4000000 in
set_option maxRecDepth 100000 in
theorem j_ap5H (E : Ev) (l : Launch) (a b mm n ch : Nat) (f : Nat → Int32) (t : Nat → Nat) (hch : ch < 256) (hnm : n ≤ mm) (hm : mm ≤ 602) (hq : n + 1 ≤ 300) (hL : sb_Lat t n f) (hf : sb_Fit f) : PM E l yJ5_append_3fe6f (.code yJ5_append_3fe6f cJ5_append_3fe6f 2 (some (.object "java/lang/AbstractStringBuilder")) :: GA) { frames := 4, cells := 1, slots := 1300, locals := 114 } [.ref a, .int (nI ch)] [(a, .inr (10, [.ref b, .int 0, .int 0, .int (nI n)])), (b, .inl (E.2.2.2.1, mm, .inl f))] 1 1300 (fun v bs => ∃ (b2 m2 : Nat) (f2 : Nat → Int32), v = some (.ref a) ∧ n + 1 ≤ m2 ∧ m2 ≤ 602 ∧ sb_Lat (sb_cat t n (fun _ => ch)) (n + 1) f2 ∧ sb_Fit f2 ∧ bs = [(a, .inr (10, [.ref b2, .int 0, .int 0, .int (nI (n + 1))])), (b2, .inl (E.2.2.2.1, m2, .inl f2))]) := by
  refine PM.of (own := RJ5) rfl (by decide) (Nat.le_of_ble_eq_true rfl) ?_
  intro p e s m below meth c A ls hx hb hr hml hown hg hlocks hin hK hE hO hA hP hD hS hl
  have hl : lv_has ls 2 [(0, .ref a), (1, .int (nI ch))] := hl
  refine lv_aload_n hx hb dJ5_append_3fe6f_0 rfl (lv_at hl 0 rfl) ?_
  refine lv_aload_n hx hb dJ5_append_3fe6f_1 rfl (lv_at hl 0 rfl) ?_
  refine va_get (D := E.1) (ci := 10) (C := RJ4) (T := TJ4) (N := 4) hx hb hg inG_J4 hown hK.1 hP 0 rfl rfl 3 (by decide) (hg _ mf_J5_79) (fun _ h => h) rfl dJ5_append_3fe6f_2 ?_
  refine lv_iconst (v := 1) hx hb dJ5_append_3fe6f_5 (by decide) ?_
  refine lv_iadd hx hb dJ5_append_3fe6f_6 ?_
  rw [nI_1]
  refine pm_V (As := [.int (nI (n + 1))]) (rest := []) (wr := []) (bs := [(a, .inr (10, [.ref b, .int 0, .int 0, .int (nI n)])), (b, .inl (E.2.2.2.1, mm, .inl f))]) hx hb hml hown hg (j_ens E l a b mm (n + 1) f (nI n) hf hm hq) cv_J5_ensureCapacityInternal_d00df ml_J5_100 ⟨⟨rfl, rfl⟩, Nat.le_of_ble_eq_true rfl, Nat.le_of_ble_eq_true rfl⟩ hK hE hO hP hD hS hA 0 rfl rfl rfl hl.1 rfl (Nat.le_of_ble_eq_true rfl) dJ5_append_3fe6f_7 ⟨(by show _ ≤ 1; omega), (by show _ ≤ 1300; omega)⟩ (fun v9 bs9 H locs hp hP hD hS => ?_)
  obtain ⟨b2, f2, rfl, hf2, hk2, rfl⟩ := hp
  have hP : va_P E.1 vwCl [(a, .inr (10, [.ref b2, .int 0, .int 0, .int (nI n)])), (b2, .inl (E.2.2.2.1, (sb_cap (n + 1) mm), .inl f2))] _ := hP
  have hD : va_D A [(a, .inr (10, [.ref b2, .int 0, .int 0, .int (nI n)])), (b2, .inl (E.2.2.2.1, (sb_cap (n + 1) mm), .inl f2))] := hD
  have hcap : n + 1 ≤ sb_cap (n + 1) mm ∧ mm ≤ sb_cap (n + 1) mm ∧ sb_cap (n + 1) mm ≤ 602 := ⟨sb_cap_ge _ _, sb_cap_gem _ _, by unfold sb_cap; split <;> (try split) <;> omega⟩
  refine lv_aload_n hx hb dJ5_append_3fe6f_10 rfl (lv_at hl 0 rfl) ?_
  have hP : va_P E.1 vwCl ([(b2, .inl (E.2.2.2.1, (sb_cap (n + 1) mm), .inl f2))] ++ [(a, .inr (10, [.ref b2, .int 0, .int 0, .int (nI n)]))]) _ := hP.sub [1, 0] rfl
  have hD : va_D A ([(b2, .inl (E.2.2.2.1, (sb_cap (n + 1) mm), .inl f2))] ++ [(a, .inr (10, [.ref b2, .int 0, .int 0, .int (nI n)]))]) := hD.sub [1, 0] rfl rfl
  refine pm_V (As := []) (rest := []) (wr := [(b2, .inl (E.2.2.2.1, (sb_cap (n + 1) mm), .inl f2))]) (bs := [(a, .inr (10, [.ref b2, .int 0, .int 0, .int (nI n)]))]) hx hb hml hown hg (j_lat E l a b2 (nI n)) cv_J5_isLatin1_aae02 ml_J5_83 ⟨⟨rfl, rfl⟩, Nat.le_of_ble_eq_true rfl, Nat.le_of_ble_eq_true rfl⟩ hK hE hO hP hD hS hA 1 rfl rfl rfl hl.1 rfl (Nat.le_of_ble_eq_true rfl) dJ5_append_3fe6f_11 ⟨(by show _ ≤ 1; omega), (by show _ ≤ 1300; omega)⟩ (fun v9 bs9 H locs hp hP hD hS => ?_)
  obtain ⟨rfl, rfl⟩ := hp
  have hP : va_P E.1 vwCl [(b2, .inl (E.2.2.2.1, (sb_cap (n + 1) mm), .inl f2)), (a, .inr (10, [.ref b2, .int 0, .int 0, .int (nI n)]))] _ := hP
  have hD : va_D A [(b2, .inl (E.2.2.2.1, (sb_cap (n + 1) mm), .inl f2)), (a, .inr (10, [.ref b2, .int 0, .int 0, .int (nI n)]))] := hD
  refine lv_if_eq (tgt := 45) hx hb dJ5_append_3fe6f_14 (by decide) (fun cq => absurd cq (by decide)) (fun cq => ?_)
  refine lv_iload_n hx hb dJ5_append_3fe6f_17 rfl (lv_at hl 1 rfl) ?_
  refine pm_S (As := [.int (nI ch)]) (rest := []) (wr := [(b2, .inl (E.2.2.2.1, (sb_cap (n + 1) mm), .inl f2)), (a, .inr (10, [.ref b2, .int 0, .int 0, .int (nI n)]))]) (bs := []) hx hb hml hown hg (j_enc E l ch hch) cs_J1_canEncode_fc78d ml_J5_191 ⟨⟨rfl, rfl⟩, Nat.le_of_ble_eq_true rfl, Nat.le_of_ble_eq_true rfl⟩ hK hE hO hP hD hS hA rfl hl.1 rfl (Nat.le_of_ble_eq_true rfl) dJ5_append_3fe6f_18 ⟨(by show _ ≤ 1; omega), (by show _ ≤ 1300; omega)⟩ (fun v9 bs9 H locs hp hP hD hS => ?_)
  obtain ⟨rfl, rfl⟩ := hp
  have hP : va_P E.1 vwCl [(b2, .inl (E.2.2.2.1, (sb_cap (n + 1) mm), .inl f2)), (a, .inr (10, [.ref b2, .int 0, .int 0, .int (nI n)]))] _ := hP
  have hD : va_D A [(b2, .inl (E.2.2.2.1, (sb_cap (n + 1) mm), .inl f2)), (a, .inr (10, [.ref b2, .int 0, .int 0, .int (nI n)]))] := hD
  refine lv_if_eq (tgt := 45) hx hb dJ5_append_3fe6f_21 (by decide) (fun cq => absurd cq (by decide)) (fun cq => ?_)
  refine lv_aload_n hx hb dJ5_append_3fe6f_24 rfl (lv_at hl 0 rfl) ?_
  refine va_get (D := E.1) (ci := 10) (C := RJ4) (T := TJ4) (N := 4) hx hb hg inG_J4 hown hK.1 hP 1 rfl rfl 0 (by decide) (hg _ mf_J5_15) (fun _ h => h) rfl dJ5_append_3fe6f_25 ?_
  refine lv_aload_n hx hb dJ5_append_3fe6f_28 rfl (lv_at hl 0 rfl) ?_
  refine lv_dup hx hb dJ5_append_3fe6f_29 rfl ?_
  refine va_get (D := E.1) (ci := 10) (C := RJ4) (T := TJ4) (N := 4) hx hb hg inG_J4 hown hK.1 hP 1 rfl rfl 3 (by decide) (hg _ mf_J5_79) (fun _ h => h) rfl dJ5_append_3fe6f_30 ?_
  refine lv_dup_x1 hx hb dJ5_append_3fe6f_33 rfl rfl ?_
  refine lv_iconst (v := 1) hx hb dJ5_append_3fe6f_34 (by decide) ?_
  refine lv_iadd hx hb dJ5_append_3fe6f_35 ?_
  rw [nI_1]
  refine va_put (D := E.1) (ci := 10) (v := .int (nI (n + 1))) (ty := .int) (C := RJ4) (T := TJ4) (N := 4) hx hb hg inG_J4 tyJ4 tyJ4_ok nmJ4 hown hK.1 hP hD hS 1 rfl rfl 3 (by decide) (hg _ mf_J5_79) (fun _ h => h) rfl (by decide +kernel) rfl rfl (Nat.le_of_ble_eq_true rfl) dJ5_append_3fe6f_36 (fun H locs hP hD hS => ?_)
  have hP : va_P E.1 vwCl [(b2, .inl (E.2.2.2.1, (sb_cap (n + 1) mm), .inl f2)), (a, .inr (10, [.ref b2, .int 0, .int 0, .int (nI (n + 1))]))] _ := hP
  have hD : va_D A [(b2, .inl (E.2.2.2.1, (sb_cap (n + 1) mm), .inl f2)), (a, .inr (10, [.ref b2, .int 0, .int 0, .int (nI (n + 1))]))] := hD
  refine lv_iload_n hx hb dJ5_append_3fe6f_39 rfl (lv_at hl 1 rfl) ?_
  refine lv_i2b (v := Int8.toInt32 (Int32.toInt8 (nI ch))) hx hb dJ5_append_3fe6f_40 rfl ?_
  refine ab_st (w2 := [(b2, .inl (E.2.2.2.1, (sb_cap (n + 1) mm), .inl (upd f2 (Int32.toNatClampNeg (nI n)) (Int8.toInt32 (Int32.toInt8 (nI ch)))))), (a, .inr (10, [.ref b2, .int 0, .int 0, .int (nI (n + 1))]))]) hx hb hK hP hD hS 0 rfl (vp_in_nI (by omega) (by omega)) (pk_vb _) rfl dJ5_append_3fe6f_41 (fun H locs hP hD hS => ?_)
  refine lv_goto (tgt := 75) hx hb dJ5_append_3fe6f_42 (by decide) ?_
  refine lv_aload_n hx hb dJ5_append_3fe6f_75 rfl (lv_at hl 0 rfl) ?_
  have hP : va_P E.1 vwCl [(a, .inr (10, [.ref b2, .int 0, .int 0, .int (nI (n + 1))])), (b2, .inl (E.2.2.2.1, (sb_cap (n + 1) mm), .inl (upd f2 (Int32.toNatClampNeg (nI n)) (Int8.toInt32 (Int32.toInt8 (nI ch))))))] _ := hP.sub [1, 0] rfl
  have hD : va_D A [(a, .inr (10, [.ref b2, .int 0, .int 0, .int (nI (n + 1))])), (b2, .inl (E.2.2.2.1, (sb_cap (n + 1) mm), .inl (upd f2 (Int32.toNatClampNeg (nI n)) (Int8.toInt32 (Int32.toInt8 (nI ch))))))] := hD.sub [1, 0] rfl rfl
  exact pm_aret hx hb hr (Or.inl ⟨_, rfl⟩) hlocks ⟨b2, _, _, rfl, hcap.1, hcap.2.2, sb_latPut hL (fun j hj => by rw [nI_clamp (by omega), pk_un (by omega)]; exact hk2 j (by omega)) (fun k hk => by obtain rfl : k = 0 := (by omega); rw [nI_clamp (by omega)]; exact ⟨hch, pk_us⟩), sb_fitU hf2 (sb_fitB ch), rfl⟩ hP hD hS dJ5_append_3fe6f_76 (by omega) (by omega)
set_option maxHeartbeats 4000000 in
set_option maxRecDepth 100000 in
theorem j_apH (E : Ev) (l : Launch) (a b mm n ch : Nat) (f : Nat → Int32) (t : Nat → Nat) (hch : ch < 256) (hnm : n ≤ mm) (hm : mm ≤ 602) (hq : n + 1 ≤ 300) (hL : sb_Lat t n f) (hf : sb_Fit f) : PM E l yJ4_append_cf468 (.code yJ4_append_cf468 cJ4_append_cf468 2 (some (.object "java/lang/StringBuilder")) :: GA) { frames := 5, cells := 1, slots := 1300, locals := 135 } [.ref a, .int (nI ch)] [(a, .inr (10, [.ref b, .int 0, .int 0, .int (nI n)])), (b, .inl (E.2.2.2.1, mm, .inl f))] 1 1300 (fun v bs => ∃ (b2 m2 : Nat) (f2 : Nat → Int32), v = some (.ref a) ∧ n + 1 ≤ m2 ∧ m2 ≤ 602 ∧ sb_Lat (sb_cat t n (fun _ => ch)) (n + 1) f2 ∧ sb_Fit f2 ∧ bs = [(a, .inr (10, [.ref b2, .int 0, .int 0, .int (nI (n + 1))])), (b2, .inl (E.2.2.2.1, m2, .inl f2))]) := by
  refine PM.of (own := RJ4) rfl (by decide) (Nat.le_of_ble_eq_true rfl) ?_
  intro p e s m below meth c A ls hx hb hr hml hown hg hlocks hin hK hE hO hA hP hD hS hl
  have hl : lv_has ls 2 [(0, .ref a), (1, .int (nI ch))] := hl
  refine lv_aload_n hx hb dJ4_append_cf468_0 rfl (lv_at hl 0 rfl) ?_
  refine lv_iload_n hx hb dJ4_append_cf468_1 rfl (lv_at hl 1 rfl) ?_
  refine pm_SU (n := 1) (As := [.int (nI ch)]) (rest := []) (wr := []) (bs := [(a, .inr (10, [.ref b, .int 0, .int 0, .int (nI n)])), (b, .inl (E.2.2.2.1, mm, .inl f))]) hx hb hml hown hg (j_ap5H E l a b mm n ch f t hch hnm hm hq hL hf) cx_J5_append_3fe6f sm_J5_append_3fe6f sup_J4 ini_J5 (by decide +kernel) ml_J4_50 ⟨⟨rfl, rfl⟩, Nat.le_of_ble_eq_true rfl, Nat.le_of_ble_eq_true rfl⟩ hK hE hO hP hD hS hA 0 rfl rfl rfl hl.1 rfl (Nat.le_of_ble_eq_true rfl) dJ4_append_cf468_2 ⟨(by show _ ≤ 1; omega), (by show _ ≤ 1300; omega)⟩ (fun v9 bs9 H locs hp hP hD hS => ?_)
  obtain ⟨b2, m2, f2, rfl, h1, h2, h3, h4, rfl⟩ := hp
  have hP : va_P E.1 vwCl [(a, .inr (10, [.ref b2, .int 0, .int 0, .int (nI (n + 1))])), (b2, .inl (E.2.2.2.1, m2, .inl f2))] _ := hP
  have hD : va_D A [(a, .inr (10, [.ref b2, .int 0, .int 0, .int (nI (n + 1))])), (b2, .inl (E.2.2.2.1, m2, .inl f2))] := hD
  refine lv_pop hx hb dJ4_append_cf468_5 rfl ?_
  refine lv_aload_n hx hb dJ4_append_cf468_6 rfl (lv_at hl 0 rfl) ?_
  exact pm_aret hx hb hr (Or.inl ⟨_, rfl⟩) hlocks ⟨b2, m2, f2, rfl, h1, h2, h3, h4, rfl⟩ hP hD hS dJ4_append_cf468_7 (by omega) (by omega)
