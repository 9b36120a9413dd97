def J_K_goes_609 (rec_10 : Int64 → Int32 → Int32 → KV → Option (Int32 × KV)) (x1 : Int64) (x3 : Int32) (x4 : Int32) (vK : KV) : Option (Int32 × KV) := (rec_10 x1 x3 (x4 + 1) vK)
def J_K_goes_607 (rec_10 : Int64 → Int32 → Int32 → KV → Option (Int32 × KV)) (x1 : Int64) (x4 : Int32) (vK : KV) : Option (Int32 × KV) := (J_K_goes_609 rec_10 x1 0 x4 vK)
def J_K_goes_536 (rec_10 : Int64 → Int32 → Int32 → KV → Option (Int32 × KV)) (x1 : Int64) (x3 : Int32) (x4 : Int32) (x5 : Int32) (vK : KV) : Option (Int32 × KV) := (if x3 = 0 then (J_K_goes_607 rec_10 x1 x4 vK) else (F_X8_entryCount (vK.1) (vK.2.2.1) (vK.2.2.2.2.2.1)).bind (fun u1 => (if u1 = (x5 + 1) then (F_K_call__ vK 30 x5).bind (fun u2 => (F_X8_minute (u2.2.1) (u2.2.2.2.1)).bind (fun u3 => (if u2.1 = u3 then (F_K_call__ u2.2 31 x5).bind (fun u4 => (if u4.1 = x4 then (F_X8_yawn (u4.2.1) (u4.2.2.2.1) (u4.2.2.2.2.2.2.1)).bind (fun u5 => (if u5 = 0 then (F_K_register u4.2).bind (fun u6 => (if u6.1 = 0 then (J_K_goes_607 rec_10 x1 x4 u6.2) else (F_K_call__ u6.2 8 0).bind (fun u7 => (if u7.1 < 0 then (J_K_goes_607 rec_10 x1 x4 u7.2) else (J_K_goes_609 rec_10 x1 1 x4 u7.2))))) else (J_K_goes_607 rec_10 x1 x4 u4.2))) else (J_K_goes_607 rec_10 x1 x4 u4.2))) else (J_K_goes_607 rec_10 x1 x4 u2.2)))) else (J_K_goes_607 rec_10 x1 x4 vK))))
def J_K_goes_230 (rec_10 : Int64 → Int32 → Int32 → KV → Option (Int32 × KV)) (x1 : Int64) (x4 : Int32) (x5 : Int32) (vK : KV) : Option (Int32 × KV) := (J_K_goes_536 rec_10 x1 0 x4 x5 vK)
def J_K_goes_202 (rec_10 : Int64 → Int32 → Int32 → KV → Option (Int32 × KV)) (x1 : Int64) (x4 : Int32) (x5 : Int32) (vK : KV) : Option (Int32 × KV) := (F_K_call__ vK 29 x4).bind (fun u1 => (if u1.1 = (-101) then (F_K_call__ u1.2 32 x5).bind (fun u2 => (if u2.1 = 0 then (J_K_goes_536 rec_10 x1 1 x4 x5 u2.2) else (J_K_goes_230 rec_10 x1 x4 x5 u2.2))) else (J_K_goes_230 rec_10 x1 x4 x5 u1.2)))
def J_K_goes_103 (rec_10 : Int64 → Int32 → Int32 → KV → Option (Int32 × KV)) (x1 : Int64) (x4 : Int32) (x5 : Int32) (x6 : Int32) (x7 : Int32) (x8 : Int32) (x9 : Int32) (t0 : Int32) (vK : KV) : Option (Int32 × KV) := (F_K_call__ vK 3 x4).bind (fun u1 => (if x5 = 60 then (if t0 = 0 then (J_K_goes_609 rec_10 x1 0 x4 u1.2) else (if u1.1 = (-102) then (J_K_goes_609 rec_10 x1 1 x4 u1.2) else (J_K_goes_609 rec_10 x1 0 x4 u1.2))) else (if t0 = 0 then (J_K_goes_230 rec_10 x1 x4 x5 u1.2) else (if u1.1 = x8 then (F_X8_tips (u1.2.1) (u1.2.2.2.1)).bind (fun u2 => (if u2 = (x7 + x8) then (F_K_call__ u1.2 20 x4).bind (fun u3 => (if u3.1 = 0 then (F_X8_keysAtDesk (u3.2.1) (u3.2.2.2.1) (u3.2.2.2.2.1)).bind (fun u4 => (if u4 = (x6 - 1) then (if x9 < 0 then (J_K_goes_202 rec_10 x1 x4 x5 u3.2) else (F_K_call__ u3.2 26 x9).bind (fun u5 => (if u5.1 = 1 then (J_K_goes_202 rec_10 x1 x4 x5 u5.2) else (J_K_goes_230 rec_10 x1 x4 x5 u5.2)))) else (J_K_goes_230 rec_10 x1 x4 x5 u3.2))) else (J_K_goes_230 rec_10 x1 x4 x5 u3.2))) else (J_K_goes_230 rec_10 x1 x4 x5 u1.2))) else (J_K_goes_230 rec_10 x1 x4 x5 u1.2)))))
def J_K_goes_366 (rec_10 : Int64 → Int32 → Int32 → KV → Option (Int32 × KV)) (rec_257 : Int64 → Int32 → Int32 → Int32 → Int32 → Int32 → Int32 → Int32 → KV → Option (Int32 × KV)) (x1 : Int64) (x4 : Int32) (x5 : Int32) (x6 : Int32) (x7 : Int32) (x8 : Int32) (x9 : Int32) (x10 : Int32) (vK : KV) : Option (Int32 × KV) := (rec_257 x1 x4 x5 x6 x7 x8 x9 (x10 + (-1)) vK)
def J_K_goes_362 (rec_10 : Int64 → Int32 → Int32 → KV → Option (Int32 × KV)) (rec_257 : Int64 → Int32 → Int32 → Int32 → Int32 → Int32 → Int32 → Int32 → KV → Option (Int32 × KV)) (x1 : Int64) (x4 : Int32) (x5 : Int32) (x6 : Int32) (x7 : Int32) (x8 : Int32) (x10 : Int32) (vK : KV) : Option (Int32 × KV) := (J_K_goes_366 rec_10 rec_257 x1 x4 x5 x6 x7 x8 x10 x10 vK)
def J_K_goes_326 (rec_10 : Int64 → Int32 → Int32 → KV → Option (Int32 × KV)) (rec_257 : Int64 → Int32 → Int32 → Int32 → Int32 → Int32 → Int32 → Int32 → KV → Option (Int32 × KV)) (x1 : Int64) (x4 : Int32) (x5 : Int32) (x6 : Int32) (x7 : Int32) (x8 : Int32) (x9 : Int32) (x10 : Int32) (x11 : Int32) (t0 : Int32) (vK : KV) : Option (Int32 × KV) := (if x9 < 0 then (J_K_goes_362 rec_10 rec_257 x1 x4 x5 x6 x7 x8 x10 vK) else (if x11 = 0 then (if t0 = 0 then (F_K_call__ vK 25 x10).bind (fun u1 => (F_K_call__ u1.2 25 x9).bind (fun u2 => (if u2.1 < u1.1 then (J_K_goes_366 rec_10 rec_257 x1 x4 x5 x6 x7 x8 x9 x10 u2.2) else (J_K_goes_362 rec_10 rec_257 x1 x4 x5 x6 x7 x8 x10 u2.2)))) else (J_K_goes_366 rec_10 rec_257 x1 x4 x5 x6 x7 x8 x9 x10 vK)) else (J_K_goes_362 rec_10 rec_257 x1 x4 x5 x6 x7 x8 x10 vK)))
def J_K_goes_301 (rec_10 : Int64 → Int32 → Int32 → KV → Option (Int32 × KV)) (rec_257 : Int64 → Int32 → Int32 → Int32 → Int32 → Int32 → Int32 → Int32 → KV → Option (Int32 × KV)) (x1 : Int64) (x4 : Int32) (x5 : Int32) (x6 : Int32) (x7 : Int32) (x8 : Int32) (x9 : Int32) (x10 : Int32) (t0 : Int32) (vK : KV) : Option (Int32 × KV) := (if x9 < 0 then (J_K_goes_326 rec_10 rec_257 x1 x4 x5 x6 x7 x8 x9 x10 t0 0 vK) else (F_K_call__ vK 24 x9).bind (fun u1 => (if u1.1 = x4 then (J_K_goes_326 rec_10 rec_257 x1 x4 x5 x6 x7 x8 x9 x10 t0 1 u1.2) else (J_K_goes_326 rec_10 rec_257 x1 x4 x5 x6 x7 x8 x9 x10 t0 0 u1.2))))
def J_K_goes_534 (rec_10 : Int64 → Int32 → Int32 → KV → Option (Int32 × KV)) (x1 : Int64) (x4 : Int32) (x5 : Int32) (vK : KV) : Option (Int32 × KV) := (J_K_goes_536 rec_10 x1 0 x4 x5 vK)
def J_K_goes_408 (rec_10 : Int64 → Int32 → Int32 → KV → Option (Int32 × KV)) (x1 : Int64) (x4 : Int32) (x5 : Int32) (x6 : Int32) (x7 : Int32) (x8 : Int32) (t0 : Int32) (vK : KV) : Option (Int32 × KV) := (F_K_call__ vK 2 x4).bind (fun u1 => (if x5 = 60 then (if t0 = 0 then (J_K_goes_609 rec_10 x1 0 x4 u1.2) else (if u1.1 = (-102) then (J_K_goes_609 rec_10 x1 1 x4 u1.2) else (J_K_goes_609 rec_10 x1 0 x4 u1.2))) else (if t0 = 0 then (J_K_goes_534 rec_10 x1 x4 x5 u1.2) else (if u1.1 = (x6 + 1) then (F_K_call__ u1.2 20 x4).bind (fun u2 => (if u2.1 = 1 then (F_K_call__ u2.2 21 x4).bind (fun u3 => (F_X8_minute (u3.2.1) (u3.2.2.2.1)).bind (fun u4 => (if u3.1 = u4 then (F_K_call__ u3.2 29 x4).bind (fun u5 => (if u5.1 = x8 then (F_K_call__ u5.2 22 x4).bind (fun u6 => (if u6.1 = 0 then (F_X8_tips (u6.2.1) (u6.2.2.2.1)).bind (fun u7 => (if u7 = x7 then (F_K_call__ u6.2 32 x5).bind (fun u8 => (if u8.1 = 1 then (J_K_goes_536 rec_10 x1 1 x4 x5 u8.2) else (J_K_goes_534 rec_10 x1 x4 x5 u8.2))) else (J_K_goes_534 rec_10 x1 x4 x5 u6.2))) else (J_K_goes_534 rec_10 x1 x4 x5 u6.2))) else (J_K_goes_534 rec_10 x1 x4 x5 u5.2))) else (J_K_goes_534 rec_10 x1 x4 x5 u3.2)))) else (J_K_goes_534 rec_10 x1 x4 x5 u2.2))) else (J_K_goes_534 rec_10 x1 x4 x5 u1.2)))))
def J_K_goes_372 (rec_10 : Int64 → Int32 → Int32 → KV → Option (Int32 × KV)) (x1 : Int64) (x4 : Int32) (x5 : Int32) (x6 : Int32) (x7 : Int32) (x8 : Int32) (x9 : Int32) (vK : KV) : Option (Int32 × KV) := (if x8 = x9 then (F_K_call__ vK 3 x4).bind (fun u1 => (if u1.1 = (-102) then (F_K_call__ u1.2 5 x4).bind (fun u2 => (if u2.1 = (-102) then (J_K_goes_408 rec_10 x1 x4 x5 x6 x7 x8 1 u2.2) else (J_K_goes_408 rec_10 x1 x4 x5 x6 x7 x8 0 u2.2))) else (J_K_goes_408 rec_10 x1 x4 x5 x6 x7 x8 0 u1.2))) else (J_K_goes_408 rec_10 x1 x4 x5 x6 x7 x8 0 vK))
def B_K_goes_257 (rec_10 : Int64 → Int32 → Int32 → KV → Option (Int32 × KV)) (rec_257 : Int64 → Int32 → Int32 → Int32 → Int32 → Int32 → Int32 → Int32 → KV → Option (Int32 × KV)) (x1 : Int64) (x4 : Int32) (x5 : Int32) (x6 : Int32) (x7 : Int32) (x8 : Int32) (x9 : Int32) (x10 : Int32) (vK : KV) : Option (Int32 × KV) := (if x10 < 0 then (J_K_goes_372 rec_10 x1 x4 x5 x6 x7 x8 x9 vK) else (F_X8_rain (vK.1) (vK.2.2.1)).bind (fun u1 => (if u1 ≤ 0 then (J_K_goes_372 rec_10 x1 x4 x5 x6 x7 x8 x9 vK) else (F_K_call__ vK 27 x10).bind (fun u2 => (if u2.1 = 0 then (J_K_goes_366 rec_10 rec_257 x1 x4 x5 x6 x7 x8 x9 x10 u2.2) else (F_K_call__ u2.2 24 x10).bind (fun u3 => (if u3.1 = x4 then (J_K_goes_301 rec_10 rec_257 x1 x4 x5 x6 x7 x8 x9 x10 1 u3.2) else (J_K_goes_301 rec_10 rec_257 x1 x4 x5 x6 x7 x8 x9 x10 0 u3.2))))))))
def L_K_goes_257 (rec_10 : Int64 → Int32 → Int32 → KV → Option (Int32 × KV)) : Nat → Int64 → Int32 → Int32 → Int32 → Int32 → Int32 → Int32 → Int32 → KV → Option (Int32 × KV)
  | 0 => fun _ _ _ _ _ _ _ _ _ => none
  | n + 1 => fun x1 x4 x5 x6 x7 x8 x9 x10 vK => B_K_goes_257 rec_10 (L_K_goes_257 rec_10 n) x1 x4 x5 x6 x7 x8 x9 x10 vK
def J_K_goes_615 (x1 : Int64) (x3 : Int32) (vK : KV) : Option (Int32 × KV) := (if x3 = 0 then (some (0, vK)) else (F_K_state vK).bind (fun u1 => (if (lg_cmp u1.1 x1) = 0 then (some (1, u1.2)) else (some (0, u1.2)))))
def B_K_goes_10 (rec_10 : Int64 → Int32 → Int32 → KV → Option (Int32 × KV)) (x1 : Int64) (x3 : Int32) (x4 : Int32) (vK : KV) : Option (Int32 × KV) := (F_X8_guestCount (vK.1) (vK.2.2.1) (vK.2.2.2.1)).bind (fun u1 => (if u1 ≤ x4 then (J_K_goes_615 x1 x3 vK) else (if x3 = 0 then (J_K_goes_615 x1 x3 vK) else (F_X8_entryCount (vK.1) (vK.2.2.1) (vK.2.2.2.2.2.1)).bind (fun u2 => (F_X8_keysAtDesk (vK.1) (vK.2.2.1) (vK.2.2.2.1)).bind (fun u3 => (F_X8_tips (vK.1) (vK.2.2.1)).bind (fun u4 => (F_K_call__ vK 20 x4).bind (fun u5 => (if u5.1 = 1 then (F_K_call__ u5.2 40 x4).bind (fun u8 => (F_K_call__ u8.2 29 x4).bind (fun u9 => (F_K_call__ u9.2 2 x4).bind (fun u10 => (if u10.1 = (-102) then (F_K_call__ u10.2 39 x4).bind (fun u11 => (if u11.1 = (-102) then (J_K_goes_103 rec_10 x1 x4 u2 u3 u4 u8.1 u9.1 1 u11.2) else (J_K_goes_103 rec_10 x1 x4 u2 u3 u4 u8.1 u9.1 0 u11.2))) else (J_K_goes_103 rec_10 x1 x4 u2 u3 u4 u8.1 u9.1 0 u10.2))))) else (F_K_call__ u5.2 39 x4).bind (fun u6 => (F_X8_umbrellaCount (u6.2.1) (u6.2.2.2.1) (u6.2.2.2.2.2.1)).bind (fun u7 => (L_K_goes_257 rec_10 13 x1 x4 u2 u3 u4 u6.1 (-101) (u7 - 1) u6.2)))))))))))
def L_K_goes_10 : Nat → Int64 → Int32 → Int32 → KV → Option (Int32 × KV)
  | 0 => fun _ _ _ _ => none
  | n + 1 => fun x1 x3 x4 vK => B_K_goes_10 (L_K_goes_10 n) x1 x3 x4 vK
def F_K_goes (v0 : KV) : Option (Int32 × KV) := (F_K_state v0).bind (fun u1 => (L_K_goes_10 11 u1.1 1 0 u1.2))
abbrev rm_L_goes : Room := { frames := 12, cells := 18564, slots := 6 * 18564, locals := 283 }
set_option maxHeartbeats 16000000 in
set_option maxRecDepth 100000 in
theorem c_K_goes (E : Ev) (l : Launch) (hst : l.stackTraces = false) (k : KA) (v0 : KV) (r : Int32 × KV) (hf : F_K_goes v0 = some r) : LM E l yL_goes (.code yL_goes cL_goes 13 (some .boolean) :: GA) rm_L_goes [.ref k.1] (W_K E k v0) (some (.int r.1)) (W_K E k r.2) 18564 := by
  refine LM.of0 (own := RL) rfl (by decide) (Nat.le_of_ble_eq_true rfl) ?_
  intro p e s m below meth c A ls hx hb hr hml hown hg hlocks hK hE hN hA hP hD hS hl
  have hl : lv_has ls 13 [(0, .ref k.1)] := hl
  have jp_615 : ∀ (x1 : Int64) (x3 : Int32) (vK : KV) (cs : Nat) (H : Heap) (locs : List Loc) (ls : Array Slot), J_K_goes_615 x1 x3 vK = some r → cs + 1197 ≤ 18564 → va_P E.1 vwCl (W_K E k vK ++ []) H → va_D A (W_K E k vK ++ []) → va_S A s.heap H locs → lv_has ls 13 [(0, .ref k.1), (1, .long x1), (3, .int x3)] → W p l e rm_L_goes s m ([.ref k.1] : List Value).toArray below meth c H locs cs (6 * cs) (vx_MQ below (QW E (some (.int r.1)) (W_K E k r.2) A) (fun _ _ _ => False) ([.ref k.1] : List Value).toArray s 18564 (6 * 18564) A) (F0 m 615 ls []) := by
    intro x1 x3 vK cs H locs ls hf hc hP hD hS hl
    unfold J_K_goes_615 at hf
    refine lv_iload_n hx hb dL_goes_615 rfl (lv_at hl 2 rfl) ?_
    refine lv_if_eq (tgt := 632) hx hb dL_goes_616 (by decide) (fun cq => ?_) (fun cq => ?_)
    · have hf := it cq hf
      refine lv_iconst (v := 0) hx hb dL_goes_632 (by decide) ?_
      obtain rfl := Option.some.inj hf
      exact lm_yret (v := 0) hx hb hr rfl hlocks (lk_P1 hP) hS dL_goes_633 (by omega) (by omega)
    · have hf := ie cq hf
      refine lv_aload_n hx hb dL_goes_619 rfl (lv_at hl 0 rfl) ?_
      obtain ⟨u1, hu1, hf⟩ := bn hf
      refine lk_S (As := [.ref k.1]) (rest := []) (wr := []) hx hb hml hown hg (c_K_state E l hst k vK u1 hu1) cs_L_state ml_L_284 ⟨⟨rfl, rfl⟩, Nat.le_of_ble_eq_true rfl, Nat.le_of_ble_eq_true rfl⟩ hK hE hN hP hD hS hA (W_Ka E k _ _) rfl hl.1 rfl (Nat.le_of_ble_eq_true rfl) dL_goes_620 ⟨by show _ ≤ 18564; omega, by show _ ≤ 6 * 18564; omega⟩ [.long u1.1] rfl (fun H locs hP hD hS => ?_)
      refine lv_lload_n hx hb dL_goes_623 rfl (lv_at hl 1 rfl) ?_
      refine W.lcmp hx hb dL_goes_624 ?_
      refine lv_if_ne (tgt := 632) hx hb dL_goes_625 (by decide) (fun cq => ?_) (fun cq => ?_)
      · have hf := ie cq hf
        refine lv_iconst (v := 0) hx hb dL_goes_632 (by decide) ?_
        obtain rfl := Option.some.inj hf
        exact lm_yret (v := 0) hx hb hr rfl hlocks (lk_P1 hP) hS dL_goes_633 (by omega) (by omega)
      · have hf := it cq hf
        refine lv_iconst (v := 1) hx hb dL_goes_628 (by decide) ?_
        refine lv_goto (tgt := 633) hx hb dL_goes_629 (by decide) ?_
        obtain rfl := Option.some.inj hf
        exact lm_yret (v := 1) hx hb hr rfl hlocks (lk_P1 hP) hS dL_goes_633 (by omega) (by omega)
  have lp_10 : ∀ (n : Nat) (x1 : Int64) (x3 : Int32) (x4 : Int32) (vK : KV) (cs : Nat) (H : Heap) (locs : List Loc) (ls : Array Slot), L_K_goes_10 n x1 x3 x4 vK = some r → cs + n * 1470 + 1197 ≤ 18564 → va_P E.1 vwCl (W_K E k vK ++ []) H → va_D A (W_K E k vK ++ []) → va_S A s.heap H locs → lv_has ls 13 [(0, .ref k.1), (1, .long x1), (3, .int x3), (4, .int x4)] → W p l e rm_L_goes s m ([.ref k.1] : List Value).toArray below meth c H locs cs (6 * cs) (vx_MQ below (QW E (some (.int r.1)) (W_K E k r.2) A) (fun _ _ _ => False) ([.ref k.1] : List Value).toArray s 18564 (6 * 18564) A) (F0 m 10 ls []) := by
    intro n_10
    induction n_10 with
    | zero => intro x1 x3 x4 vK cs H locs ls hf; cases hf
    | succ n_10 ih_10 =>
      have jp_609 : ∀ (x1 : Int64) (x3 : Int32) (x4 : Int32) (vK : KV) (cs : Nat) (H : Heap) (locs : List Loc) (ls : Array Slot), J_K_goes_609 (L_K_goes_10 n_10) x1 x3 x4 vK = some r → cs + 0 + (n_10 * 1470 + 1197) ≤ 18564 → va_P E.1 vwCl (W_K E k vK ++ []) H → va_D A (W_K E k vK ++ []) → va_S A s.heap H locs → lv_has ls 13 [(0, .ref k.1), (1, .long x1), (3, .int x3), (4, .int x4)] → W p l e rm_L_goes s m ([.ref k.1] : List Value).toArray below meth c H locs cs (6 * cs) (vx_MQ below (QW E (some (.int r.1)) (W_K E k r.2) A) (fun _ _ _ => False) ([.ref k.1] : List Value).toArray s 18564 (6 * 18564) A) (F0 m 609 ls []) := by
        intro x1 x3 x4 vK cs H locs ls hf hc hP hD hS hl
        unfold J_K_goes_609 at hf
        refine lv_iinc (v := (x4 + 1)) (lv' := [(4, .int (x4 + 1)), (0, .ref k.1), (1, .long x1), (3, .int x3)]) hx hb dL_goes_609 hl (k := 3) rfl rfl (by decide) rfl (fun ls hl => ?_)
        refine lv_goto (tgt := 10) hx hb dL_goes_612 (by decide) ?_
        exact ih_10 _ _ _ _ _ _ _ _ hf (by omega) hP hD hS (lv_sub hl [1, 2, 3, 0] rfl)
      have jp_607 : ∀ (x1 : Int64) (x4 : Int32) (vK : KV) (cs : Nat) (H : Heap) (locs : List Loc) (ls : Array Slot), J_K_goes_607 (L_K_goes_10 n_10) x1 x4 vK = some r → cs + 0 + (n_10 * 1470 + 1197) ≤ 18564 → va_P E.1 vwCl (W_K E k vK ++ []) H → va_D A (W_K E k vK ++ []) → va_S A s.heap H locs → lv_has ls 13 [(0, .ref k.1), (1, .long x1), (4, .int x4)] → W p l e rm_L_goes s m ([.ref k.1] : List Value).toArray below meth c H locs cs (6 * cs) (vx_MQ below (QW E (some (.int r.1)) (W_K E k r.2) A) (fun _ _ _ => False) ([.ref k.1] : List Value).toArray s 18564 (6 * 18564) A) (F0 m 607 ls []) := by
        intro x1 x4 vK cs H locs ls hf hc hP hD hS hl
        unfold J_K_goes_607 at hf
        refine lv_iconst (v := 0) hx hb dL_goes_607 (by decide) ?_
        refine lv_istore_n (lv' := [(3, .int 0), (0, .ref k.1), (1, .long x1), (4, .int x4)]) hx hb dL_goes_608 rfl hl (by decide) rfl (fun ls hl => ?_)
        exact jp_609 _ _ _ _ _ _ _ _ hf (by omega) hP hD hS (lv_sub hl [1, 2, 0, 3] rfl)
      have jp_536 : ∀ (x1 : Int64) (x3 : Int32) (x4 : Int32) (x5 : Int32) (vK : KV) (cs : Nat) (H : Heap) (locs : List Loc) (ls : Array Slot), J_K_goes_536 (L_K_goes_10 n_10) x1 x3 x4 x5 vK = some r → cs + 1245 + (n_10 * 1470 + 1197) ≤ 18564 → va_P E.1 vwCl (W_K E k vK ++ []) H → va_D A (W_K E k vK ++ []) → va_S A s.heap H locs → lv_has ls 13 [(0, .ref k.1), (1, .long x1), (3, .int x3), (4, .int x4), (5, .int x5)] → W p l e rm_L_goes s m ([.ref k.1] : List Value).toArray below meth c H locs cs (6 * cs) (vx_MQ below (QW E (some (.int r.1)) (W_K E k r.2) A) (fun _ _ _ => False) ([.ref k.1] : List Value).toArray s 18564 (6 * 18564) A) (F0 m 536 ls []) := by
        intro x1 x3 x4 x5 vK cs H locs ls hf hc hP hD hS hl
        unfold J_K_goes_536 at hf
        refine lv_iload_n hx hb dL_goes_536 rfl (lv_at hl 2 rfl) ?_
        refine lv_if_eq (tgt := 607) hx hb dL_goes_537 (by decide) (fun cq => ?_) (fun cq => ?_)
        · have hf := it cq hf
          exact jp_607 _ _ _ _ _ _ _ hf (by omega) hP hD hS (lv_sub hl [0, 1, 3] rfl)
        · have hf := ie cq hf
          refine lv_aload_n hx hb dL_goes_540 rfl (lv_at hl 0 rfl) ?_
          obtain ⟨u1, hu1, hf⟩ := bn hf
          refine lk_V (As := []) (rest := []) (wr := []) hx hb hml hown hg (k_X8_entryCount E l k vK u1 hu1) cy_X8_entryCount ml_L_249 ⟨⟨rfl, rfl⟩, Nat.le_of_ble_eq_true rfl, Nat.le_of_ble_eq_true rfl⟩ hK hE hP hD hS hA (W_Ka E k _ _) rfl rfl rfl hl.1 rfl (Nat.le_of_ble_eq_true rfl) dL_goes_541 ⟨by show _ ≤ 18564; omega, by show _ ≤ 6 * 18564; omega⟩ [.int u1] rfl (fun H locs hP hD hS => ?_)
          refine lv_iload hx hb dL_goes_544 (lv_at hl 4 rfl) ?_
          refine lv_iconst (v := 1) hx hb dL_goes_546 (by decide) ?_
          refine lv_iadd hx hb dL_goes_547 ?_
          refine lv_icmp_ne (tgt := 607) hx hb dL_goes_548 (by decide) (fun cq => ?_) (fun cq => ?_)
          · have hf := ie cq hf
            exact jp_607 _ _ _ _ _ _ _ hf (by omega) hP hD hS (lv_sub hl [0, 1, 3] rfl)
          · have hf := it cq hf
            refine lv_aload_n hx hb dL_goes_551 rfl (lv_at hl 0 rfl) ?_
            refine lv_bipush (v := 30) hx hb dL_goes_552 (by decide) ?_
            refine lv_iload hx hb dL_goes_554 (lv_at hl 4 rfl) ?_
            obtain ⟨u2, hu2, hf⟩ := bn hf
            refine lk_S (As := [.ref k.1, .int 30, .int x5]) (rest := []) (wr := []) hx hb hml hown hg (c_K_call__ E l hst k vK 30 x5 u2 hu2) cs_L_call__ ml_L_171 ⟨⟨rfl, rfl⟩, Nat.le_of_ble_eq_true rfl, Nat.le_of_ble_eq_true rfl⟩ hK hE hN hP hD hS hA (W_Ka E k _ _) rfl hl.1 rfl (Nat.le_of_ble_eq_true rfl) dL_goes_556 ⟨by show _ ≤ 18564; omega, by show _ ≤ 6 * 18564; omega⟩ [.int u2.1] rfl (fun H locs hP hD hS => ?_)
            refine lv_aload_n hx hb dL_goes_559 rfl (lv_at hl 0 rfl) ?_
            obtain ⟨u3, hu3, hf⟩ := bn hf
            refine lk_V (As := []) (rest := [.int u2.1]) (wr := []) hx hb hml hown hg (k_X8_minute E l k u2.2 u3 hu3) cy_X8_minute ml_L_218 ⟨⟨rfl, rfl⟩, Nat.le_of_ble_eq_true rfl, Nat.le_of_ble_eq_true rfl⟩ hK hE hP hD hS hA (W_Ka E k _ _) rfl rfl rfl hl.1 rfl (Nat.le_of_ble_eq_true rfl) dL_goes_560 ⟨by show _ ≤ 18564; omega, by show _ ≤ 6 * 18564; omega⟩ [.int u3, .int u2.1] rfl (fun H locs hP hD hS => ?_)
            refine lv_icmp_ne (tgt := 607) hx hb dL_goes_563 (by decide) (fun cq => ?_) (fun cq => ?_)
            · have hf := ie cq hf
              exact jp_607 _ _ _ _ _ _ _ hf (by omega) hP hD hS (lv_sub hl [0, 1, 3] rfl)
            · have hf := it cq hf
              refine lv_aload_n hx hb dL_goes_566 rfl (lv_at hl 0 rfl) ?_
              refine lv_bipush (v := 31) hx hb dL_goes_567 (by decide) ?_
              refine lv_iload hx hb dL_goes_569 (lv_at hl 4 rfl) ?_
              obtain ⟨u4, hu4, hf⟩ := bn hf
              refine lk_S (As := [.ref k.1, .int 31, .int x5]) (rest := []) (wr := []) hx hb hml hown hg (c_K_call__ E l hst k u2.2 31 x5 u4 hu4) cs_L_call__ ml_L_171 ⟨⟨rfl, rfl⟩, Nat.le_of_ble_eq_true rfl, Nat.le_of_ble_eq_true rfl⟩ hK hE hN hP hD hS hA (W_Ka E k _ _) rfl hl.1 rfl (Nat.le_of_ble_eq_true rfl) dL_goes_571 ⟨by show _ ≤ 18564; omega, by show _ ≤ 6 * 18564; omega⟩ [.int u4.1] rfl (fun H locs hP hD hS => ?_)
              refine lv_iload hx hb dL_goes_574 (lv_at hl 3 rfl) ?_
              refine lv_icmp_ne (tgt := 607) hx hb dL_goes_576 (by decide) (fun cq => ?_) (fun cq => ?_)
              · have hf := ie cq hf
                exact jp_607 _ _ _ _ _ _ _ hf (by omega) hP hD hS (lv_sub hl [0, 1, 3] rfl)
              · have hf := it cq hf
                refine lv_aload_n hx hb dL_goes_579 rfl (lv_at hl 0 rfl) ?_
                obtain ⟨u5, hu5, hf⟩ := bn hf
                refine lk_V (As := []) (rest := []) (wr := []) hx hb hml hown hg (k_X8_yawn E l k u4.2 u5 hu5) cy_X8_yawn ml_L_255 ⟨⟨rfl, rfl⟩, Nat.le_of_ble_eq_true rfl, Nat.le_of_ble_eq_true rfl⟩ hK hE hP hD hS hA (W_Ka E k _ _) rfl rfl rfl hl.1 rfl (Nat.le_of_ble_eq_true rfl) dL_goes_580 ⟨by show _ ≤ 18564; omega, by show _ ≤ 6 * 18564; omega⟩ [.int u5] rfl (fun H locs hP hD hS => ?_)
                refine lv_if_ne (tgt := 607) hx hb dL_goes_583 (by decide) (fun cq => ?_) (fun cq => ?_)
                · have hf := ie cq hf
                  exact jp_607 _ _ _ _ _ _ _ hf (by omega) hP hD hS (lv_sub hl [0, 1, 3] rfl)
                · have hf := it cq hf
                  refine lv_aload_n hx hb dL_goes_586 rfl (lv_at hl 0 rfl) ?_
                  obtain ⟨u6, hu6, hf⟩ := bn hf
                  refine lk_S (As := [.ref k.1]) (rest := []) (wr := []) hx hb hml hown hg (c_K_register E l hst k u4.2 u6 hu6) cs_L_register ml_L_288 ⟨⟨rfl, rfl⟩, Nat.le_of_ble_eq_true rfl, Nat.le_of_ble_eq_true rfl⟩ hK hE hN hP hD hS hA (W_Ka E k _ _) rfl hl.1 rfl (Nat.le_of_ble_eq_true rfl) dL_goes_587 ⟨by show _ ≤ 18564; omega, by show _ ≤ 6 * 18564; omega⟩ [.int u6.1] rfl (fun H locs hP hD hS => ?_)
                  refine lv_if_eq (tgt := 607) hx hb dL_goes_590 (by decide) (fun cq => ?_) (fun cq => ?_)
                  · have hf := it cq hf
                    exact jp_607 _ _ _ _ _ _ _ hf (by omega) hP hD hS (lv_sub hl [0, 1, 3] rfl)
                  · have hf := ie cq hf
                    refine lv_aload_n hx hb dL_goes_593 rfl (lv_at hl 0 rfl) ?_
                    refine lv_bipush (v := 8) hx hb dL_goes_594 (by decide) ?_
                    refine lv_iconst (v := 0) hx hb dL_goes_596 (by decide) ?_
                    obtain ⟨u7, hu7, hf⟩ := bn hf
                    refine lk_S (As := [.ref k.1, .int 8, .int 0]) (rest := []) (wr := []) hx hb hml hown hg (c_K_call__ E l hst k u6.2 8 0 u7 hu7) cs_L_call__ ml_L_171 ⟨⟨rfl, rfl⟩, Nat.le_of_ble_eq_true rfl, Nat.le_of_ble_eq_true rfl⟩ hK hE hN hP hD hS hA (W_Ka E k _ _) rfl hl.1 rfl (Nat.le_of_ble_eq_true rfl) dL_goes_597 ⟨by show _ ≤ 18564; omega, by show _ ≤ 6 * 18564; omega⟩ [.int u7.1] rfl (fun H locs hP hD hS => ?_)
                    refine lv_if_lt (tgt := 607) hx hb dL_goes_600 (by decide) (fun cq => ?_) (fun cq => ?_)
                    · have hf := it cq hf
                      exact jp_607 _ _ _ _ _ _ _ hf (by omega) hP hD hS (lv_sub hl [0, 1, 3] rfl)
                    · have hf := ie cq hf
                      refine lv_iconst (v := 1) hx hb dL_goes_603 (by decide) ?_
                      refine lv_goto (tgt := 608) hx hb dL_goes_604 (by decide) ?_
                      refine lv_istore_n (lv' := [(3, .int 1), (0, .ref k.1), (1, .long x1), (4, .int x4), (5, .int x5)]) hx hb dL_goes_608 rfl hl (by decide) rfl (fun ls hl => ?_)
                      exact jp_609 _ _ _ _ _ _ _ _ hf (by omega) hP hD hS (lv_sub hl [1, 2, 0, 3] rfl)
      have jp_230 : ∀ (x1 : Int64) (x4 : Int32) (x5 : Int32) (vK : KV) (cs : Nat) (H : Heap) (locs : List Loc) (ls : Array Slot), J_K_goes_230 (L_K_goes_10 n_10) x1 x4 x5 vK = some r → cs + 1245 + (n_10 * 1470 + 1197) ≤ 18564 → va_P E.1 vwCl (W_K E k vK ++ []) H → va_D A (W_K E k vK ++ []) → va_S A s.heap H locs → lv_has ls 13 [(0, .ref k.1), (1, .long x1), (4, .int x4), (5, .int x5)] → W p l e rm_L_goes s m ([.ref k.1] : List Value).toArray below meth c H locs cs (6 * cs) (vx_MQ below (QW E (some (.int r.1)) (W_K E k r.2) A) (fun _ _ _ => False) ([.ref k.1] : List Value).toArray s 18564 (6 * 18564) A) (F0 m 230 ls []) := by
        intro x1 x4 x5 vK cs H locs ls hf hc hP hD hS hl
        unfold J_K_goes_230 at hf
        refine lv_iconst (v := 0) hx hb dL_goes_230 (by decide) ?_
        refine lv_istore_n (lv' := [(3, .int 0), (0, .ref k.1), (1, .long x1), (4, .int x4), (5, .int x5)]) hx hb dL_goes_231 rfl hl (by decide) rfl (fun ls hl => ?_)
        refine lv_goto (tgt := 536) hx hb dL_goes_232 (by decide) ?_
        exact jp_536 _ _ _ _ _ _ _ _ _ hf (by omega) hP hD hS (lv_sub hl [1, 2, 0, 3, 4] rfl)
      have jp_202 : ∀ (x1 : Int64) (x4 : Int32) (x5 : Int32) (vK : KV) (cs : Nat) (H : Heap) (locs : List Loc) (ls : Array Slot), J_K_goes_202 (L_K_goes_10 n_10) x1 x4 x5 vK = some r → cs + 1251 + (n_10 * 1470 + 1197) ≤ 18564 → va_P E.1 vwCl (W_K E k vK ++ []) H → va_D A (W_K E k vK ++ []) → va_S A s.heap H locs → lv_has ls 13 [(0, .ref k.1), (1, .long x1), (4, .int x4), (5, .int x5)] → W p l e rm_L_goes s m ([.ref k.1] : List Value).toArray below meth c H locs cs (6 * cs) (vx_MQ below (QW E (some (.int r.1)) (W_K E k r.2) A) (fun _ _ _ => False) ([.ref k.1] : List Value).toArray s 18564 (6 * 18564) A) (F0 m 202 ls []) := by
        intro x1 x4 x5 vK cs H locs ls hf hc hP hD hS hl
        unfold J_K_goes_202 at hf
        refine lv_aload_n hx hb dL_goes_202 rfl (lv_at hl 0 rfl) ?_
        refine lv_bipush (v := 29) hx hb dL_goes_203 (by decide) ?_
        refine lv_iload hx hb dL_goes_205 (lv_at hl 2 rfl) ?_
        obtain ⟨u1, hu1, hf⟩ := bn hf
        refine lk_S (As := [.ref k.1, .int 29, .int x4]) (rest := []) (wr := []) hx hb hml hown hg (c_K_call__ E l hst k vK 29 x4 u1 hu1) cs_L_call__ ml_L_171 ⟨⟨rfl, rfl⟩, Nat.le_of_ble_eq_true rfl, Nat.le_of_ble_eq_true rfl⟩ hK hE hN hP hD hS hA (W_Ka E k _ _) rfl hl.1 rfl (Nat.le_of_ble_eq_true rfl) dL_goes_207 ⟨by show _ ≤ 18564; omega, by show _ ≤ 6 * 18564; omega⟩ [.int u1.1] rfl (fun H locs hP hD hS => ?_)
        refine lv_bipush (v := (-101)) hx hb dL_goes_210 (by decide) ?_
        refine lv_icmp_ne (tgt := 230) hx hb dL_goes_212 (by decide) (fun cq => ?_) (fun cq => ?_)
        · have hf := ie cq hf
          exact jp_230 _ _ _ _ _ _ _ _ hf (by omega) hP hD hS (lv_sub hl [0, 1, 2, 3] rfl)
        · have hf := it cq hf
          refine lv_aload_n hx hb dL_goes_215 rfl (lv_at hl 0 rfl) ?_
          refine lv_bipush (v := 32) hx hb dL_goes_216 (by decide) ?_
          refine lv_iload hx hb dL_goes_218 (lv_at hl 3 rfl) ?_
          obtain ⟨u2, hu2, hf⟩ := bn hf
          refine lk_S (As := [.ref k.1, .int 32, .int x5]) (rest := []) (wr := []) hx hb hml hown hg (c_K_call__ E l hst k u1.2 32 x5 u2 hu2) cs_L_call__ ml_L_171 ⟨⟨rfl, rfl⟩, Nat.le_of_ble_eq_true rfl, Nat.le_of_ble_eq_true rfl⟩ hK hE hN hP hD hS hA (W_Ka E k _ _) rfl hl.1 rfl (Nat.le_of_ble_eq_true rfl) dL_goes_220 ⟨by show _ ≤ 18564; omega, by show _ ≤ 6 * 18564; omega⟩ [.int u2.1] rfl (fun H locs hP hD hS => ?_)
          refine lv_if_ne (tgt := 230) hx hb dL_goes_223 (by decide) (fun cq => ?_) (fun cq => ?_)
          · have hf := ie cq hf
            exact jp_230 _ _ _ _ _ _ _ _ hf (by omega) hP hD hS (lv_sub hl [0, 1, 2, 3] rfl)
          · have hf := it cq hf
            refine lv_iconst (v := 1) hx hb dL_goes_226 (by decide) ?_
            refine lv_goto (tgt := 231) hx hb dL_goes_227 (by decide) ?_
            refine lv_istore_n (lv' := [(3, .int 1), (0, .ref k.1), (1, .long x1), (4, .int x4), (5, .int x5)]) hx hb dL_goes_231 rfl hl (by decide) rfl (fun ls hl => ?_)
            refine lv_goto (tgt := 536) hx hb dL_goes_232 (by decide) ?_
            exact jp_536 _ _ _ _ _ _ _ _ _ hf (by omega) hP hD hS (lv_sub hl [1, 2, 0, 3, 4] rfl)
      have jp_103 : ∀ (x1 : Int64) (x4 : Int32) (x5 : Int32) (x6 : Int32) (x7 : Int32) (x8 : Int32) (x9 : Int32) (t0 : Int32) (vK : KV) (cs : Nat) (H : Heap) (locs : List Loc) (ls : Array Slot), J_K_goes_103 (L_K_goes_10 n_10) x1 x4 x5 x6 x7 x8 x9 t0 vK = some r → cs + 1260 + (n_10 * 1470 + 1197) ≤ 18564 → va_P E.1 vwCl (W_K E k vK ++ []) H → va_D A (W_K E k vK ++ []) → va_S A s.heap H locs → lv_has ls 13 [(0, .ref k.1), (1, .long x1), (4, .int x4), (5, .int x5), (6, .int x6), (7, .int x7), (8, .int x8), (9, .int x9)] → W p l e rm_L_goes s m ([.ref k.1] : List Value).toArray below meth c H locs cs (6 * cs) (vx_MQ below (QW E (some (.int r.1)) (W_K E k r.2) A) (fun _ _ _ => False) ([.ref k.1] : List Value).toArray s 18564 (6 * 18564) A) (F0 m 103 ls [.int t0]) := by
        intro x1 x4 x5 x6 x7 x8 x9 t0 vK cs H locs ls hf hc hP hD hS hl
        unfold J_K_goes_103 at hf
        refine lv_istore_n (lv' := [(3, .int t0), (0, .ref k.1), (1, .long x1), (4, .int x4), (5, .int x5), (6, .int x6), (7, .int x7), (8, .int x8), (9, .int x9)]) hx hb dL_goes_103 rfl hl (by decide) rfl (fun ls hl => ?_)
        refine lv_aload_n hx hb dL_goes_104 rfl (lv_at hl 1 rfl) ?_
        refine lv_iconst (v := 3) hx hb dL_goes_105 (by decide) ?_
        refine lv_iload hx hb dL_goes_106 (lv_at hl 3 rfl) ?_
        obtain ⟨u1, hu1, hf⟩ := bn hf
        refine lk_S (As := [.ref k.1, .int 3, .int x4]) (rest := []) (wr := []) hx hb hml hown hg (c_K_call__ E l hst k vK 3 x4 u1 hu1) cs_L_call__ ml_L_171 ⟨⟨rfl, rfl⟩, Nat.le_of_ble_eq_true rfl, Nat.le_of_ble_eq_true rfl⟩ hK hE hN hP hD hS hA (W_Ka E k _ _) rfl hl.1 rfl (Nat.le_of_ble_eq_true rfl) dL_goes_108 ⟨by show _ ≤ 18564; omega, by show _ ≤ 6 * 18564; omega⟩ [.int u1.1] rfl (fun H locs hP hD hS => ?_)
        refine lv_istore (lv' := [(10, .int u1.1), (3, .int t0), (0, .ref k.1), (1, .long x1), (4, .int x4), (5, .int x5), (6, .int x6), (7, .int x7), (8, .int x8), (9, .int x9)]) hx hb dL_goes_111 hl (by decide) rfl (fun ls hl => ?_)
        refine lv_iload hx hb dL_goes_113 (lv_at hl 5 rfl) ?_
        refine lv_bipush (v := 60) hx hb dL_goes_115 (by decide) ?_
        refine lv_icmp_ne (tgt := 140) hx hb dL_goes_117 (by decide) (fun cq => ?_) (fun cq => ?_)
        · have hf := ie cq hf
          refine lv_iload_n hx hb dL_goes_140 rfl (lv_at hl 1 rfl) ?_
          refine lv_if_eq (tgt := 230) hx hb dL_goes_141 (by decide) (fun cq => ?_) (fun cq => ?_)
          · have hf := it cq hf
            exact jp_230 _ _ _ _ _ _ _ _ hf (by omega) hP hD hS (lv_sub hl [2, 3, 4, 5] rfl)
          · have hf := ie cq hf
            refine lv_iload hx hb dL_goes_144 (lv_at hl 0 rfl) ?_
            refine lv_iload hx hb dL_goes_146 (lv_at hl 8 rfl) ?_
            refine lv_icmp_ne (tgt := 230) hx hb dL_goes_148 (by decide) (fun cq => ?_) (fun cq => ?_)
            · have hf := ie cq hf
              exact jp_230 _ _ _ _ _ _ _ _ hf (by omega) hP hD hS (lv_sub hl [2, 3, 4, 5] rfl)
            · have hf := it cq hf
              refine lv_aload_n hx hb dL_goes_151 rfl (lv_at hl 2 rfl) ?_
              obtain ⟨u2, hu2, hf⟩ := bn hf
              refine lk_V (As := []) (rest := []) (wr := []) hx hb hml hown hg (k_X8_tips E l k u1.2 u2 hu2) cy_X8_tips ml_L_240 ⟨⟨rfl, rfl⟩, Nat.le_of_ble_eq_true rfl, Nat.le_of_ble_eq_true rfl⟩ hK hE hP hD hS hA (W_Ka E k _ _) rfl rfl rfl hl.1 rfl (Nat.le_of_ble_eq_true rfl) dL_goes_152 ⟨by show _ ≤ 18564; omega, by show _ ≤ 6 * 18564; omega⟩ [.int u2] rfl (fun H locs hP hD hS => ?_)
              refine lv_iload hx hb dL_goes_155 (lv_at hl 7 rfl) ?_
              refine lv_iload hx hb dL_goes_157 (lv_at hl 8 rfl) ?_
              refine lv_iadd hx hb dL_goes_159 ?_
              refine lv_icmp_ne (tgt := 230) hx hb dL_goes_160 (by decide) (fun cq => ?_) (fun cq => ?_)
              · have hf := ie cq hf
                exact jp_230 _ _ _ _ _ _ _ _ hf (by omega) hP hD hS (lv_sub hl [2, 3, 4, 5] rfl)
              · have hf := it cq hf
                refine lv_aload_n hx hb dL_goes_163 rfl (lv_at hl 2 rfl) ?_
                refine lv_bipush (v := 20) hx hb dL_goes_164 (by decide) ?_
                refine lv_iload hx hb dL_goes_166 (lv_at hl 4 rfl) ?_
                obtain ⟨u3, hu3, hf⟩ := bn hf
                refine lk_S (As := [.ref k.1, .int 20, .int x4]) (rest := []) (wr := []) hx hb hml hown hg (c_K_call__ E l hst k u1.2 20 x4 u3 hu3) cs_L_call__ ml_L_171 ⟨⟨rfl, rfl⟩, Nat.le_of_ble_eq_true rfl, Nat.le_of_ble_eq_true rfl⟩ hK hE hN hP hD hS hA (W_Ka E k _ _) rfl hl.1 rfl (Nat.le_of_ble_eq_true rfl) dL_goes_168 ⟨by show _ ≤ 18564; omega, by show _ ≤ 6 * 18564; omega⟩ [.int u3.1] rfl (fun H locs hP hD hS => ?_)
                refine lv_if_ne (tgt := 230) hx hb dL_goes_171 (by decide) (fun cq => ?_) (fun cq => ?_)
                · have hf := ie cq hf
                  exact jp_230 _ _ _ _ _ _ _ _ hf (by omega) hP hD hS (lv_sub hl [2, 3, 4, 5] rfl)
                · have hf := it cq hf
                  refine lv_aload_n hx hb dL_goes_174 rfl (lv_at hl 2 rfl) ?_
                  obtain ⟨u4, hu4, hf⟩ := bn hf
                  refine lk_V (As := []) (rest := []) (wr := []) hx hb hml hown hg (k_X8_keysAtDesk E l k u3.2 u4 hu4) cy_X8_keysAtDesk ml_L_263 ⟨⟨rfl, rfl⟩, Nat.le_of_ble_eq_true rfl, Nat.le_of_ble_eq_true rfl⟩ hK hE hP hD hS hA (W_Ka E k _ _) rfl rfl rfl hl.1 rfl (Nat.le_of_ble_eq_true rfl) dL_goes_175 ⟨by show _ ≤ 18564; omega, by show _ ≤ 6 * 18564; omega⟩ [.int u4] rfl (fun H locs hP hD hS => ?_)
                  refine lv_iload hx hb dL_goes_178 (lv_at hl 6 rfl) ?_
                  refine lv_iconst (v := 1) hx hb dL_goes_180 (by decide) ?_
                  refine lv_isub hx hb dL_goes_181 ?_
                  refine lv_icmp_ne (tgt := 230) hx hb dL_goes_182 (by decide) (fun cq => ?_) (fun cq => ?_)
                  · have hf := ie cq hf
                    exact jp_230 _ _ _ _ _ _ _ _ hf (by omega) hP hD hS (lv_sub hl [2, 3, 4, 5] rfl)
                  · have hf := it cq hf
                    refine lv_iload hx hb dL_goes_185 (lv_at hl 9 rfl) ?_
                    refine lv_if_lt (tgt := 202) hx hb dL_goes_187 (by decide) (fun cq => ?_) (fun cq => ?_)
                    · have hf := it cq hf
                      exact jp_202 _ _ _ _ _ _ _ _ hf (by omega) hP hD hS (lv_sub hl [2, 3, 4, 5] rfl)
                    · have hf := ie cq hf
                      refine lv_aload_n hx hb dL_goes_190 rfl (lv_at hl 2 rfl) ?_
                      refine lv_bipush (v := 26) hx hb dL_goes_191 (by decide) ?_
                      refine lv_iload hx hb dL_goes_193 (lv_at hl 9 rfl) ?_
                      obtain ⟨u5, hu5, hf⟩ := bn hf
                      refine lk_S (As := [.ref k.1, .int 26, .int x9]) (rest := []) (wr := []) hx hb hml hown hg (c_K_call__ E l hst k u3.2 26 x9 u5 hu5) cs_L_call__ ml_L_171 ⟨⟨rfl, rfl⟩, Nat.le_of_ble_eq_true rfl, Nat.le_of_ble_eq_true rfl⟩ hK hE hN hP hD hS hA (W_Ka E k _ _) rfl hl.1 rfl (Nat.le_of_ble_eq_true rfl) dL_goes_195 ⟨by show _ ≤ 18564; omega, by show _ ≤ 6 * 18564; omega⟩ [.int u5.1] rfl (fun H locs hP hD hS => ?_)
                      refine lv_iconst (v := 1) hx hb dL_goes_198 (by decide) ?_
                      refine lv_icmp_ne (tgt := 230) hx hb dL_goes_199 (by decide) (fun cq => ?_) (fun cq => ?_)
                      · have hf := ie cq hf
                        exact jp_230 _ _ _ _ _ _ _ _ hf (by omega) hP hD hS (lv_sub hl [2, 3, 4, 5] rfl)
                      · have hf := it cq hf
                        exact jp_202 _ _ _ _ _ _ _ _ hf (by omega) hP hD hS (lv_sub hl [2, 3, 4, 5] rfl)
        · have hf := it cq hf
          refine lv_iload_n hx hb dL_goes_120 rfl (lv_at hl 1 rfl) ?_
          refine lv_if_eq (tgt := 135) hx hb dL_goes_121 (by decide) (fun cq => ?_) (fun cq => ?_)
          · have hf := it cq hf
            refine lv_iconst (v := 0) hx hb dL_goes_135 (by decide) ?_
            refine lv_istore_n (lv' := [(3, .int 0), (10, .int u1.1), (0, .ref k.1), (1, .long x1), (4, .int x4), (5, .int x5), (6, .int x6), (7, .int x7), (8, .int x8), (9, .int x9)]) hx hb dL_goes_136 rfl hl (by decide) rfl (fun ls hl => ?_)
            refine lv_goto (tgt := 609) hx hb dL_goes_137 (by decide) ?_
            exact jp_609 _ _ _ _ _ _ _ _ hf (by omega) hP hD hS (lv_sub hl [2, 3, 0, 4] rfl)
          · have hf := ie cq hf
            refine lv_iload hx hb dL_goes_124 (lv_at hl 0 rfl) ?_
            refine lv_bipush (v := (-102)) hx hb dL_goes_126 (by decide) ?_
            refine lv_icmp_ne (tgt := 135) hx hb dL_goes_128 (by decide) (fun cq => ?_) (fun cq => ?_)
            · have hf := ie cq hf
              refine lv_iconst (v := 0) hx hb dL_goes_135 (by decide) ?_
              refine lv_istore_n (lv' := [(3, .int 0), (10, .int u1.1), (0, .ref k.1), (1, .long x1), (4, .int x4), (5, .int x5), (6, .int x6), (7, .int x7), (8, .int x8), (9, .int x9)]) hx hb dL_goes_136 rfl hl (by decide) rfl (fun ls hl => ?_)
              refine lv_goto (tgt := 609) hx hb dL_goes_137 (by decide) ?_
              exact jp_609 _ _ _ _ _ _ _ _ hf (by omega) hP hD hS (lv_sub hl [2, 3, 0, 4] rfl)
            · have hf := it cq hf
              refine lv_iconst (v := 1) hx hb dL_goes_131 (by decide) ?_
              refine lv_goto (tgt := 136) hx hb dL_goes_132 (by decide) ?_
              refine lv_istore_n (lv' := [(3, .int 1), (10, .int u1.1), (0, .ref k.1), (1, .long x1), (4, .int x4), (5, .int x5), (6, .int x6), (7, .int x7), (8, .int x8), (9, .int x9)]) hx hb dL_goes_136 rfl hl (by decide) rfl (fun ls hl => ?_)
              refine lv_goto (tgt := 609) hx hb dL_goes_137 (by decide) ?_
              exact jp_609 _ _ _ _ _ _ _ _ hf (by omega) hP hD hS (lv_sub hl [2, 3, 0, 4] rfl)
      have jp_534 : ∀ (x1 : Int64) (x4 : Int32) (x5 : Int32) (vK : KV) (cs : Nat) (H : Heap) (locs : List Loc) (ls : Array Slot), J_K_goes_534 (L_K_goes_10 n_10) x1 x4 x5 vK = some r → cs + 1245 + (n_10 * 1470 + 1197) ≤ 18564 → va_P E.1 vwCl (W_K E k vK ++ []) H → va_D A (W_K E k vK ++ []) → va_S A s.heap H locs → lv_has ls 13 [(0, .ref k.1), (1, .long x1), (4, .int x4), (5, .int x5)] → W p l e rm_L_goes s m ([.ref k.1] : List Value).toArray below meth c H locs cs (6 * cs) (vx_MQ below (QW E (some (.int r.1)) (W_K E k r.2) A) (fun _ _ _ => False) ([.ref k.1] : List Value).toArray s 18564 (6 * 18564) A) (F0 m 534 ls []) := by
        intro x1 x4 x5 vK cs H locs ls hf hc hP hD hS hl
        unfold J_K_goes_534 at hf
        refine lv_iconst (v := 0) hx hb dL_goes_534 (by decide) ?_
        refine lv_istore_n (lv' := [(3, .int 0), (0, .ref k.1), (1, .long x1), (4, .int x4), (5, .int x5)]) hx hb dL_goes_535 rfl hl (by decide) rfl (fun ls hl => ?_)
        exact jp_536 _ _ _ _ _ _ _ _ _ hf (by omega) hP hD hS (lv_sub hl [1, 2, 0, 3, 4] rfl)
      have jp_408 : ∀ (x1 : Int64) (x4 : Int32) (x5 : Int32) (x6 : Int32) (x7 : Int32) (x8 : Int32) (t0 : Int32) (vK : KV) (cs : Nat) (H : Heap) (locs : List Loc) (ls : Array Slot), J_K_goes_408 (L_K_goes_10 n_10) x1 x4 x5 x6 x7 x8 t0 vK = some r → cs + 1263 + (n_10 * 1470 + 1197) ≤ 18564 → va_P E.1 vwCl (W_K E k vK ++ []) H → va_D A (W_K E k vK ++ []) → va_S A s.heap H locs → lv_has ls 13 [(0, .ref k.1), (1, .long x1), (4, .int x4), (5, .int x5), (6, .int x6), (7, .int x7), (8, .int x8)] → W p l e rm_L_goes s m ([.ref k.1] : List Value).toArray below meth c H locs cs (6 * cs) (vx_MQ below (QW E (some (.int r.1)) (W_K E k r.2) A) (fun _ _ _ => False) ([.ref k.1] : List Value).toArray s 18564 (6 * 18564) A) (F0 m 408 ls [.int t0]) := by
        intro x1 x4 x5 x6 x7 x8 t0 vK cs H locs ls hf hc hP hD hS hl
        unfold J_K_goes_408 at hf
        refine lv_istore_n (lv' := [(3, .int t0), (0, .ref k.1), (1, .long x1), (4, .int x4), (5, .int x5), (6, .int x6), (7, .int x7), (8, .int x8)]) hx hb dL_goes_408 rfl hl (by decide) rfl (fun ls hl => ?_)
        refine lv_aload_n hx hb dL_goes_409 rfl (lv_at hl 1 rfl) ?_
        refine lv_iconst (v := 2) hx hb dL_goes_410 (by decide) ?_
        refine lv_iload hx hb dL_goes_411 (lv_at hl 3 rfl) ?_
        obtain ⟨u1, hu1, hf⟩ := bn hf
        refine lk_S (As := [.ref k.1, .int 2, .int x4]) (rest := []) (wr := []) hx hb hml hown hg (c_K_call__ E l hst k vK 2 x4 u1 hu1) cs_L_call__ ml_L_171 ⟨⟨rfl, rfl⟩, Nat.le_of_ble_eq_true rfl, Nat.le_of_ble_eq_true rfl⟩ hK hE hN hP hD hS hA (W_Ka E k _ _) rfl hl.1 rfl (Nat.le_of_ble_eq_true rfl) dL_goes_413 ⟨by show _ ≤ 18564; omega, by show _ ≤ 6 * 18564; omega⟩ [.int u1.1] rfl (fun H locs hP hD hS => ?_)
        refine lv_istore (lv' := [(10, .int u1.1), (3, .int t0), (0, .ref k.1), (1, .long x1), (4, .int x4), (5, .int x5), (6, .int x6), (7, .int x7), (8, .int x8)]) hx hb dL_goes_416 hl (by decide) rfl (fun ls hl => ?_)
        refine lv_iload hx hb dL_goes_418 (lv_at hl 5 rfl) ?_
        refine lv_bipush (v := 60) hx hb dL_goes_420 (by decide) ?_
        refine lv_icmp_ne (tgt := 445) hx hb dL_goes_422 (by decide) (fun cq => ?_) (fun cq => ?_)
        · have hf := ie cq hf
          refine lv_iload_n hx hb dL_goes_445 rfl (lv_at hl 1 rfl) ?_
          refine lv_if_eq (tgt := 534) hx hb dL_goes_446 (by decide) (fun cq => ?_) (fun cq => ?_)
          · have hf := it cq hf
            exact jp_534 _ _ _ _ _ _ _ _ hf (by omega) hP hD hS (lv_sub hl [2, 3, 4, 5] rfl)
          · have hf := ie cq hf
            refine lv_iload hx hb dL_goes_449 (lv_at hl 0 rfl) ?_
            refine lv_iload hx hb dL_goes_451 (lv_at hl 6 rfl) ?_
            refine lv_iconst (v := 1) hx hb dL_goes_453 (by decide) ?_
            refine lv_iadd hx hb dL_goes_454 ?_
            refine lv_icmp_ne (tgt := 534) hx hb dL_goes_455 (by decide) (fun cq => ?_) (fun cq => ?_)
            · have hf := ie cq hf
              exact jp_534 _ _ _ _ _ _ _ _ hf (by omega) hP hD hS (lv_sub hl [2, 3, 4, 5] rfl)
            · have hf := it cq hf
              refine lv_aload_n hx hb dL_goes_458 rfl (lv_at hl 2 rfl) ?_
              refine lv_bipush (v := 20) hx hb dL_goes_459 (by decide) ?_
              refine lv_iload hx hb dL_goes_461 (lv_at hl 4 rfl) ?_
              obtain ⟨u2, hu2, hf⟩ := bn hf
              refine lk_S (As := [.ref k.1, .int 20, .int x4]) (rest := []) (wr := []) hx hb hml hown hg (c_K_call__ E l hst k u1.2 20 x4 u2 hu2) cs_L_call__ ml_L_171 ⟨⟨rfl, rfl⟩, Nat.le_of_ble_eq_true rfl, Nat.le_of_ble_eq_true rfl⟩ hK hE hN hP hD hS hA (W_Ka E k _ _) rfl hl.1 rfl (Nat.le_of_ble_eq_true rfl) dL_goes_463 ⟨by show _ ≤ 18564; omega, by show _ ≤ 6 * 18564; omega⟩ [.int u2.1] rfl (fun H locs hP hD hS => ?_)
              refine lv_iconst (v := 1) hx hb dL_goes_466 (by decide) ?_
              refine lv_icmp_ne (tgt := 534) hx hb dL_goes_467 (by decide) (fun cq => ?_) (fun cq => ?_)
              · have hf := ie cq hf
                exact jp_534 _ _ _ _ _ _ _ _ hf (by omega) hP hD hS (lv_sub hl [2, 3, 4, 5] rfl)
              · have hf := it cq hf
                refine lv_aload_n hx hb dL_goes_470 rfl (lv_at hl 2 rfl) ?_
                refine lv_bipush (v := 21) hx hb dL_goes_471 (by decide) ?_
                refine lv_iload hx hb dL_goes_473 (lv_at hl 4 rfl) ?_
                obtain ⟨u3, hu3, hf⟩ := bn hf
                refine lk_S (As := [.ref k.1, .int 21, .int x4]) (rest := []) (wr := []) hx hb hml hown hg (c_K_call__ E l hst k u2.2 21 x4 u3 hu3) cs_L_call__ ml_L_171 ⟨⟨rfl, rfl⟩, Nat.le_of_ble_eq_true rfl, Nat.le_of_ble_eq_true rfl⟩ hK hE hN hP hD hS hA (W_Ka E k _ _) rfl hl.1 rfl (Nat.le_of_ble_eq_true rfl) dL_goes_475 ⟨by show _ ≤ 18564; omega, by show _ ≤ 6 * 18564; omega⟩ [.int u3.1] rfl (fun H locs hP hD hS => ?_)
                refine lv_aload_n hx hb dL_goes_478 rfl (lv_at hl 2 rfl) ?_
                obtain ⟨u4, hu4, hf⟩ := bn hf
                refine lk_V (As := []) (rest := [.int u3.1]) (wr := []) hx hb hml hown hg (k_X8_minute E l k u3.2 u4 hu4) cy_X8_minute ml_L_218 ⟨⟨rfl, rfl⟩, Nat.le_of_ble_eq_true rfl, Nat.le_of_ble_eq_true rfl⟩ hK hE hP hD hS hA (W_Ka E k _ _) rfl rfl rfl hl.1 rfl (Nat.le_of_ble_eq_true rfl) dL_goes_479 ⟨by show _ ≤ 18564; omega, by show _ ≤ 6 * 18564; omega⟩ [.int u4, .int u3.1] rfl (fun H locs hP hD hS => ?_)
                refine lv_icmp_ne (tgt := 534) hx hb dL_goes_482 (by decide) (fun cq => ?_) (fun cq => ?_)
                · have hf := ie cq hf
                  exact jp_534 _ _ _ _ _ _ _ _ hf (by omega) hP hD hS (lv_sub hl [2, 3, 4, 5] rfl)
                · have hf := it cq hf
                  refine lv_aload_n hx hb dL_goes_485 rfl (lv_at hl 2 rfl) ?_
                  refine lv_bipush (v := 29) hx hb dL_goes_486 (by decide) ?_
                  refine lv_iload hx hb dL_goes_488 (lv_at hl 4 rfl) ?_
                  obtain ⟨u5, hu5, hf⟩ := bn hf
                  refine lk_S (As := [.ref k.1, .int 29, .int x4]) (rest := []) (wr := []) hx hb hml hown hg (c_K_call__ E l hst k u3.2 29 x4 u5 hu5) cs_L_call__ ml_L_171 ⟨⟨rfl, rfl⟩, Nat.le_of_ble_eq_true rfl, Nat.le_of_ble_eq_true rfl⟩ hK hE hN hP hD hS hA (W_Ka E k _ _) rfl hl.1 rfl (Nat.le_of_ble_eq_true rfl) dL_goes_490 ⟨by show _ ≤ 18564; omega, by show _ ≤ 6 * 18564; omega⟩ [.int u5.1] rfl (fun H locs hP hD hS => ?_)
                  refine lv_iload hx hb dL_goes_493 (lv_at hl 8 rfl) ?_
                  refine lv_icmp_ne (tgt := 534) hx hb dL_goes_495 (by decide) (fun cq => ?_) (fun cq => ?_)
                  · have hf := ie cq hf
                    exact jp_534 _ _ _ _ _ _ _ _ hf (by omega) hP hD hS (lv_sub hl [2, 3, 4, 5] rfl)
                  · have hf := it cq hf
                    refine lv_aload_n hx hb dL_goes_498 rfl (lv_at hl 2 rfl) ?_
                    refine lv_bipush (v := 22) hx hb dL_goes_499 (by decide) ?_
                    refine lv_iload hx hb dL_goes_501 (lv_at hl 4 rfl) ?_
                    obtain ⟨u6, hu6, hf⟩ := bn hf
                    refine lk_S (As := [.ref k.1, .int 22, .int x4]) (rest := []) (wr := []) hx hb hml hown hg (c_K_call__ E l hst k u5.2 22 x4 u6 hu6) cs_L_call__ ml_L_171 ⟨⟨rfl, rfl⟩, Nat.le_of_ble_eq_true rfl, Nat.le_of_ble_eq_true rfl⟩ hK hE hN hP hD hS hA (W_Ka E k _ _) rfl hl.1 rfl (Nat.le_of_ble_eq_true rfl) dL_goes_503 ⟨by show _ ≤ 18564; omega, by show _ ≤ 6 * 18564; omega⟩ [.int u6.1] rfl (fun H locs hP hD hS => ?_)
                    refine lv_if_ne (tgt := 534) hx hb dL_goes_506 (by decide) (fun cq => ?_) (fun cq => ?_)
                    · have hf := ie cq hf
                      exact jp_534 _ _ _ _ _ _ _ _ hf (by omega) hP hD hS (lv_sub hl [2, 3, 4, 5] rfl)
                    · have hf := it cq hf
                      refine lv_aload_n hx hb dL_goes_509 rfl (lv_at hl 2 rfl) ?_
                      obtain ⟨u7, hu7, hf⟩ := bn hf
                      refine lk_V (As := []) (rest := []) (wr := []) hx hb hml hown hg (k_X8_tips E l k u6.2 u7 hu7) cy_X8_tips ml_L_240 ⟨⟨rfl, rfl⟩, Nat.le_of_ble_eq_true rfl, Nat.le_of_ble_eq_true rfl⟩ hK hE hP hD hS hA (W_Ka E k _ _) rfl rfl rfl hl.1 rfl (Nat.le_of_ble_eq_true rfl) dL_goes_510 ⟨by show _ ≤ 18564; omega, by show _ ≤ 6 * 18564; omega⟩ [.int u7] rfl (fun H locs hP hD hS => ?_)
                      refine lv_iload hx hb dL_goes_513 (lv_at hl 7 rfl) ?_
                      refine lv_icmp_ne (tgt := 534) hx hb dL_goes_515 (by decide) (fun cq => ?_) (fun cq => ?_)
                      · have hf := ie cq hf
                        exact jp_534 _ _ _ _ _ _ _ _ hf (by omega) hP hD hS (lv_sub hl [2, 3, 4, 5] rfl)
                      · have hf := it cq hf
                        refine lv_aload_n hx hb dL_goes_518 rfl (lv_at hl 2 rfl) ?_
                        refine lv_bipush (v := 32) hx hb dL_goes_519 (by decide) ?_
                        refine lv_iload hx hb dL_goes_521 (lv_at hl 5 rfl) ?_
                        obtain ⟨u8, hu8, hf⟩ := bn hf
                        refine lk_S (As := [.ref k.1, .int 32, .int x5]) (rest := []) (wr := []) hx hb hml hown hg (c_K_call__ E l hst k u6.2 32 x5 u8 hu8) cs_L_call__ ml_L_171 ⟨⟨rfl, rfl⟩, Nat.le_of_ble_eq_true rfl, Nat.le_of_ble_eq_true rfl⟩ hK hE hN hP hD hS hA (W_Ka E k _ _) rfl hl.1 rfl (Nat.le_of_ble_eq_true rfl) dL_goes_523 ⟨by show _ ≤ 18564; omega, by show _ ≤ 6 * 18564; omega⟩ [.int u8.1] rfl (fun H locs hP hD hS => ?_)
                        refine lv_iconst (v := 1) hx hb dL_goes_526 (by decide) ?_
                        refine lv_icmp_ne (tgt := 534) hx hb dL_goes_527 (by decide) (fun cq => ?_) (fun cq => ?_)
                        · have hf := ie cq hf
                          exact jp_534 _ _ _ _ _ _ _ _ hf (by omega) hP hD hS (lv_sub hl [2, 3, 4, 5] rfl)
                        · have hf := it cq hf
                          refine lv_iconst (v := 1) hx hb dL_goes_530 (by decide) ?_
                          refine lv_goto (tgt := 535) hx hb dL_goes_531 (by decide) ?_
                          refine lv_istore_n (lv' := [(3, .int 1), (10, .int u1.1), (0, .ref k.1), (1, .long x1), (4, .int x4), (5, .int x5), (6, .int x6), (7, .int x7), (8, .int x8)]) hx hb dL_goes_535 rfl hl (by decide) rfl (fun ls hl => ?_)
                          exact jp_536 _ _ _ _ _ _ _ _ _ hf (by omega) hP hD hS (lv_sub hl [2, 3, 0, 4, 5] rfl)
        · have hf := it cq hf
          refine lv_iload_n hx hb dL_goes_425 rfl (lv_at hl 1 rfl) ?_
          refine lv_if_eq (tgt := 440) hx hb dL_goes_426 (by decide) (fun cq => ?_) (fun cq => ?_)
          · have hf := it cq hf
            refine lv_iconst (v := 0) hx hb dL_goes_440 (by decide) ?_
            refine lv_istore_n (lv' := [(3, .int 0), (10, .int u1.1), (0, .ref k.1), (1, .long x1), (4, .int x4), (5, .int x5), (6, .int x6), (7, .int x7), (8, .int x8)]) hx hb dL_goes_441 rfl hl (by decide) rfl (fun ls hl => ?_)
            refine lv_goto (tgt := 609) hx hb dL_goes_442 (by decide) ?_
            exact jp_609 _ _ _ _ _ _ _ _ hf (by omega) hP hD hS (lv_sub hl [2, 3, 0, 4] rfl)
          · have hf := ie cq hf
            refine lv_iload hx hb dL_goes_429 (lv_at hl 0 rfl) ?_
            refine lv_bipush (v := (-102)) hx hb dL_goes_431 (by decide) ?_
            refine lv_icmp_ne (tgt := 440) hx hb dL_goes_433 (by decide) (fun cq => ?_) (fun cq => ?_)
            · have hf := ie cq hf
              refine lv_iconst (v := 0) hx hb dL_goes_440 (by decide) ?_
              refine lv_istore_n (lv' := [(3, .int 0), (10, .int u1.1), (0, .ref k.1), (1, .long x1), (4, .int x4), (5, .int x5), (6, .int x6), (7, .int x7), (8, .int x8)]) hx hb dL_goes_441 rfl hl (by decide) rfl (fun ls hl => ?_)
              refine lv_goto (tgt := 609) hx hb dL_goes_442 (by decide) ?_
              exact jp_609 _ _ _ _ _ _ _ _ hf (by omega) hP hD hS (lv_sub hl [2, 3, 0, 4] rfl)
            · have hf := it cq hf
              refine lv_iconst (v := 1) hx hb dL_goes_436 (by decide) ?_
              refine lv_goto (tgt := 441) hx hb dL_goes_437 (by decide) ?_
              refine lv_istore_n (lv' := [(3, .int 1), (10, .int u1.1), (0, .ref k.1), (1, .long x1), (4, .int x4), (5, .int x5), (6, .int x6), (7, .int x7), (8, .int x8)]) hx hb dL_goes_441 rfl hl (by decide) rfl (fun ls hl => ?_)
              refine lv_goto (tgt := 609) hx hb dL_goes_442 (by decide) ?_
              exact jp_609 _ _ _ _ _ _ _ _ hf (by omega) hP hD hS (lv_sub hl [2, 3, 0, 4] rfl)
      have jp_372 : ∀ (x1 : Int64) (x4 : Int32) (x5 : Int32) (x6 : Int32) (x7 : Int32) (x8 : Int32) (x9 : Int32) (vK : KV) (cs : Nat) (H : Heap) (locs : List Loc) (ls : Array Slot), J_K_goes_372 (L_K_goes_10 n_10) x1 x4 x5 x6 x7 x8 x9 vK = some r → cs + 1269 + (n_10 * 1470 + 1197) ≤ 18564 → va_P E.1 vwCl (W_K E k vK ++ []) H → va_D A (W_K E k vK ++ []) → va_S A s.heap H locs → lv_has ls 13 [(0, .ref k.1), (1, .long x1), (4, .int x4), (5, .int x5), (6, .int x6), (7, .int x7), (8, .int x8), (9, .int x9)] → W p l e rm_L_goes s m ([.ref k.1] : List Value).toArray below meth c H locs cs (6 * cs) (vx_MQ below (QW E (some (.int r.1)) (W_K E k r.2) A) (fun _ _ _ => False) ([.ref k.1] : List Value).toArray s 18564 (6 * 18564) A) (F0 m 372 ls []) := by
        intro x1 x4 x5 x6 x7 x8 x9 vK cs H locs ls hf hc hP hD hS hl
        unfold J_K_goes_372 at hf
        refine lv_iload hx hb dL_goes_372 (lv_at hl 6 rfl) ?_
        refine lv_iload hx hb dL_goes_374 (lv_at hl 7 rfl) ?_
        refine lv_icmp_ne (tgt := 407) hx hb dL_goes_376 (by decide) (fun cq => ?_) (fun cq => ?_)
        · have hf := ie cq hf
          refine lv_iconst (v := 0) hx hb dL_goes_407 (by decide) ?_
          exact jp_408 _ _ _ _ _ _ _ _ _ _ _ _ hf (by omega) hP hD hS (lv_sub hl [0, 1, 2, 3, 4, 5, 6] rfl)
        · have hf := it cq hf
          refine lv_aload_n hx hb dL_goes_379 rfl (lv_at hl 0 rfl) ?_
          refine lv_iconst (v := 3) hx hb dL_goes_380 (by decide) ?_
          refine lv_iload hx hb dL_goes_381 (lv_at hl 2 rfl) ?_
          obtain ⟨u1, hu1, hf⟩ := bn hf
          refine lk_S (As := [.ref k.1, .int 3, .int x4]) (rest := []) (wr := []) hx hb hml hown hg (c_K_call__ E l hst k vK 3 x4 u1 hu1) cs_L_call__ ml_L_171 ⟨⟨rfl, rfl⟩, Nat.le_of_ble_eq_true rfl, Nat.le_of_ble_eq_true rfl⟩ hK hE hN hP hD hS hA (W_Ka E k _ _) rfl hl.1 rfl (Nat.le_of_ble_eq_true rfl) dL_goes_383 ⟨by show _ ≤ 18564; omega, by show _ ≤ 6 * 18564; omega⟩ [.int u1.1] rfl (fun H locs hP hD hS => ?_)
          refine lv_bipush (v := (-102)) hx hb dL_goes_386 (by decide) ?_
          refine lv_icmp_ne (tgt := 407) hx hb dL_goes_388 (by decide) (fun cq => ?_) (fun cq => ?_)
          · have hf := ie cq hf
            refine lv_iconst (v := 0) hx hb dL_goes_407 (by decide) ?_
            exact jp_408 _ _ _ _ _ _ _ _ _ _ _ _ hf (by omega) hP hD hS (lv_sub hl [0, 1, 2, 3, 4, 5, 6] rfl)
          · have hf := it cq hf
            refine lv_aload_n hx hb dL_goes_391 rfl (lv_at hl 0 rfl) ?_
            refine lv_iconst (v := 5) hx hb dL_goes_392 (by decide) ?_
            refine lv_iload hx hb dL_goes_393 (lv_at hl 2 rfl) ?_
            obtain ⟨u2, hu2, hf⟩ := bn hf
            refine lk_S (As := [.ref k.1, .int 5, .int x4]) (rest := []) (wr := []) hx hb hml hown hg (c_K_call__ E l hst k u1.2 5 x4 u2 hu2) cs_L_call__ ml_L_171 ⟨⟨rfl, rfl⟩, Nat.le_of_ble_eq_true rfl, Nat.le_of_ble_eq_true rfl⟩ hK hE hN hP hD hS hA (W_Ka E k _ _) rfl hl.1 rfl (Nat.le_of_ble_eq_true rfl) dL_goes_395 ⟨by show _ ≤ 18564; omega, by show _ ≤ 6 * 18564; omega⟩ [.int u2.1] rfl (fun H locs hP hD hS => ?_)
            refine lv_bipush (v := (-102)) hx hb dL_goes_398 (by decide) ?_
            refine lv_icmp_ne (tgt := 407) hx hb dL_goes_400 (by decide) (fun cq => ?_) (fun cq => ?_)
            · have hf := ie cq hf
              refine lv_iconst (v := 0) hx hb dL_goes_407 (by decide) ?_
              exact jp_408 _ _ _ _ _ _ _ _ _ _ _ _ hf (by omega) hP hD hS (lv_sub hl [0, 1, 2, 3, 4, 5, 6] rfl)
            · have hf := it cq hf
              refine lv_iconst (v := 1) hx hb dL_goes_403 (by decide) ?_
              refine lv_goto (tgt := 408) hx hb dL_goes_404 (by decide) ?_
              exact jp_408 _ _ _ _ _ _ _ _ _ _ _ _ hf (by omega) hP hD hS (lv_sub hl [0, 1, 2, 3, 4, 5, 6] rfl)
      have lp_257 : ∀ (n : Nat) (x1 : Int64) (x4 : Int32) (x5 : Int32) (x6 : Int32) (x7 : Int32) (x8 : Int32) (x9 : Int32) (x10 : Int32) (vK : KV) (cs : Nat) (H : Heap) (locs : List Loc) (ls : Array Slot), L_K_goes_257 (L_K_goes_10 n_10) n x1 x4 x5 x6 x7 x8 x9 x10 vK = some r → cs + n * 15 + 1269 + (n_10 * 1470 + 1197) ≤ 18564 → va_P E.1 vwCl (W_K E k vK ++ []) H → va_D A (W_K E k vK ++ []) → va_S A s.heap H locs → lv_has ls 13 [(0, .ref k.1), (1, .long x1), (4, .int x4), (5, .int x5), (6, .int x6), (7, .int x7), (8, .int x8), (9, .int x9), (10, .int x10)] → W p l e rm_L_goes s m ([.ref k.1] : List Value).toArray below meth c H locs cs (6 * cs) (vx_MQ below (QW E (some (.int r.1)) (W_K E k r.2) A) (fun _ _ _ => False) ([.ref k.1] : List Value).toArray s 18564 (6 * 18564) A) (F0 m 257 ls []) := by
        intro n_257
        induction n_257 with
        | zero => intro x1 x4 x5 x6 x7 x8 x9 x10 vK cs H locs ls hf; cases hf
        | succ n_257 ih_257 =>
          have jp_366 : ∀ (x1 : Int64) (x4 : Int32) (x5 : Int32) (x6 : Int32) (x7 : Int32) (x8 : Int32) (x9 : Int32) (x10 : Int32) (vK : KV) (cs : Nat) (H : Heap) (locs : List Loc) (ls : Array Slot), J_K_goes_366 (L_K_goes_10 n_10) (L_K_goes_257 (L_K_goes_10 n_10) n_257) x1 x4 x5 x6 x7 x8 x9 x10 vK = some r → cs + 0 + (n_257 * 15 + 1269) + (n_10 * 1470 + 1197) ≤ 18564 → va_P E.1 vwCl (W_K E k vK ++ []) H → va_D A (W_K E k vK ++ []) → va_S A s.heap H locs → lv_has ls 13 [(0, .ref k.1), (1, .long x1), (4, .int x4), (5, .int x5), (6, .int x6), (7, .int x7), (8, .int x8), (9, .int x9), (10, .int x10)] → W p l e rm_L_goes s m ([.ref k.1] : List Value).toArray below meth c H locs cs (6 * cs) (vx_MQ below (QW E (some (.int r.1)) (W_K E k r.2) A) (fun _ _ _ => False) ([.ref k.1] : List Value).toArray s 18564 (6 * 18564) A) (F0 m 366 ls []) := by
            intro x1 x4 x5 x6 x7 x8 x9 x10 vK cs H locs ls hf hc hP hD hS hl
            unfold J_K_goes_366 at hf
            refine lv_iinc (v := (x10 + (-1))) (lv' := [(10, .int (x10 + (-1))), (0, .ref k.1), (1, .long x1), (4, .int x4), (5, .int x5), (6, .int x6), (7, .int x7), (8, .int x8), (9, .int x9)]) hx hb dL_goes_366 hl (k := 8) rfl rfl (by decide) rfl (fun ls hl => ?_)
            refine lv_goto (tgt := 257) hx hb dL_goes_369 (by decide) ?_
            exact ih_257 _ _ _ _ _ _ _ _ _ _ _ _ _ hf (by omega) hP hD hS (lv_sub hl [1, 2, 3, 4, 5, 6, 7, 8, 0] rfl)
          have jp_362 : ∀ (x1 : Int64) (x4 : Int32) (x5 : Int32) (x6 : Int32) (x7 : Int32) (x8 : Int32) (x10 : Int32) (vK : KV) (cs : Nat) (H : Heap) (locs : List Loc) (ls : Array Slot), J_K_goes_362 (L_K_goes_10 n_10) (L_K_goes_257 (L_K_goes_10 n_10) n_257) x1 x4 x5 x6 x7 x8 x10 vK = some r → cs + 0 + (n_257 * 15 + 1269) + (n_10 * 1470 + 1197) ≤ 18564 → va_P E.1 vwCl (W_K E k vK ++ []) H → va_D A (W_K E k vK ++ []) → va_S A s.heap H locs → lv_has ls 13 [(0, .ref k.1), (1, .long x1), (4, .int x4), (5, .int x5), (6, .int x6), (7, .int x7), (8, .int x8), (10, .int x10)] → W p l e rm_L_goes s m ([.ref k.1] : List Value).toArray below meth c H locs cs (6 * cs) (vx_MQ below (QW E (some (.int r.1)) (W_K E k r.2) A) (fun _ _ _ => False) ([.ref k.1] : List Value).toArray s 18564 (6 * 18564) A) (F0 m 362 ls []) := by
            intro x1 x4 x5 x6 x7 x8 x10 vK cs H locs ls hf hc hP hD hS hl
            unfold J_K_goes_362 at hf
            refine lv_iload hx hb dL_goes_362 (lv_at hl 7 rfl) ?_
            refine lv_istore (lv' := [(9, .int x10), (0, .ref k.1), (1, .long x1), (4, .int x4), (5, .int x5), (6, .int x6), (7, .int x7), (8, .int x8), (10, .int x10)]) hx hb dL_goes_364 hl (by decide) rfl (fun ls hl => ?_)
            exact jp_366 _ _ _ _ _ _ _ _ _ _ _ _ _ hf (by omega) hP hD hS (lv_sub hl [1, 2, 3, 4, 5, 6, 7, 0, 8] rfl)
          have jp_326 : ∀ (x1 : Int64) (x4 : Int32) (x5 : Int32) (x6 : Int32) (x7 : Int32) (x8 : Int32) (x9 : Int32) (x10 : Int32) (x11 : Int32) (t0 : Int32) (vK : KV) (cs : Nat) (H : Heap) (locs : List Loc) (ls : Array Slot), J_K_goes_326 (L_K_goes_10 n_10) (L_K_goes_257 (L_K_goes_10 n_10) n_257) x1 x4 x5 x6 x7 x8 x9 x10 x11 t0 vK = some r → cs + 6 + (n_257 * 15 + 1269) + (n_10 * 1470 + 1197) ≤ 18564 → va_P E.1 vwCl (W_K E k vK ++ []) H → va_D A (W_K E k vK ++ []) → va_S A s.heap H locs → lv_has ls 13 [(0, .ref k.1), (1, .long x1), (4, .int x4), (5, .int x5), (6, .int x6), (7, .int x7), (8, .int x8), (9, .int x9), (10, .int x10), (11, .int x11)] → W p l e rm_L_goes s m ([.ref k.1] : List Value).toArray below meth c H locs cs (6 * cs) (vx_MQ below (QW E (some (.int r.1)) (W_K E k r.2) A) (fun _ _ _ => False) ([.ref k.1] : List Value).toArray s 18564 (6 * 18564) A) (F0 m 326 ls [.int t0]) := by
            intro x1 x4 x5 x6 x7 x8 x9 x10 x11 t0 vK cs H locs ls hf hc hP hD hS hl
            unfold J_K_goes_326 at hf
            refine lv_istore (lv' := [(12, .int t0), (0, .ref k.1), (1, .long x1), (4, .int x4), (5, .int x5), (6, .int x6), (7, .int x7), (8, .int x8), (9, .int x9), (10, .int x10), (11, .int x11)]) hx hb dL_goes_326 hl (by decide) rfl (fun ls hl => ?_)
            refine lv_iload hx hb dL_goes_328 (lv_at hl 8 rfl) ?_
            refine lv_if_lt (tgt := 362) hx hb dL_goes_330 (by decide) (fun cq => ?_) (fun cq => ?_)
            · have hf := it cq hf
              exact jp_362 _ _ _ _ _ _ _ _ _ _ _ _ hf (by omega) hP hD hS (lv_sub hl [1, 2, 3, 4, 5, 6, 7, 9] rfl)
            · have hf := ie cq hf
              refine lv_iload hx hb dL_goes_333 (lv_at hl 10 rfl) ?_
              refine lv_if_ne (tgt := 362) hx hb dL_goes_335 (by decide) (fun cq => ?_) (fun cq => ?_)
              · have hf := ie cq hf
                exact jp_362 _ _ _ _ _ _ _ _ _ _ _ _ hf (by omega) hP hD hS (lv_sub hl [1, 2, 3, 4, 5, 6, 7, 9] rfl)
              · have hf := it cq hf
                refine lv_iload hx hb dL_goes_338 (lv_at hl 0 rfl) ?_
                refine lv_if_ne (tgt := 366) hx hb dL_goes_340 (by decide) (fun cq => ?_) (fun cq => ?_)
                · have hf := ie cq hf
                  exact jp_366 _ _ _ _ _ _ _ _ _ _ _ _ _ hf (by omega) hP hD hS (lv_sub hl [1, 2, 3, 4, 5, 6, 7, 8, 9] rfl)
                · have hf := it cq hf
                  refine lv_aload_n hx hb dL_goes_343 rfl (lv_at hl 1 rfl) ?_
                  refine lv_bipush (v := 25) hx hb dL_goes_344 (by decide) ?_
                  refine lv_iload hx hb dL_goes_346 (lv_at hl 9 rfl) ?_
                  obtain ⟨u1, hu1, hf⟩ := bn hf
                  refine lk_S (As := [.ref k.1, .int 25, .int x10]) (rest := []) (wr := []) hx hb hml hown hg (c_K_call__ E l hst k vK 25 x10 u1 hu1) cs_L_call__ ml_L_171 ⟨⟨rfl, rfl⟩, Nat.le_of_ble_eq_true rfl, Nat.le_of_ble_eq_true rfl⟩ hK hE hN hP hD hS hA (W_Ka E k _ _) rfl hl.1 rfl (Nat.le_of_ble_eq_true rfl) dL_goes_348 ⟨by show _ ≤ 18564; omega, by show _ ≤ 6 * 18564; omega⟩ [.int u1.1] rfl (fun H locs hP hD hS => ?_)
                  refine lv_aload_n hx hb dL_goes_351 rfl (lv_at hl 1 rfl) ?_
                  refine lv_bipush (v := 25) hx hb dL_goes_352 (by decide) ?_
                  refine lv_iload hx hb dL_goes_354 (lv_at hl 8 rfl) ?_
                  obtain ⟨u2, hu2, hf⟩ := bn hf
                  refine lk_S (As := [.ref k.1, .int 25, .int x9]) (rest := [.int u1.1]) (wr := []) hx hb hml hown hg (c_K_call__ E l hst k u1.2 25 x9 u2 hu2) cs_L_call__ ml_L_171 ⟨⟨rfl, rfl⟩, Nat.le_of_ble_eq_true rfl, Nat.le_of_ble_eq_true rfl⟩ hK hE hN hP hD hS hA (W_Ka E k _ _) rfl hl.1 rfl (Nat.le_of_ble_eq_true rfl) dL_goes_356 ⟨by show _ ≤ 18564; omega, by show _ ≤ 6 * 18564; omega⟩ [.int u2.1, .int u1.1] rfl (fun H locs hP hD hS => ?_)
                  refine lv_icmp_gt (tgt := 366) hx hb dL_goes_359 (by decide) (fun cq => ?_) (fun cq => ?_)
                  · have hf := it cq hf
                    exact jp_366 _ _ _ _ _ _ _ _ _ _ _ _ _ hf (by omega) hP hD hS (lv_sub hl [1, 2, 3, 4, 5, 6, 7, 8, 9] rfl)
                  · have hf := ie cq hf
                    exact jp_362 _ _ _ _ _ _ _ _ _ _ _ _ hf (by omega) hP hD hS (lv_sub hl [1, 2, 3, 4, 5, 6, 7, 9] rfl)
          have jp_301 : ∀ (x1 : Int64) (x4 : Int32) (x5 : Int32) (x6 : Int32) (x7 : Int32) (x8 : Int32) (x9 : Int32) (x10 : Int32) (t0 : Int32) (vK : KV) (cs : Nat) (H : Heap) (locs : List Loc) (ls : Array Slot), J_K_goes_301 (L_K_goes_10 n_10) (L_K_goes_257 (L_K_goes_10 n_10) n_257) x1 x4 x5 x6 x7 x8 x9 x10 t0 vK = some r → cs + 9 + (n_257 * 15 + 1269) + (n_10 * 1470 + 1197) ≤ 18564 → va_P E.1 vwCl (W_K E k vK ++ []) H → va_D A (W_K E k vK ++ []) → va_S A s.heap H locs → lv_has ls 13 [(0, .ref k.1), (1, .long x1), (4, .int x4), (5, .int x5), (6, .int x6), (7, .int x7), (8, .int x8), (9, .int x9), (10, .int x10)] → W p l e rm_L_goes s m ([.ref k.1] : List Value).toArray below meth c H locs cs (6 * cs) (vx_MQ below (QW E (some (.int r.1)) (W_K E k r.2) A) (fun _ _ _ => False) ([.ref k.1] : List Value).toArray s 18564 (6 * 18564) A) (F0 m 301 ls [.int t0]) := by
            intro x1 x4 x5 x6 x7 x8 x9 x10 t0 vK cs H locs ls hf hc hP hD hS hl
            unfold J_K_goes_301 at hf
            refine lv_istore (lv' := [(11, .int t0), (0, .ref k.1), (1, .long x1), (4, .int x4), (5, .int x5), (6, .int x6), (7, .int x7), (8, .int x8), (9, .int x9), (10, .int x10)]) hx hb dL_goes_301 hl (by decide) rfl (fun ls hl => ?_)
            refine lv_iload hx hb dL_goes_303 (lv_at hl 8 rfl) ?_
            refine lv_if_lt (tgt := 325) hx hb dL_goes_305 (by decide) (fun cq => ?_) (fun cq => ?_)
            · have hf := it cq hf
              refine lv_iconst (v := 0) hx hb dL_goes_325 (by decide) ?_
              exact jp_326 _ _ _ _ _ _ _ _ _ _ _ _ _ _ _ hf (by omega) hP hD hS (lv_sub hl [1, 2, 3, 4, 5, 6, 7, 8, 9, 0] rfl)
            · have hf := ie cq hf
              refine lv_aload_n hx hb dL_goes_308 rfl (lv_at hl 1 rfl) ?_
              refine lv_bipush (v := 24) hx hb dL_goes_309 (by decide) ?_
              refine lv_iload hx hb dL_goes_311 (lv_at hl 8 rfl) ?_
              obtain ⟨u1, hu1, hf⟩ := bn hf
              refine lk_S (As := [.ref k.1, .int 24, .int x9]) (rest := []) (wr := []) hx hb hml hown hg (c_K_call__ E l hst k vK 24 x9 u1 hu1) cs_L_call__ ml_L_171 ⟨⟨rfl, rfl⟩, Nat.le_of_ble_eq_true rfl, Nat.le_of_ble_eq_true rfl⟩ hK hE hN hP hD hS hA (W_Ka E k _ _) rfl hl.1 rfl (Nat.le_of_ble_eq_true rfl) dL_goes_313 ⟨by show _ ≤ 18564; omega, by show _ ≤ 6 * 18564; omega⟩ [.int u1.1] rfl (fun H locs hP hD hS => ?_)
              refine lv_iload hx hb dL_goes_316 (lv_at hl 3 rfl) ?_
              refine lv_icmp_ne (tgt := 325) hx hb dL_goes_318 (by decide) (fun cq => ?_) (fun cq => ?_)
              · have hf := ie cq hf
                refine lv_iconst (v := 0) hx hb dL_goes_325 (by decide) ?_
                exact jp_326 _ _ _ _ _ _ _ _ _ _ _ _ _ _ _ hf (by omega) hP hD hS (lv_sub hl [1, 2, 3, 4, 5, 6, 7, 8, 9, 0] rfl)
              · have hf := it cq hf
                refine lv_iconst (v := 1) hx hb dL_goes_321 (by decide) ?_
                refine lv_goto (tgt := 326) hx hb dL_goes_322 (by decide) ?_
                exact jp_326 _ _ _ _ _ _ _ _ _ _ _ _ _ _ _ hf (by omega) hP hD hS (lv_sub hl [1, 2, 3, 4, 5, 6, 7, 8, 9, 0] rfl)
          intro x1 x4 x5 x6 x7 x8 x9 x10 vK cs H locs ls hf hc hP hD hS hl
          replace hf : B_K_goes_257 (L_K_goes_10 n_10) (L_K_goes_257 (L_K_goes_10 n_10) n_257) x1 x4 x5 x6 x7 x8 x9 x10 vK = some r := hf
          unfold B_K_goes_257 at hf
          refine lv_iload hx hb dL_goes_257 (lv_at hl 8 rfl) ?_
          refine lv_if_lt (tgt := 372) hx hb dL_goes_259 (by decide) (fun cq => ?_) (fun cq => ?_)
          · have hf := it cq hf
            exact jp_372 _ _ _ _ _ _ _ _ _ _ _ _ hf (by omega) hP hD hS (lv_sub hl [0, 1, 2, 3, 4, 5, 6, 7] rfl)
          · have hf := ie cq hf
            refine lv_aload_n hx hb dL_goes_262 rfl (lv_at hl 0 rfl) ?_
            obtain ⟨u1, hu1, hf⟩ := bn hf
            refine lk_V (As := []) (rest := []) (wr := []) hx hb hml hown hg (k_X8_rain E l k vK u1 hu1) cy_X8_rain ml_L_221 ⟨⟨rfl, rfl⟩, Nat.le_of_ble_eq_true rfl, Nat.le_of_ble_eq_true rfl⟩ hK hE hP hD hS hA (W_Ka E k _ _) rfl rfl rfl hl.1 rfl (Nat.le_of_ble_eq_true rfl) dL_goes_263 ⟨by show _ ≤ 18564; omega, by show _ ≤ 6 * 18564; omega⟩ [.int u1] rfl (fun H locs hP hD hS => ?_)
            refine lv_if_le (tgt := 372) hx hb dL_goes_266 (by decide) (fun cq => ?_) (fun cq => ?_)
            · have hf := it cq hf
              exact jp_372 _ _ _ _ _ _ _ _ _ _ _ _ hf (by omega) hP hD hS (lv_sub hl [0, 1, 2, 3, 4, 5, 6, 7] rfl)
            · have hf := ie cq hf
              refine lv_aload_n hx hb dL_goes_269 rfl (lv_at hl 0 rfl) ?_
              refine lv_bipush (v := 27) hx hb dL_goes_270 (by decide) ?_
              refine lv_iload hx hb dL_goes_272 (lv_at hl 8 rfl) ?_
              obtain ⟨u2, hu2, hf⟩ := bn hf
              refine lk_S (As := [.ref k.1, .int 27, .int x10]) (rest := []) (wr := []) hx hb hml hown hg (c_K_call__ E l hst k vK 27 x10 u2 hu2) cs_L_call__ ml_L_171 ⟨⟨rfl, rfl⟩, Nat.le_of_ble_eq_true rfl, Nat.le_of_ble_eq_true rfl⟩ hK hE hN hP hD hS hA (W_Ka E k _ _) rfl hl.1 rfl (Nat.le_of_ble_eq_true rfl) dL_goes_274 ⟨by show _ ≤ 18564; omega, by show _ ≤ 6 * 18564; omega⟩ [.int u2.1] rfl (fun H locs hP hD hS => ?_)
              refine lv_if_ne (tgt := 283) hx hb dL_goes_277 (by decide) (fun cq => ?_) (fun cq => ?_)
              · have hf := ie cq hf
                refine lv_aload_n hx hb dL_goes_283 rfl (lv_at hl 0 rfl) ?_
                refine lv_bipush (v := 24) hx hb dL_goes_284 (by decide) ?_
                refine lv_iload hx hb dL_goes_286 (lv_at hl 8 rfl) ?_
                obtain ⟨u3, hu3, hf⟩ := bn hf
                refine lk_S (As := [.ref k.1, .int 24, .int x10]) (rest := []) (wr := []) hx hb hml hown hg (c_K_call__ E l hst k u2.2 24 x10 u3 hu3) cs_L_call__ ml_L_171 ⟨⟨rfl, rfl⟩, Nat.le_of_ble_eq_true rfl, Nat.le_of_ble_eq_true rfl⟩ hK hE hN hP hD hS hA (W_Ka E k _ _) rfl hl.1 rfl (Nat.le_of_ble_eq_true rfl) dL_goes_288 ⟨by show _ ≤ 18564; omega, by show _ ≤ 6 * 18564; omega⟩ [.int u3.1] rfl (fun H locs hP hD hS => ?_)
                refine lv_iload hx hb dL_goes_291 (lv_at hl 2 rfl) ?_
                refine lv_icmp_ne (tgt := 300) hx hb dL_goes_293 (by decide) (fun cq => ?_) (fun cq => ?_)
                · have hf := ie cq hf
                  refine lv_iconst (v := 0) hx hb dL_goes_300 (by decide) ?_
                  exact jp_301 _ _ _ _ _ _ _ _ _ _ _ _ _ _ hf (by omega) hP hD hS (lv_sub hl [0, 1, 2, 3, 4, 5, 6, 7, 8] rfl)
                · have hf := it cq hf
                  refine lv_iconst (v := 1) hx hb dL_goes_296 (by decide) ?_
                  refine lv_goto (tgt := 301) hx hb dL_goes_297 (by decide) ?_
                  exact jp_301 _ _ _ _ _ _ _ _ _ _ _ _ _ _ hf (by omega) hP hD hS (lv_sub hl [0, 1, 2, 3, 4, 5, 6, 7, 8] rfl)
              · have hf := it cq hf
                refine lv_goto (tgt := 366) hx hb dL_goes_280 (by decide) ?_
                exact jp_366 _ _ _ _ _ _ _ _ _ _ _ _ _ hf (by omega) hP hD hS (lv_sub hl [0, 1, 2, 3, 4, 5, 6, 7, 8] rfl)
      intro x1 x3 x4 vK cs H locs ls hf hc hP hD hS hl
      replace hf : B_K_goes_10 (L_K_goes_10 n_10) x1 x3 x4 vK = some r := hf
      unfold B_K_goes_10 at hf
      refine lv_iload hx hb dL_goes_10 (lv_at hl 3 rfl) ?_
      refine lv_aload_n hx hb dL_goes_12 rfl (lv_at hl 0 rfl) ?_
      obtain ⟨u1, hu1, hf⟩ := bn hf
      refine lk_V (As := []) (rest := [.int x4]) (wr := []) hx hb hml hown hg (k_X8_guestCount E l k vK u1 hu1) cy_X8_guestCount ml_L_243 ⟨⟨rfl, rfl⟩, Nat.le_of_ble_eq_true rfl, Nat.le_of_ble_eq_true rfl⟩ hK hE hP hD hS hA (W_Ka E k _ _) rfl rfl rfl hl.1 rfl (Nat.le_of_ble_eq_true rfl) dL_goes_13 ⟨by show _ ≤ 18564; omega, by show _ ≤ 6 * 18564; omega⟩ [.int u1, .int x4] rfl (fun H locs hP hD hS => ?_)
      refine lv_icmp_ge (tgt := 615) hx hb dL_goes_16 (by decide) (fun cq => ?_) (fun cq => ?_)
      · have hf := it cq hf
        exact jp_615 _ _ _ _ _ _ _ hf (by omega) hP hD hS (lv_sub hl [0, 1, 2] rfl)
      · have hf := ie cq hf
        refine lv_iload_n hx hb dL_goes_19 rfl (lv_at hl 2 rfl) ?_
        refine lv_if_eq (tgt := 615) hx hb dL_goes_20 (by decide) (fun cq => ?_) (fun cq => ?_)
        · have hf := it cq hf
          exact jp_615 _ _ _ _ _ _ _ hf (by omega) hP hD hS (lv_sub hl [0, 1, 2] rfl)
        · have hf := ie cq hf
          refine lv_aload_n hx hb dL_goes_23 rfl (lv_at hl 0 rfl) ?_
          obtain ⟨u2, hu2, hf⟩ := bn hf
          refine lk_V (As := []) (rest := []) (wr := []) hx hb hml hown hg (k_X8_entryCount E l k vK u2 hu2) cy_X8_entryCount ml_L_249 ⟨⟨rfl, rfl⟩, Nat.le_of_ble_eq_true rfl, Nat.le_of_ble_eq_true rfl⟩ hK hE hP hD hS hA (W_Ka E k _ _) rfl rfl rfl hl.1 rfl (Nat.le_of_ble_eq_true rfl) dL_goes_24 ⟨by show _ ≤ 18564; omega, by show _ ≤ 6 * 18564; omega⟩ [.int u2] rfl (fun H locs hP hD hS => ?_)
          refine lv_istore (lv' := [(5, .int u2), (0, .ref k.1), (1, .long x1), (3, .int x3), (4, .int x4)]) hx hb dL_goes_27 hl (by decide) rfl (fun ls hl => ?_)
          refine lv_aload_n hx hb dL_goes_29 rfl (lv_at hl 1 rfl) ?_
          obtain ⟨u3, hu3, hf⟩ := bn hf
          refine lk_V (As := []) (rest := []) (wr := []) hx hb hml hown hg (k_X8_keysAtDesk E l k vK u3 hu3) cy_X8_keysAtDesk ml_L_263 ⟨⟨rfl, rfl⟩, Nat.le_of_ble_eq_true rfl, Nat.le_of_ble_eq_true rfl⟩ hK hE hP hD hS hA (W_Ka E k _ _) rfl rfl rfl hl.1 rfl (Nat.le_of_ble_eq_true rfl) dL_goes_30 ⟨by show _ ≤ 18564; omega, by show _ ≤ 6 * 18564; omega⟩ [.int u3] rfl (fun H locs hP hD hS => ?_)
          refine lv_istore (lv' := [(6, .int u3), (5, .int u2), (0, .ref k.1), (1, .long x1), (3, .int x3), (4, .int x4)]) hx hb dL_goes_33 hl (by decide) rfl (fun ls hl => ?_)
          refine lv_aload_n hx hb dL_goes_35 rfl (lv_at hl 2 rfl) ?_
          obtain ⟨u4, hu4, hf⟩ := bn hf
          refine lk_V (As := []) (rest := []) (wr := []) hx hb hml hown hg (k_X8_tips E l k vK u4 hu4) cy_X8_tips ml_L_240 ⟨⟨rfl, rfl⟩, Nat.le_of_ble_eq_true rfl, Nat.le_of_ble_eq_true rfl⟩ hK hE hP hD hS hA (W_Ka E k _ _) rfl rfl rfl hl.1 rfl (Nat.le_of_ble_eq_true rfl) dL_goes_36 ⟨by show _ ≤ 18564; omega, by show _ ≤ 6 * 18564; omega⟩ [.int u4] rfl (fun H locs hP hD hS => ?_)
          refine lv_istore (lv' := [(7, .int u4), (6, .int u3), (5, .int u2), (0, .ref k.1), (1, .long x1), (3, .int x3), (4, .int x4)]) hx hb dL_goes_39 hl (by decide) rfl (fun ls hl => ?_)
          refine lv_aload_n hx hb dL_goes_41 rfl (lv_at hl 3 rfl) ?_
          refine lv_bipush (v := 20) hx hb dL_goes_42 (by decide) ?_
          refine lv_iload hx hb dL_goes_44 (lv_at hl 6 rfl) ?_
          obtain ⟨u5, hu5, hf⟩ := bn hf
          refine lk_S (As := [.ref k.1, .int 20, .int x4]) (rest := []) (wr := []) hx hb hml hown hg (c_K_call__ E l hst k vK 20 x4 u5 hu5) cs_L_call__ ml_L_171 ⟨⟨rfl, rfl⟩, Nat.le_of_ble_eq_true rfl, Nat.le_of_ble_eq_true rfl⟩ hK hE hN hP hD hS hA (W_Ka E k _ _) rfl hl.1 rfl (Nat.le_of_ble_eq_true rfl) dL_goes_46 ⟨by show _ ≤ 18564; omega, by show _ ≤ 6 * 18564; omega⟩ [.int u5.1] rfl (fun H locs hP hD hS => ?_)
          refine lv_iconst (v := 1) hx hb dL_goes_49 (by decide) ?_
          refine lv_icmp_ne (tgt := 235) hx hb dL_goes_50 (by decide) (fun cq => ?_) (fun cq => ?_)
          · have hf := ie cq hf
            refine lv_aload_n hx hb dL_goes_235 rfl (lv_at hl 3 rfl) ?_
            refine lv_bipush (v := 39) hx hb dL_goes_236 (by decide) ?_
            refine lv_iload hx hb dL_goes_238 (lv_at hl 6 rfl) ?_
            obtain ⟨u6, hu6, hf⟩ := bn hf
            refine lk_S (As := [.ref k.1, .int 39, .int x4]) (rest := []) (wr := []) hx hb hml hown hg (c_K_call__ E l hst k u5.2 39 x4 u6 hu6) cs_L_call__ ml_L_171 ⟨⟨rfl, rfl⟩, Nat.le_of_ble_eq_true rfl, Nat.le_of_ble_eq_true rfl⟩ hK hE hN hP hD hS hA (W_Ka E k _ _) rfl hl.1 rfl (Nat.le_of_ble_eq_true rfl) dL_goes_240 ⟨by show _ ≤ 18564; omega, by show _ ≤ 6 * 18564; omega⟩ [.int u6.1] rfl (fun H locs hP hD hS => ?_)
            refine lv_istore (lv' := [(8, .int u6.1), (7, .int u4), (6, .int u3), (5, .int u2), (0, .ref k.1), (1, .long x1), (3, .int x3), (4, .int x4)]) hx hb dL_goes_243 hl (by decide) rfl (fun ls hl => ?_)
            refine lv_bipush (v := (-101)) hx hb dL_goes_245 (by decide) ?_
            refine lv_istore (lv' := [(9, .int (-101)), (8, .int u6.1), (7, .int u4), (6, .int u3), (5, .int u2), (0, .ref k.1), (1, .long x1), (3, .int x3), (4, .int x4)]) hx hb dL_goes_247 hl (by decide) rfl (fun ls hl => ?_)
            refine lv_aload_n hx hb dL_goes_249 rfl (lv_at hl 5 rfl) ?_
            obtain ⟨u7, hu7, hf⟩ := bn hf
            refine lk_V (As := []) (rest := []) (wr := []) hx hb hml hown hg (k_X8_umbrellaCount E l k u6.2 u7 hu7) cy_X8_umbrellaCount ml_L_246 ⟨⟨rfl, rfl⟩, Nat.le_of_ble_eq_true rfl, Nat.le_of_ble_eq_true rfl⟩ hK hE hP hD hS hA (W_Ka E k _ _) rfl rfl rfl hl.1 rfl (Nat.le_of_ble_eq_true rfl) dL_goes_250 ⟨by show _ ≤ 18564; omega, by show _ ≤ 6 * 18564; omega⟩ [.int u7] rfl (fun H locs hP hD hS => ?_)
            refine lv_iconst (v := 1) hx hb dL_goes_253 (by decide) ?_
            refine lv_isub hx hb dL_goes_254 ?_
            refine lv_istore (lv' := [(10, .int (u7 - 1)), (9, .int (-101)), (8, .int u6.1), (7, .int u4), (6, .int u3), (5, .int u2), (0, .ref k.1), (1, .long x1), (3, .int x3), (4, .int x4)]) hx hb dL_goes_255 hl (by decide) rfl (fun ls hl => ?_)
            exact lp_257 13 _ _ _ _ _ _ _ _ _ _ _ _ _ hf (by omega) hP hD hS (lv_sub hl [6, 7, 9, 5, 4, 3, 2, 1, 0] rfl)
          · have hf := it cq hf
            refine lv_aload_n hx hb dL_goes_53 rfl (lv_at hl 3 rfl) ?_
            refine lv_bipush (v := 40) hx hb dL_goes_54 (by decide) ?_
            refine lv_iload hx hb dL_goes_56 (lv_at hl 6 rfl) ?_
            obtain ⟨u8, hu8, hf⟩ := bn hf
            refine lk_S (As := [.ref k.1, .int 40, .int x4]) (rest := []) (wr := []) hx hb hml hown hg (c_K_call__ E l hst k u5.2 40 x4 u8 hu8) cs_L_call__ ml_L_171 ⟨⟨rfl, rfl⟩, Nat.le_of_ble_eq_true rfl, Nat.le_of_ble_eq_true rfl⟩ hK hE hN hP hD hS hA (W_Ka E k _ _) rfl hl.1 rfl (Nat.le_of_ble_eq_true rfl) dL_goes_58 ⟨by show _ ≤ 18564; omega, by show _ ≤ 6 * 18564; omega⟩ [.int u8.1] rfl (fun H locs hP hD hS => ?_)
            refine lv_istore (lv' := [(8, .int u8.1), (7, .int u4), (6, .int u3), (5, .int u2), (0, .ref k.1), (1, .long x1), (3, .int x3), (4, .int x4)]) hx hb dL_goes_61 hl (by decide) rfl (fun ls hl => ?_)
            refine lv_aload_n hx hb dL_goes_63 rfl (lv_at hl 4 rfl) ?_
            refine lv_bipush (v := 29) hx hb dL_goes_64 (by decide) ?_
            refine lv_iload hx hb dL_goes_66 (lv_at hl 7 rfl) ?_
            obtain ⟨u9, hu9, hf⟩ := bn hf
            refine lk_S (As := [.ref k.1, .int 29, .int x4]) (rest := []) (wr := []) hx hb hml hown hg (c_K_call__ E l hst k u8.2 29 x4 u9 hu9) cs_L_call__ ml_L_171 ⟨⟨rfl, rfl⟩, Nat.le_of_ble_eq_true rfl, Nat.le_of_ble_eq_true rfl⟩ hK hE hN hP hD hS hA (W_Ka E k _ _) rfl hl.1 rfl (Nat.le_of_ble_eq_true rfl) dL_goes_68 ⟨by show _ ≤ 18564; omega, by show _ ≤ 6 * 18564; omega⟩ [.int u9.1] rfl (fun H locs hP hD hS => ?_)
            refine lv_istore (lv' := [(9, .int u9.1), (8, .int u8.1), (7, .int u4), (6, .int u3), (5, .int u2), (0, .ref k.1), (1, .long x1), (3, .int x3), (4, .int x4)]) hx hb dL_goes_71 hl (by decide) rfl (fun ls hl => ?_)
            refine lv_aload_n hx hb dL_goes_73 rfl (lv_at hl 5 rfl) ?_
            refine lv_iconst (v := 2) hx hb dL_goes_74 (by decide) ?_
            refine lv_iload hx hb dL_goes_75 (lv_at hl 8 rfl) ?_
            obtain ⟨u10, hu10, hf⟩ := bn hf
            refine lk_S (As := [.ref k.1, .int 2, .int x4]) (rest := []) (wr := []) hx hb hml hown hg (c_K_call__ E l hst k u9.2 2 x4 u10 hu10) cs_L_call__ ml_L_171 ⟨⟨rfl, rfl⟩, Nat.le_of_ble_eq_true rfl, Nat.le_of_ble_eq_true rfl⟩ hK hE hN hP hD hS hA (W_Ka E k _ _) rfl hl.1 rfl (Nat.le_of_ble_eq_true rfl) dL_goes_77 ⟨by show _ ≤ 18564; omega, by show _ ≤ 6 * 18564; omega⟩ [.int u10.1] rfl (fun H locs hP hD hS => ?_)
            refine lv_bipush (v := (-102)) hx hb dL_goes_80 (by decide) ?_
            refine lv_icmp_ne (tgt := 102) hx hb dL_goes_82 (by decide) (fun cq => ?_) (fun cq => ?_)
            · have hf := ie cq hf
              refine lv_iconst (v := 0) hx hb dL_goes_102 (by decide) ?_
              exact jp_103 _ _ _ _ _ _ _ _ _ _ _ _ _ hf (by omega) hP hD hS (lv_sub hl [5, 6, 8, 4, 3, 2, 1, 0] rfl)
            · have hf := it cq hf
              refine lv_aload_n hx hb dL_goes_85 rfl (lv_at hl 5 rfl) ?_
              refine lv_bipush (v := 39) hx hb dL_goes_86 (by decide) ?_
              refine lv_iload hx hb dL_goes_88 (lv_at hl 8 rfl) ?_
              obtain ⟨u11, hu11, hf⟩ := bn hf
              refine lk_S (As := [.ref k.1, .int 39, .int x4]) (rest := []) (wr := []) hx hb hml hown hg (c_K_call__ E l hst k u10.2 39 x4 u11 hu11) cs_L_call__ ml_L_171 ⟨⟨rfl, rfl⟩, Nat.le_of_ble_eq_true rfl, Nat.le_of_ble_eq_true rfl⟩ hK hE hN hP hD hS hA (W_Ka E k _ _) rfl hl.1 rfl (Nat.le_of_ble_eq_true rfl) dL_goes_90 ⟨by show _ ≤ 18564; omega, by show _ ≤ 6 * 18564; omega⟩ [.int u11.1] rfl (fun H locs hP hD hS => ?_)
              refine lv_bipush (v := (-102)) hx hb dL_goes_93 (by decide) ?_
              refine lv_icmp_ne (tgt := 102) hx hb dL_goes_95 (by decide) (fun cq => ?_) (fun cq => ?_)
              · have hf := ie cq hf
                refine lv_iconst (v := 0) hx hb dL_goes_102 (by decide) ?_
                exact jp_103 _ _ _ _ _ _ _ _ _ _ _ _ _ hf (by omega) hP hD hS (lv_sub hl [5, 6, 8, 4, 3, 2, 1, 0] rfl)
              · have hf := it cq hf
                refine lv_iconst (v := 1) hx hb dL_goes_98 (by decide) ?_
                refine lv_goto (tgt := 103) hx hb dL_goes_99 (by decide) ?_
                exact jp_103 _ _ _ _ _ _ _ _ _ _ _ _ _ hf (by omega) hP hD hS (lv_sub hl [5, 6, 8, 4, 3, 2, 1, 0] rfl)
  unfold F_K_goes at hf
  have hc : 0 ≤ 18564 := Nat.zero_le _
  have hP : va_P E.1 vwCl (W_K E k v0 ++ []) s.heap := by rw [List.append_nil]; exact hP
  have hD : va_D A (W_K E k v0 ++ []) := by rw [List.append_nil]; exact hD
  refine W.eqS (n := 6 * 0) rfl ?_
  refine lv_aload_n hx hb dL_goes_0 rfl (lv_at hl 0 rfl) ?_
  obtain ⟨u1, hu1, hf⟩ := bn hf
  refine lk_S (As := [.ref k.1]) (rest := []) (wr := []) hx hb hml hown hg (c_K_state E l hst k v0 u1 hu1) cs_L_state ml_L_284 ⟨⟨rfl, rfl⟩, Nat.le_of_ble_eq_true rfl, Nat.le_of_ble_eq_true rfl⟩ hK hE hN hP hD hS hA (W_Ka E k _ _) rfl hl.1 rfl (Nat.le_of_ble_eq_true rfl) dL_goes_1 ⟨by show _ ≤ 18564; omega, by show _ ≤ 6 * 18564; omega⟩ [.long u1.1] rfl (fun H locs hP hD hS => ?_)
  refine lv_lstore_n (lv' := [(1, .long u1.1), (0, .ref k.1)]) hx hb dL_goes_4 rfl hl (by decide) rfl (fun ls hl => ?_)
  refine lv_iconst (v := 1) hx hb dL_goes_5 (by decide) ?_
  refine lv_istore_n (lv' := [(3, .int 1), (1, .long u1.1), (0, .ref k.1)]) hx hb dL_goes_6 rfl hl (by decide) rfl (fun ls hl => ?_)
  refine lv_iconst (v := 0) hx hb dL_goes_7 (by decide) ?_
  refine lv_istore (lv' := [(4, .int 0), (3, .int 1), (1, .long u1.1), (0, .ref k.1)]) hx hb dL_goes_8 hl (by decide) rfl (fun ls hl => ?_)
  exact lp_10 11 _ _ _ _ _ _ _ _ hf (by omega) hP hD hS (lv_sub hl [3, 2, 1, 0] rfl)
