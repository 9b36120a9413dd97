def F_K_call_ (v0 : KV) (p1 : Int32) (p2 : Int32) (p3 : Int32) : Option (Int32 × KV) := (F_K_call v0 p1 p2 p3 0 0 0).bind (fun u1 => (some (u1.1, u1.2)))
abbrev rm_L_call_ : Room := { frames := 10, cells := 3, slots := 6 * 3, locals := 222 }
set_option maxHeartbeats 16000000 in
set_option maxRecDepth 100000 in
theorem c_K_call_ (E : Ev) (l : Launch) (hst : l.stackTraces = false) (k : KA) (v0 : KV) (p1 : Int32) (p2 : Int32) (p3 : Int32) (r : Int32 × KV) (hf : F_K_call_ v0 p1 p2 p3 = some r) : LM E l yL_call_ (.code yL_call_ cL_call_ 4 (some .int) :: GA) rm_L_call_ [.ref k.1, .int p1, .int p2, .int p3] (W_K E k v0) (some (.int r.1)) (W_K E k r.2) 3 := by
  refine LM.of0 (own := RL) rfl (by decide) (Nat.le_of_ble_eq_true rfl) ?_
  intro p e s m below meth c A ls hx hb hr hml hown hg hlocks hK hE hN hA hP hD hS hl
  have hl : lv_has ls 4 [(0, .ref k.1), (1, .int p1), (2, .int p2), (3, .int p3)] := hl
  unfold F_K_call_ at hf
  have hc : 0 ≤ 3 := Nat.zero_le _
  have hP : va_P E.1 vwCl (W_K E k v0 ++ []) s.heap := by rw [List.append_nil]; exact hP
  have hD : va_D A (W_K E k v0 ++ []) := by rw [List.append_nil]; exact hD
  refine W.eqS (n := 6 * 0) rfl ?_
  refine lv_aload_n hx hb dL_call__0 rfl (lv_at hl 0 rfl) ?_
  refine lv_iload_n hx hb dL_call__1 rfl (lv_at hl 1 rfl) ?_
  refine lv_iload_n hx hb dL_call__2 rfl (lv_at hl 2 rfl) ?_
  refine lv_iload_n hx hb dL_call__3 rfl (lv_at hl 3 rfl) ?_
  refine lv_iconst (v := 0) hx hb dL_call__4 (by decide) ?_
  refine lv_iconst (v := 0) hx hb dL_call__5 (by decide) ?_
  refine lv_iconst (v := 0) hx hb dL_call__6 (by decide) ?_
  obtain ⟨u1, hu1, hf⟩ := bn hf
  refine lk_SW (As := [.ref k.1, .int p1, .int p2, .int p3, .int 0, .int 0, .int 0]) (rest := []) (wr := []) hx hb hml hown hg (c_K_call E l hst k v0 p1 p2 p3 0 0 0 u1 hu1) cw_L_call ml_L_158 ⟨⟨rfl, rfl⟩, Nat.le_of_ble_eq_true rfl, Nat.le_of_ble_eq_true rfl⟩ hK hE hN hP hD hS hA (W_Ka E k _ _) rfl hl.1 rfl (Nat.le_of_ble_eq_true rfl) dL_call__7 ⟨by show _ ≤ 3; omega, by show _ ≤ 6 * 3; omega⟩ [.int u1.1] rfl (fun H locs hP hD hS => ?_)
  obtain rfl := Option.some.inj hf
  exact lm_yret hx hb hr rfl hlocks (lk_P1 hP) hS dL_call__10 (by omega) (by omega)
def F_K_call__ (v0 : KV) (p1 : Int32) (p2 : Int32) : Option (Int32 × KV) := (F_K_call v0 p1 p2 0 0 0 0).bind (fun u1 => (some (u1.1, u1.2)))
abbrev rm_L_call__ : Room := { frames := 10, cells := 3, slots := 6 * 3, locals := 222 }
set_option maxHeartbeats 16000000 in
set_option maxRecDepth 100000 in
theorem c_K_call__ (E : Ev) (l : Launch) (hst : l.stackTraces = false) (k : KA) (v0 : KV) (p1 : Int32) (p2 : Int32) (r : Int32 × KV) (hf : F_K_call__ v0 p1 p2 = some r) : LM E l yL_call__ (.code yL_call__ cL_call__ 3 (some .int) :: GA) rm_L_call__ [.ref k.1, .int p1, .int p2] (W_K E k v0) (some (.int r.1)) (W_K E k r.2) 3 := by
  refine LM.of0 (own := RL) rfl (by decide) (Nat.le_of_ble_eq_true rfl) ?_
  intro p e s m below meth c A ls hx hb hr hml hown hg hlocks hK hE hN hA hP hD hS hl
  have hl : lv_has ls 3 [(0, .ref k.1), (1, .int p1), (2, .int p2)] := hl
  unfold F_K_call__ at hf
  have hc : 0 ≤ 3 := Nat.zero_le _
  have hP : va_P E.1 vwCl (W_K E k v0 ++ []) s.heap := by rw [List.append_nil]; exact hP
  have hD : va_D A (W_K E k v0 ++ []) := by rw [List.append_nil]; exact hD
  refine W.eqS (n := 6 * 0) rfl ?_
  refine lv_aload_n hx hb dL_call___0 rfl (lv_at hl 0 rfl) ?_
  refine lv_iload_n hx hb dL_call___1 rfl (lv_at hl 1 rfl) ?_
  refine lv_iload_n hx hb dL_call___2 rfl (lv_at hl 2 rfl) ?_
  refine lv_iconst (v := 0) hx hb dL_call___3 (by decide) ?_
  refine lv_iconst (v := 0) hx hb dL_call___4 (by decide) ?_
  refine lv_iconst (v := 0) hx hb dL_call___5 (by decide) ?_
  refine lv_iconst (v := 0) hx hb dL_call___6 (by decide) ?_
  obtain ⟨u1, hu1, hf⟩ := bn hf
  refine lk_SW (As := [.ref k.1, .int p1, .int p2, .int 0, .int 0, .int 0, .int 0]) (rest := []) (wr := []) hx hb hml hown hg (c_K_call E l hst k v0 p1 p2 0 0 0 0 u1 hu1) cw_L_call ml_L_158 ⟨⟨rfl, rfl⟩, Nat.le_of_ble_eq_true rfl, Nat.le_of_ble_eq_true rfl⟩ hK hE hN hP hD hS hA (W_Ka E k _ _) rfl hl.1 rfl (Nat.le_of_ble_eq_true rfl) dL_call___7 ⟨by show _ ≤ 3; omega, by show _ ≤ 6 * 3; omega⟩ [.int u1.1] rfl (fun H locs hP hD hS => ?_)
  obtain rfl := Option.some.inj hf
  exact lm_yret hx hb hr rfl hlocks (lk_P1 hP) hS dL_call___10 (by omega) (by omega)
def B_K_state_90 (rec_78 : Int64 → Int32 → KV → Option (Int64 × KV)) (rec_90 : Int64 → Int32 → Int32 → KV → Option (Int64 × KV)) (x1 : Int64) (x3 : Int32) (x4 : Int32) (vK : KV) : Option (Int64 × KV) := (if 24 ≤ x4 then (rec_78 x1 (x3 + 1) vK) else (F_K_call__ vK x4 x3).bind (fun u1 => (rec_90 ((x1 * 1009) + (Int32.toInt64 u1.1)) x3 (x4 + 1) u1.2)))
def L_K_state_90 (rec_78 : Int64 → Int32 → KV → Option (Int64 × KV)) : Nat → Int64 → Int32 → Int32 → KV → Option (Int64 × KV)
  | 0 => fun _ _ _ _ => none
  | n + 1 => fun x1 x3 x4 vK => B_K_state_90 rec_78 (L_K_state_90 rec_78 n) x1 x3 x4 vK
def B_K_state_138 (rec_126 : Int64 → Int32 → KV → Option (Int64 × KV)) (rec_138 : Int64 → Int32 → Int32 → KV → Option (Int64 × KV)) (x1 : Int64) (x3 : Int32) (x4 : Int32) (vK : KV) : Option (Int64 × KV) := (if 29 ≤ x4 then (rec_126 x1 (x3 + 1) vK) else (F_K_call__ vK x4 x3).bind (fun u1 => (rec_138 ((x1 * 101) + (Int32.toInt64 u1.1)) x3 (x4 + 1) u1.2)))
def L_K_state_138 (rec_126 : Int64 → Int32 → KV → Option (Int64 × KV)) : Nat → Int64 → Int32 → Int32 → KV → Option (Int64 × KV)
  | 0 => fun _ _ _ _ => none
  | n + 1 => fun x1 x3 x4 vK => B_K_state_138 rec_126 (L_K_state_138 rec_126 n) x1 x3 x4 vK
def B_K_state_186 (rec_174 : Int64 → Int32 → KV → Option (Int64 × KV)) (rec_186 : Int64 → Int32 → Int32 → KV → Option (Int64 × KV)) (x1 : Int64) (x3 : Int32) (x4 : Int32) (vK : KV) : Option (Int64 × KV) := (if 33 ≤ x4 then (rec_174 x1 (x3 + 1) vK) else (F_K_call__ vK x4 x3).bind (fun u1 => (rec_186 ((x1 * 1009) + (Int32.toInt64 u1.1)) x3 (x4 + 1) u1.2)))
def L_K_state_186 (rec_174 : Int64 → Int32 → KV → Option (Int64 × KV)) : Nat → Int64 → Int32 → Int32 → KV → Option (Int64 × KV)
  | 0 => fun _ _ _ _ => none
  | n + 1 => fun x1 x3 x4 vK => B_K_state_186 rec_174 (L_K_state_186 rec_174 n) x1 x3 x4 vK
def B_K_state_174 (rec_174 : Int64 → Int32 → KV → Option (Int64 × KV)) (x1 : Int64) (x3 : Int32) (vK : KV) : Option (Int64 × KV) := (F_X8_entryCount (vK.1) (vK.2.2.1) (vK.2.2.2.2.2.1)).bind (fun u1 => (if u1 ≤ x3 then (some (x1, vK)) else (L_K_state_186 rec_174 4 x1 x3 30 vK)))
def L_K_state_174 : Nat → Int64 → Int32 → KV → Option (Int64 × KV)
  | 0 => fun _ _ _ => none
  | n + 1 => fun x1 x3 vK => B_K_state_174 (L_K_state_174 n) x1 x3 vK
def B_K_state_126 (rec_126 : Int64 → Int32 → KV → Option (Int64 × KV)) (x1 : Int64) (x3 : Int32) (vK : KV) : Option (Int64 × KV) := (F_X8_umbrellaCount (vK.1) (vK.2.2.1) (vK.2.2.2.2.1)).bind (fun u1 => (if u1 ≤ x3 then (L_K_state_174 61 x1 0 vK) else (L_K_state_138 rec_126 6 x1 x3 24 vK)))
def L_K_state_126 : Nat → Int64 → Int32 → KV → Option (Int64 × KV)
  | 0 => fun _ _ _ => none
  | n + 1 => fun x1 x3 vK => B_K_state_126 (L_K_state_126 n) x1 x3 vK
def B_K_state_78 (rec_78 : Int64 → Int32 → KV → Option (Int64 × KV)) (x1 : Int64) (x3 : Int32) (vK : KV) : Option (Int64 × KV) := (F_X8_guestCount (vK.1) (vK.2.2.1) (vK.2.2.2.1)).bind (fun u1 => (if u1 ≤ x3 then (L_K_state_126 13 x1 0 vK) else (L_K_state_90 rec_78 7 x1 x3 18 vK)))
def L_K_state_78 : Nat → Int64 → Int32 → KV → Option (Int64 × KV)
  | 0 => fun _ _ _ => none
  | n + 1 => fun x1 x3 vK => B_K_state_78 (L_K_state_78 n) x1 x3 vK
def F_K_state (v0 : KV) : Option (Int64 × KV) := (F_X8_minute (v0.1) (v0.2.2.1)).bind (fun u1 => (F_X8_rain (v0.1) (v0.2.2.1)).bind (fun u2 => (F_X8_noiseLimit (v0.1) (v0.2.2.1)).bind (fun u3 => (F_X8_noise (v0.1) (v0.2.2.1)).bind (fun u4 => (F_X8_complaints (v0.1) (v0.2.2.1)).bind (fun u5 => (F_X8_puddle (v0.1) (v0.2.2.1)).bind (fun u6 => (F_X8_tips (v0.1) (v0.2.2.1)).bind (fun u7 => (L_K_state_78 11 ((((((((((((7 * (Int32.toInt64 u1)) + (Int32.toInt64 u2)) * 1009) + (Int32.toInt64 u3)) * 1009) + (Int32.toInt64 u4)) * 101) + (Int32.toInt64 u5)) * 1009) + (Int32.toInt64 u6)) * 101) + (Int32.toInt64 u7)) 0 v0))))))))
abbrev rm_L_state : Room := { frames := 11, cells := 1197, slots := 6 * 1197, locals := 244 }
set_option maxHeartbeats 16000000 in
set_option maxRecDepth 100000 in
theorem c_K_state (E : Ev) (l : Launch) (hst : l.stackTraces = false) (k : KA) (v0 : KV) (r : Int64 × KV) (hf : F_K_state v0 = some r) : LM E l yL_state (.code yL_state cL_state 5 (some .long) :: GA) rm_L_state [.ref k.1] (W_K E k v0) (some (.long r.1)) (W_K E k r.2) 1197 := by
  refine LM.of0 (own := RL) rfl (by decide) (Nat.le_of_ble_eq_true rfl) ?_
  intro p e s m below meth c A ls hx hb hr hml hown hg hlocks hK hE hN hA hP hD hS hl
  have hl : lv_has ls 5 [(0, .ref k.1)] := hl
  have lp_174 : ∀ (n : Nat) (x1 : Int64) (x3 : Int32) (vK : KV) (cs : Nat) (H : Heap) (locs : List Loc) (ls : Array Slot), L_K_state_174 n x1 x3 vK = some r → cs + n * 12 + 0 ≤ 1197 → va_P E.1 vwCl (W_K E k vK ++ []) H → va_D A (W_K E k vK ++ []) → va_S A s.heap H locs → lv_has ls 5 [(0, .ref k.1), (1, .long x1), (3, .int x3)] → W p l e rm_L_state s m ([.ref k.1] : List Value).toArray below meth c H locs cs (6 * cs) (vx_MQ below (QW E (some (.long r.1)) (W_K E k r.2) A) (fun _ _ _ => False) ([.ref k.1] : List Value).toArray s 1197 (6 * 1197) A) (F0 m 174 ls []) := by
    intro n_174
    induction n_174 with
    | zero => intro x1 x3 vK cs H locs ls hf; cases hf
    | succ n_174 ih_174 =>
      have lp_186 : ∀ (n : Nat) (x1 : Int64) (x3 : Int32) (x4 : Int32) (vK : KV) (cs : Nat) (H : Heap) (locs : List Loc) (ls : Array Slot), L_K_state_186 (L_K_state_174 n_174) n x1 x3 x4 vK = some r → cs + n * 3 + 0 + (n_174 * 12 + 0) ≤ 1197 → va_P E.1 vwCl (W_K E k vK ++ []) H → va_D A (W_K E k vK ++ []) → va_S A s.heap H locs → lv_has ls 5 [(0, .ref k.1), (1, .long x1), (3, .int x3), (4, .int x4)] → W p l e rm_L_state s m ([.ref k.1] : List Value).toArray below meth c H locs cs (6 * cs) (vx_MQ below (QW E (some (.long r.1)) (W_K E k r.2) A) (fun _ _ _ => False) ([.ref k.1] : List Value).toArray s 1197 (6 * 1197) A) (F0 m 186 ls []) := by
        intro n_186
        induction n_186 with
        | zero => intro x1 x3 x4 vK cs H locs ls hf; cases hf
        | succ n_186 ih_186 =>
          intro x1 x3 x4 vK cs H locs ls hf hc hP hD hS hl
          replace hf : B_K_state_186 (L_K_state_174 n_174) (L_K_state_186 (L_K_state_174 n_174) n_186) x1 x3 x4 vK = some r := hf
          unfold B_K_state_186 at hf
          refine lv_iload hx hb dL_state_186 (lv_at hl 3 rfl) ?_
          refine lv_bipush (v := 33) hx hb dL_state_188 (by decide) ?_
          refine lv_icmp_ge (tgt := 214) hx hb dL_state_190 (by decide) (fun cq => ?_) (fun cq => ?_)
          · have hf := it cq hf
            refine lv_iinc (v := (x3 + 1)) (lv' := [(3, .int (x3 + 1)), (0, .ref k.1), (1, .long x1), (4, .int x4)]) hx hb dL_state_214 hl (k := 2) rfl rfl (by decide) rfl (fun ls hl => ?_)
            refine lv_goto (tgt := 174) hx hb dL_state_217 (by decide) ?_
            exact ih_174 _ _ _ _ _ _ _ hf (by omega) hP hD hS (lv_sub hl [1, 2, 0] rfl)
          · have hf := ie cq hf
            refine lv_lload_n hx hb dL_state_193 rfl (lv_at hl 1 rfl) ?_
            refine lv_ldc2 (v := 1009) hx hb hown (hg _ kl_L_224) dL_state_194 ?_
            refine lv_lmul hx hb dL_state_197 ?_
            refine lv_aload_n hx hb dL_state_198 rfl (lv_at hl 0 rfl) ?_
            refine lv_iload hx hb dL_state_199 (lv_at hl 3 rfl) ?_
            refine lv_iload_n hx hb dL_state_201 rfl (lv_at hl 2 rfl) ?_
            obtain ⟨u1, hu1, hf⟩ := bn hf
            refine lk_S (As := [.ref k.1, .int x4, .int x3]) (rest := [.long (x1 * 1009)]) (wr := []) hx hb hml hown hg (c_K_call__ E l hst k vK x4 x3 u1 hu1) cs_L_call__ ml_L_171 ⟨⟨rfl, rfl⟩, Nat.le_of_ble_eq_true rfl, Nat.le_of_ble_eq_true rfl⟩ hK hE hN hP hD hS hA (W_Ka E k _ _) rfl hl.1 rfl (Nat.le_of_ble_eq_true rfl) dL_state_202 ⟨by show _ ≤ 1197; omega, by show _ ≤ 6 * 1197; omega⟩ [.int u1.1, .long (x1 * 1009)] rfl (fun H locs hP hD hS => ?_)
            refine lv_i2l (v := (Int32.toInt64 u1.1)) hx hb dL_state_205 rfl ?_
            refine lv_ladd hx hb dL_state_206 ?_
            refine lv_lstore_n (lv' := [(1, .long ((x1 * 1009) + (Int32.toInt64 u1.1))), (0, .ref k.1), (3, .int x3), (4, .int x4)]) hx hb dL_state_207 rfl hl (by decide) rfl (fun ls hl => ?_)
            refine lv_iinc (v := (x4 + 1)) (lv' := [(4, .int (x4 + 1)), (1, .long ((x1 * 1009) + (Int32.toInt64 u1.1))), (0, .ref k.1), (3, .int x3)]) hx hb dL_state_208 hl (k := 3) rfl rfl (by decide) rfl (fun ls hl => ?_)
            refine lv_goto (tgt := 186) hx hb dL_state_211 (by decide) ?_
            exact ih_186 _ _ _ _ _ _ _ _ hf (by omega) hP hD hS (lv_sub hl [2, 1, 3, 0] rfl)
      intro x1 x3 vK cs H locs ls hf hc hP hD hS hl
      replace hf : B_K_state_174 (L_K_state_174 n_174) x1 x3 vK = some r := hf
      unfold B_K_state_174 at hf
      refine lv_iload_n hx hb dL_state_174 rfl (lv_at hl 2 rfl) ?_
      refine lv_aload_n hx hb dL_state_175 rfl (lv_at hl 0 rfl) ?_
      obtain ⟨u1, hu1, hf⟩ := bn hf
      refine lk_V (As := []) (rest := [.int x3]) (wr := []) hx hb hml hown hg (k_X8_entryCount E l k vK u1 hu1) cy_X8_entryCount ml_L_249 ⟨⟨rfl, rfl⟩, Nat.le_of_ble_eq_true rfl, Nat.le_of_ble_eq_true rfl⟩ hK hE hP hD hS hA (W_Ka E k _ _) rfl rfl rfl hl.1 rfl (Nat.le_of_ble_eq_true rfl) dL_state_176 ⟨by show _ ≤ 1197; omega, by show _ ≤ 6 * 1197; omega⟩ [.int u1, .int x3] rfl (fun H locs hP hD hS => ?_)
      refine lv_icmp_ge (tgt := 220) hx hb dL_state_179 (by decide) (fun cq => ?_) (fun cq => ?_)
      · have hf := it cq hf
        refine lv_lload_n hx hb dL_state_220 rfl (lv_at hl 1 rfl) ?_
        obtain rfl := Option.some.inj hf
        exact lm_lret hx hb hr hlocks (lk_P1 hP) hS dL_state_221 (by omega) (by omega)
      · have hf := ie cq hf
        refine lv_bipush (v := 30) hx hb dL_state_182 (by decide) ?_
        refine lv_istore (lv' := [(4, .int 30), (0, .ref k.1), (1, .long x1), (3, .int x3)]) hx hb dL_state_184 hl (by decide) rfl (fun ls hl => ?_)
        exact lp_186 4 _ _ _ _ _ _ _ _ hf (by omega) hP hD hS (lv_sub hl [1, 2, 3, 0] rfl)
  have lp_126 : ∀ (n : Nat) (x1 : Int64) (x3 : Int32) (vK : KV) (cs : Nat) (H : Heap) (locs : List Loc) (ls : Array Slot), L_K_state_126 n x1 x3 vK = some r → cs + n * 18 + 732 ≤ 1197 → va_P E.1 vwCl (W_K E k vK ++ []) H → va_D A (W_K E k vK ++ []) → va_S A s.heap H locs → lv_has ls 5 [(0, .ref k.1), (1, .long x1), (3, .int x3)] → W p l e rm_L_state s m ([.ref k.1] : List Value).toArray below meth c H locs cs (6 * cs) (vx_MQ below (QW E (some (.long r.1)) (W_K E k r.2) A) (fun _ _ _ => False) ([.ref k.1] : List Value).toArray s 1197 (6 * 1197) A) (F0 m 126 ls []) := by
    intro n_126
    induction n_126 with
    | zero => intro x1 x3 vK cs H locs ls hf; cases hf
    | succ n_126 ih_126 =>
      have lp_138 : ∀ (n : Nat) (x1 : Int64) (x3 : Int32) (x4 : Int32) (vK : KV) (cs : Nat) (H : Heap) (locs : List Loc) (ls : Array Slot), L_K_state_138 (L_K_state_126 n_126) n x1 x3 x4 vK = some r → cs + n * 3 + 0 + (n_126 * 18 + 732) ≤ 1197 → va_P E.1 vwCl (W_K E k vK ++ []) H → va_D A (W_K E k vK ++ []) → va_S A s.heap H locs → lv_has ls 5 [(0, .ref k.1), (1, .long x1), (3, .int x3), (4, .int x4)] → W p l e rm_L_state s m ([.ref k.1] : List Value).toArray below meth c H locs cs (6 * cs) (vx_MQ below (QW E (some (.long r.1)) (W_K E k r.2) A) (fun _ _ _ => False) ([.ref k.1] : List Value).toArray s 1197 (6 * 1197) A) (F0 m 138 ls []) := by
        intro n_138
        induction n_138 with
        | zero => intro x1 x3 x4 vK cs H locs ls hf; cases hf
        | succ n_138 ih_138 =>
          intro x1 x3 x4 vK cs H locs ls hf hc hP hD hS hl
          replace hf : B_K_state_138 (L_K_state_126 n_126) (L_K_state_138 (L_K_state_126 n_126) n_138) x1 x3 x4 vK = some r := hf
          unfold B_K_state_138 at hf
          refine lv_iload hx hb dL_state_138 (lv_at hl 3 rfl) ?_
          refine lv_bipush (v := 29) hx hb dL_state_140 (by decide) ?_
          refine lv_icmp_ge (tgt := 166) hx hb dL_state_142 (by decide) (fun cq => ?_) (fun cq => ?_)
          · have hf := it cq hf
            refine lv_iinc (v := (x3 + 1)) (lv' := [(3, .int (x3 + 1)), (0, .ref k.1), (1, .long x1), (4, .int x4)]) hx hb dL_state_166 hl (k := 2) rfl rfl (by decide) rfl (fun ls hl => ?_)
            refine lv_goto (tgt := 126) hx hb dL_state_169 (by decide) ?_
            exact ih_126 _ _ _ _ _ _ _ hf (by omega) hP hD hS (lv_sub hl [1, 2, 0] rfl)
          · have hf := ie cq hf
            refine lv_lload_n hx hb dL_state_145 rfl (lv_at hl 1 rfl) ?_
            refine lv_ldc2 (v := 101) hx hb hown (hg _ kl_L_232) dL_state_146 ?_
            refine lv_lmul hx hb dL_state_149 ?_
            refine lv_aload_n hx hb dL_state_150 rfl (lv_at hl 0 rfl) ?_
            refine lv_iload hx hb dL_state_151 (lv_at hl 3 rfl) ?_
            refine lv_iload_n hx hb dL_state_153 rfl (lv_at hl 2 rfl) ?_
            obtain ⟨u1, hu1, hf⟩ := bn hf
            refine lk_S (As := [.ref k.1, .int x4, .int x3]) (rest := [.long (x1 * 101)]) (wr := []) hx hb hml hown hg (c_K_call__ E l hst k vK x4 x3 u1 hu1) cs_L_call__ ml_L_171 ⟨⟨rfl, rfl⟩, Nat.le_of_ble_eq_true rfl, Nat.le_of_ble_eq_true rfl⟩ hK hE hN hP hD hS hA (W_Ka E k _ _) rfl hl.1 rfl (Nat.le_of_ble_eq_true rfl) dL_state_154 ⟨by show _ ≤ 1197; omega, by show _ ≤ 6 * 1197; omega⟩ [.int u1.1, .long (x1 * 101)] rfl (fun H locs hP hD hS => ?_)
            refine lv_i2l (v := (Int32.toInt64 u1.1)) hx hb dL_state_157 rfl ?_
            refine lv_ladd hx hb dL_state_158 ?_
            refine lv_lstore_n (lv' := [(1, .long ((x1 * 101) + (Int32.toInt64 u1.1))), (0, .ref k.1), (3, .int x3), (4, .int x4)]) hx hb dL_state_159 rfl hl (by decide) rfl (fun ls hl => ?_)
            refine lv_iinc (v := (x4 + 1)) (lv' := [(4, .int (x4 + 1)), (1, .long ((x1 * 101) + (Int32.toInt64 u1.1))), (0, .ref k.1), (3, .int x3)]) hx hb dL_state_160 hl (k := 3) rfl rfl (by decide) rfl (fun ls hl => ?_)
            refine lv_goto (tgt := 138) hx hb dL_state_163 (by decide) ?_
            exact ih_138 _ _ _ _ _ _ _ _ hf (by omega) hP hD hS (lv_sub hl [2, 1, 3, 0] rfl)
      intro x1 x3 vK cs H locs ls hf hc hP hD hS hl
      replace hf : B_K_state_126 (L_K_state_126 n_126) x1 x3 vK = some r := hf
      unfold B_K_state_126 at hf
      refine lv_iload_n hx hb dL_state_126 rfl (lv_at hl 2 rfl) ?_
      refine lv_aload_n hx hb dL_state_127 rfl (lv_at hl 0 rfl) ?_
      obtain ⟨u1, hu1, hf⟩ := bn hf
      refine lk_V (As := []) (rest := [.int x3]) (wr := []) hx hb hml hown hg (k_X8_umbrellaCount E l k vK u1 hu1) cy_X8_umbrellaCount ml_L_246 ⟨⟨rfl, rfl⟩, Nat.le_of_ble_eq_true rfl, Nat.le_of_ble_eq_true rfl⟩ hK hE hP hD hS hA (W_Ka E k _ _) rfl rfl rfl hl.1 rfl (Nat.le_of_ble_eq_true rfl) dL_state_128 ⟨by show _ ≤ 1197; omega, by show _ ≤ 6 * 1197; omega⟩ [.int u1, .int x3] rfl (fun H locs hP hD hS => ?_)
      refine lv_icmp_ge (tgt := 172) hx hb dL_state_131 (by decide) (fun cq => ?_) (fun cq => ?_)
      · have hf := it cq hf
        refine lv_iconst (v := 0) hx hb dL_state_172 (by decide) ?_
        refine lv_istore_n (lv' := [(3, .int 0), (0, .ref k.1), (1, .long x1)]) hx hb dL_state_173 rfl hl (by decide) rfl (fun ls hl => ?_)
        exact lp_174 61 _ _ _ _ _ _ _ hf (by omega) hP hD hS (lv_sub hl [1, 2, 0] rfl)
      · have hf := ie cq hf
        refine lv_bipush (v := 24) hx hb dL_state_134 (by decide) ?_
        refine lv_istore (lv' := [(4, .int 24), (0, .ref k.1), (1, .long x1), (3, .int x3)]) hx hb dL_state_136 hl (by decide) rfl (fun ls hl => ?_)
        exact lp_138 6 _ _ _ _ _ _ _ _ hf (by omega) hP hD hS (lv_sub hl [1, 2, 3, 0] rfl)
  have lp_78 : ∀ (n : Nat) (x1 : Int64) (x3 : Int32) (vK : KV) (cs : Nat) (H : Heap) (locs : List Loc) (ls : Array Slot), L_K_state_78 n x1 x3 vK = some r → cs + n * 21 + 966 ≤ 1197 → va_P E.1 vwCl (W_K E k vK ++ []) H → va_D A (W_K E k vK ++ []) → va_S A s.heap H locs → lv_has ls 5 [(0, .ref k.1), (1, .long x1), (3, .int x3)] → W p l e rm_L_state s m ([.ref k.1] : List Value).toArray below meth c H locs cs (6 * cs) (vx_MQ below (QW E (some (.long r.1)) (W_K E k r.2) A) (fun _ _ _ => False) ([.ref k.1] : List Value).toArray s 1197 (6 * 1197) A) (F0 m 78 ls []) := by
    intro n_78
    induction n_78 with
    | zero => intro x1 x3 vK cs H locs ls hf; cases hf
    | succ n_78 ih_78 =>
      have lp_90 : ∀ (n : Nat) (x1 : Int64) (x3 : Int32) (x4 : Int32) (vK : KV) (cs : Nat) (H : Heap) (locs : List Loc) (ls : Array Slot), L_K_state_90 (L_K_state_78 n_78) n x1 x3 x4 vK = some r → cs + n * 3 + 0 + (n_78 * 21 + 966) ≤ 1197 → va_P E.1 vwCl (W_K E k vK ++ []) H → va_D A (W_K E k vK ++ []) → va_S A s.heap H locs → lv_has ls 5 [(0, .ref k.1), (1, .long x1), (3, .int x3), (4, .int x4)] → W p l e rm_L_state s m ([.ref k.1] : List Value).toArray below meth c H locs cs (6 * cs) (vx_MQ below (QW E (some (.long r.1)) (W_K E k r.2) A) (fun _ _ _ => False) ([.ref k.1] : List Value).toArray s 1197 (6 * 1197) A) (F0 m 90 ls []) := by
        intro n_90
        induction n_90 with
        | zero => intro x1 x3 x4 vK cs H locs ls hf; cases hf
        | succ n_90 ih_90 =>
          intro x1 x3 x4 vK cs H locs ls hf hc hP hD hS hl
          replace hf : B_K_state_90 (L_K_state_78 n_78) (L_K_state_90 (L_K_state_78 n_78) n_90) x1 x3 x4 vK = some r := hf
          unfold B_K_state_90 at hf
          refine lv_iload hx hb dL_state_90 (lv_at hl 3 rfl) ?_
          refine lv_bipush (v := 24) hx hb dL_state_92 (by decide) ?_
          refine lv_icmp_ge (tgt := 118) hx hb dL_state_94 (by decide) (fun cq => ?_) (fun cq => ?_)
          · have hf := it cq hf
            refine lv_iinc (v := (x3 + 1)) (lv' := [(3, .int (x3 + 1)), (0, .ref k.1), (1, .long x1), (4, .int x4)]) hx hb dL_state_118 hl (k := 2) rfl rfl (by decide) rfl (fun ls hl => ?_)
            refine lv_goto (tgt := 78) hx hb dL_state_121 (by decide) ?_
            exact ih_78 _ _ _ _ _ _ _ hf (by omega) hP hD hS (lv_sub hl [1, 2, 0] rfl)
          · have hf := ie cq hf
            refine lv_lload_n hx hb dL_state_97 rfl (lv_at hl 1 rfl) ?_
            refine lv_ldc2 (v := 1009) hx hb hown (hg _ kl_L_224) dL_state_98 ?_
            refine lv_lmul hx hb dL_state_101 ?_
            refine lv_aload_n hx hb dL_state_102 rfl (lv_at hl 0 rfl) ?_
            refine lv_iload hx hb dL_state_103 (lv_at hl 3 rfl) ?_
            refine lv_iload_n hx hb dL_state_105 rfl (lv_at hl 2 rfl) ?_
            obtain ⟨u1, hu1, hf⟩ := bn hf
            refine lk_S (As := [.ref k.1, .int x4, .int x3]) (rest := [.long (x1 * 1009)]) (wr := []) hx hb hml hown hg (c_K_call__ E l hst k vK x4 x3 u1 hu1) cs_L_call__ ml_L_171 ⟨⟨rfl, rfl⟩, Nat.le_of_ble_eq_true rfl, Nat.le_of_ble_eq_true rfl⟩ hK hE hN hP hD hS hA (W_Ka E k _ _) rfl hl.1 rfl (Nat.le_of_ble_eq_true rfl) dL_state_106 ⟨by show _ ≤ 1197; omega, by show _ ≤ 6 * 1197; omega⟩ [.int u1.1, .long (x1 * 1009)] rfl (fun H locs hP hD hS => ?_)
            refine lv_i2l (v := (Int32.toInt64 u1.1)) hx hb dL_state_109 rfl ?_
            refine lv_ladd hx hb dL_state_110 ?_
            refine lv_lstore_n (lv' := [(1, .long ((x1 * 1009) + (Int32.toInt64 u1.1))), (0, .ref k.1), (3, .int x3), (4, .int x4)]) hx hb dL_state_111 rfl hl (by decide) rfl (fun ls hl => ?_)
            refine lv_iinc (v := (x4 + 1)) (lv' := [(4, .int (x4 + 1)), (1, .long ((x1 * 1009) + (Int32.toInt64 u1.1))), (0, .ref k.1), (3, .int x3)]) hx hb dL_state_112 hl (k := 3) rfl rfl (by decide) rfl (fun ls hl => ?_)
            refine lv_goto (tgt := 90) hx hb dL_state_115 (by decide) ?_
            exact ih_90 _ _ _ _ _ _ _ _ hf (by omega) hP hD hS (lv_sub hl [2, 1, 3, 0] rfl)
      intro x1 x3 vK cs H locs ls hf hc hP hD hS hl
      replace hf : B_K_state_78 (L_K_state_78 n_78) x1 x3 vK = some r := hf
      unfold B_K_state_78 at hf
      refine lv_iload_n hx hb dL_state_78 rfl (lv_at hl 2 rfl) ?_
      refine lv_aload_n hx hb dL_state_79 rfl (lv_at hl 0 rfl) ?_
      obtain ⟨u1, hu1, hf⟩ := bn hf
      refine lk_V (As := []) (rest := [.int x3]) (wr := []) hx hb hml hown hg (k_X8_guestCount E l k vK u1 hu1) cy_X8_guestCount ml_L_243 ⟨⟨rfl, rfl⟩, Nat.le_of_ble_eq_true rfl, Nat.le_of_ble_eq_true rfl⟩ hK hE hP hD hS hA (W_Ka E k _ _) rfl rfl rfl hl.1 rfl (Nat.le_of_ble_eq_true rfl) dL_state_80 ⟨by show _ ≤ 1197; omega, by show _ ≤ 6 * 1197; omega⟩ [.int u1, .int x3] rfl (fun H locs hP hD hS => ?_)
      refine lv_icmp_ge (tgt := 124) hx hb dL_state_83 (by decide) (fun cq => ?_) (fun cq => ?_)
      · have hf := it cq hf
        refine lv_iconst (v := 0) hx hb dL_state_124 (by decide) ?_
        refine lv_istore_n (lv' := [(3, .int 0), (0, .ref k.1), (1, .long x1)]) hx hb dL_state_125 rfl hl (by decide) rfl (fun ls hl => ?_)
        exact lp_126 13 _ _ _ _ _ _ _ hf (by omega) hP hD hS (lv_sub hl [1, 2, 0] rfl)
      · have hf := ie cq hf
        refine lv_bipush (v := 18) hx hb dL_state_86 (by decide) ?_
        refine lv_istore (lv' := [(4, .int 18), (0, .ref k.1), (1, .long x1), (3, .int x3)]) hx hb dL_state_88 hl (by decide) rfl (fun ls hl => ?_)
        exact lp_90 7 _ _ _ _ _ _ _ _ hf (by omega) hP hD hS (lv_sub hl [1, 2, 3, 0] rfl)
  unfold F_K_state at hf
  have hc : 0 ≤ 1197 := Nat.zero_le _
  have hP : va_P E.1 vwCl (W_K E k v0 ++ []) s.heap := by rw [List.append_nil]; exact hP
  have hD : va_D A (W_K E k v0 ++ []) := by rw [List.append_nil]; exact hD
  refine W.eqS (n := 6 * 0) rfl ?_
  refine lv_ldc2 (v := 7) hx hb hown (hg _ kl_L_216) dL_state_0 ?_
  refine lv_aload_n hx hb dL_state_3 rfl (lv_at hl 0 rfl) ?_
  obtain ⟨u1, hu1, hf⟩ := bn hf
  refine lk_V (As := []) (rest := [.long 7]) (wr := []) hx hb hml hown hg (k_X8_minute E l k v0 u1 hu1) cy_X8_minute ml_L_218 ⟨⟨rfl, rfl⟩, Nat.le_of_ble_eq_true rfl, Nat.le_of_ble_eq_true rfl⟩ hK hE hP hD hS hA (W_Ka E k _ _) rfl rfl rfl hl.1 rfl (Nat.le_of_ble_eq_true rfl) dL_state_4 ⟨by show _ ≤ 1197; omega, by show _ ≤ 6 * 1197; omega⟩ [.int u1, .long 7] rfl (fun H locs hP hD hS => ?_)
  refine lv_i2l (v := (Int32.toInt64 u1)) hx hb dL_state_7 rfl ?_
  refine lv_lmul hx hb dL_state_8 ?_
  refine lv_aload_n hx hb dL_state_9 rfl (lv_at hl 0 rfl) ?_
  obtain ⟨u2, hu2, hf⟩ := bn hf
  refine lk_V (As := []) (rest := [.long (7 * (Int32.toInt64 u1))]) (wr := []) hx hb hml hown hg (k_X8_rain E l k v0 u2 hu2) cy_X8_rain ml_L_221 ⟨⟨rfl, rfl⟩, Nat.le_of_ble_eq_true rfl, Nat.le_of_ble_eq_true rfl⟩ hK hE hP hD hS hA (W_Ka E k _ _) rfl rfl rfl hl.1 rfl (Nat.le_of_ble_eq_true rfl) dL_state_10 ⟨by show _ ≤ 1197; omega, by show _ ≤ 6 * 1197; omega⟩ [.int u2, .long (7 * (Int32.toInt64 u1))] rfl (fun H locs hP hD hS => ?_)
  refine lv_i2l (v := (Int32.toInt64 u2)) hx hb dL_state_13 rfl ?_
  refine lv_ladd hx hb dL_state_14 ?_
  refine lv_lstore_n (lv' := [(1, .long ((7 * (Int32.toInt64 u1)) + (Int32.toInt64 u2))), (0, .ref k.1)]) hx hb dL_state_15 rfl hl (by decide) rfl (fun ls hl => ?_)
  refine lv_lload_n hx hb dL_state_16 rfl (lv_at hl 0 rfl) ?_
  refine lv_ldc2 (v := 1009) hx hb hown (hg _ kl_L_224) dL_state_17 ?_
  refine lv_lmul hx hb dL_state_20 ?_
  refine lv_aload_n hx hb dL_state_21 rfl (lv_at hl 1 rfl) ?_
  obtain ⟨u3, hu3, hf⟩ := bn hf
  refine lk_V (As := []) (rest := [.long (((7 * (Int32.toInt64 u1)) + (Int32.toInt64 u2)) * 1009)]) (wr := []) hx hb hml hown hg (k_X8_noiseLimit E l k v0 u3 hu3) cy_X8_noiseLimit ml_L_226 ⟨⟨rfl, rfl⟩, Nat.le_of_ble_eq_true rfl, Nat.le_of_ble_eq_true rfl⟩ hK hE hP hD hS hA (W_Ka E k _ _) rfl rfl rfl hl.1 rfl (Nat.le_of_ble_eq_true rfl) dL_state_22 ⟨by show _ ≤ 1197; omega, by show _ ≤ 6 * 1197; omega⟩ [.int u3, .long (((7 * (Int32.toInt64 u1)) + (Int32.toInt64 u2)) * 1009)] rfl (fun H locs hP hD hS => ?_)
  refine lv_i2l (v := (Int32.toInt64 u3)) hx hb dL_state_25 rfl ?_
  refine lv_ladd hx hb dL_state_26 ?_
  refine lv_lstore_n (lv' := [(1, .long ((((7 * (Int32.toInt64 u1)) + (Int32.toInt64 u2)) * 1009) + (Int32.toInt64 u3))), (0, .ref k.1)]) hx hb dL_state_27 rfl hl (by decide) rfl (fun ls hl => ?_)
  refine lv_lload_n hx hb dL_state_28 rfl (lv_at hl 0 rfl) ?_
  refine lv_ldc2 (v := 1009) hx hb hown (hg _ kl_L_224) dL_state_29 ?_
  refine lv_lmul hx hb dL_state_32 ?_
  refine lv_aload_n hx hb dL_state_33 rfl (lv_at hl 1 rfl) ?_
  obtain ⟨u4, hu4, hf⟩ := bn hf
  refine lk_V (As := []) (rest := [.long (((((7 * (Int32.toInt64 u1)) + (Int32.toInt64 u2)) * 1009) + (Int32.toInt64 u3)) * 1009)]) (wr := []) hx hb hml hown hg (k_X8_noise E l k v0 u4 hu4) cy_X8_noise ml_L_229 ⟨⟨rfl, rfl⟩, Nat.le_of_ble_eq_true rfl, Nat.le_of_ble_eq_true rfl⟩ hK hE hP hD hS hA (W_Ka E k _ _) rfl rfl rfl hl.1 rfl (Nat.le_of_ble_eq_true rfl) dL_state_34 ⟨by show _ ≤ 1197; omega, by show _ ≤ 6 * 1197; omega⟩ [.int u4, .long (((((7 * (Int32.toInt64 u1)) + (Int32.toInt64 u2)) * 1009) + (Int32.toInt64 u3)) * 1009)] rfl (fun H locs hP hD hS => ?_)
  refine lv_i2l (v := (Int32.toInt64 u4)) hx hb dL_state_37 rfl ?_
  refine lv_ladd hx hb dL_state_38 ?_
  refine lv_lstore_n (lv' := [(1, .long ((((((7 * (Int32.toInt64 u1)) + (Int32.toInt64 u2)) * 1009) + (Int32.toInt64 u3)) * 1009) + (Int32.toInt64 u4))), (0, .ref k.1)]) hx hb dL_state_39 rfl hl (by decide) rfl (fun ls hl => ?_)
  refine lv_lload_n hx hb dL_state_40 rfl (lv_at hl 0 rfl) ?_
  refine lv_ldc2 (v := 101) hx hb hown (hg _ kl_L_232) dL_state_41 ?_
  refine lv_lmul hx hb dL_state_44 ?_
  refine lv_aload_n hx hb dL_state_45 rfl (lv_at hl 1 rfl) ?_
  obtain ⟨u5, hu5, hf⟩ := bn hf
  refine lk_V (As := []) (rest := [.long (((((((7 * (Int32.toInt64 u1)) + (Int32.toInt64 u2)) * 1009) + (Int32.toInt64 u3)) * 1009) + (Int32.toInt64 u4)) * 101)]) (wr := []) hx hb hml hown hg (k_X8_complaints E l k v0 u5 hu5) cy_X8_complaints ml_L_234 ⟨⟨rfl, rfl⟩, Nat.le_of_ble_eq_true rfl, Nat.le_of_ble_eq_true rfl⟩ hK hE hP hD hS hA (W_Ka E k _ _) rfl rfl rfl hl.1 rfl (Nat.le_of_ble_eq_true rfl) dL_state_46 ⟨by show _ ≤ 1197; omega, by show _ ≤ 6 * 1197; omega⟩ [.int u5, .long (((((((7 * (Int32.toInt64 u1)) + (Int32.toInt64 u2)) * 1009) + (Int32.toInt64 u3)) * 1009) + (Int32.toInt64 u4)) * 101)] rfl (fun H locs hP hD hS => ?_)
  refine lv_i2l (v := (Int32.toInt64 u5)) hx hb dL_state_49 rfl ?_
  refine lv_ladd hx hb dL_state_50 ?_
  refine lv_lstore_n (lv' := [(1, .long ((((((((7 * (Int32.toInt64 u1)) + (Int32.toInt64 u2)) * 1009) + (Int32.toInt64 u3)) * 1009) + (Int32.toInt64 u4)) * 101) + (Int32.toInt64 u5))), (0, .ref k.1)]) hx hb dL_state_51 rfl hl (by decide) rfl (fun ls hl => ?_)
  refine lv_lload_n hx hb dL_state_52 rfl (lv_at hl 0 rfl) ?_
  refine lv_ldc2 (v := 1009) hx hb hown (hg _ kl_L_224) dL_state_53 ?_
  refine lv_lmul hx hb dL_state_56 ?_
  refine lv_aload_n hx hb dL_state_57 rfl (lv_at hl 1 rfl) ?_
  obtain ⟨u6, hu6, hf⟩ := bn hf
  refine lk_V (As := []) (rest := [.long (((((((((7 * (Int32.toInt64 u1)) + (Int32.toInt64 u2)) * 1009) + (Int32.toInt64 u3)) * 1009) + (Int32.toInt64 u4)) * 101) + (Int32.toInt64 u5)) * 1009)]) (wr := []) hx hb hml hown hg (k_X8_puddle E l k v0 u6 hu6) cy_X8_puddle ml_L_237 ⟨⟨rfl, rfl⟩, Nat.le_of_ble_eq_true rfl, Nat.le_of_ble_eq_true rfl⟩ hK hE hP hD hS hA (W_Ka E k _ _) rfl rfl rfl hl.1 rfl (Nat.le_of_ble_eq_true rfl) dL_state_58 ⟨by show _ ≤ 1197; omega, by show _ ≤ 6 * 1197; omega⟩ [.int u6, .long (((((((((7 * (Int32.toInt64 u1)) + (Int32.toInt64 u2)) * 1009) + (Int32.toInt64 u3)) * 1009) + (Int32.toInt64 u4)) * 101) + (Int32.toInt64 u5)) * 1009)] rfl (fun H locs hP hD hS => ?_)
  refine lv_i2l (v := (Int32.toInt64 u6)) hx hb dL_state_61 rfl ?_
  refine lv_ladd hx hb dL_state_62 ?_
  refine lv_lstore_n (lv' := [(1, .long ((((((((((7 * (Int32.toInt64 u1)) + (Int32.toInt64 u2)) * 1009) + (Int32.toInt64 u3)) * 1009) + (Int32.toInt64 u4)) * 101) + (Int32.toInt64 u5)) * 1009) + (Int32.toInt64 u6))), (0, .ref k.1)]) hx hb dL_state_63 rfl hl (by decide) rfl (fun ls hl => ?_)
  refine lv_lload_n hx hb dL_state_64 rfl (lv_at hl 0 rfl) ?_
  refine lv_ldc2 (v := 101) hx hb hown (hg _ kl_L_232) dL_state_65 ?_
  refine lv_lmul hx hb dL_state_68 ?_
  refine lv_aload_n hx hb dL_state_69 rfl (lv_at hl 1 rfl) ?_
  obtain ⟨u7, hu7, hf⟩ := bn hf
  refine lk_V (As := []) (rest := [.long (((((((((((7 * (Int32.toInt64 u1)) + (Int32.toInt64 u2)) * 1009) + (Int32.toInt64 u3)) * 1009) + (Int32.toInt64 u4)) * 101) + (Int32.toInt64 u5)) * 1009) + (Int32.toInt64 u6)) * 101)]) (wr := []) hx hb hml hown hg (k_X8_tips E l k v0 u7 hu7) cy_X8_tips ml_L_240 ⟨⟨rfl, rfl⟩, Nat.le_of_ble_eq_true rfl, Nat.le_of_ble_eq_true rfl⟩ hK hE hP hD hS hA (W_Ka E k _ _) rfl rfl rfl hl.1 rfl (Nat.le_of_ble_eq_true rfl) dL_state_70 ⟨by show _ ≤ 1197; omega, by show _ ≤ 6 * 1197; omega⟩ [.int u7, .long (((((((((((7 * (Int32.toInt64 u1)) + (Int32.toInt64 u2)) * 1009) + (Int32.toInt64 u3)) * 1009) + (Int32.toInt64 u4)) * 101) + (Int32.toInt64 u5)) * 1009) + (Int32.toInt64 u6)) * 101)] rfl (fun H locs hP hD hS => ?_)
  refine lv_i2l (v := (Int32.toInt64 u7)) hx hb dL_state_73 rfl ?_
  refine lv_ladd hx hb dL_state_74 ?_
  refine lv_lstore_n (lv' := [(1, .long ((((((((((((7 * (Int32.toInt64 u1)) + (Int32.toInt64 u2)) * 1009) + (Int32.toInt64 u3)) * 1009) + (Int32.toInt64 u4)) * 101) + (Int32.toInt64 u5)) * 1009) + (Int32.toInt64 u6)) * 101) + (Int32.toInt64 u7))), (0, .ref k.1)]) hx hb dL_state_75 rfl hl (by decide) rfl (fun ls hl => ?_)
  refine lv_iconst (v := 0) hx hb dL_state_76 (by decide) ?_
  refine lv_istore_n (lv' := [(3, .int 0), (1, .long ((((((((((((7 * (Int32.toInt64 u1)) + (Int32.toInt64 u2)) * 1009) + (Int32.toInt64 u3)) * 1009) + (Int32.toInt64 u4)) * 101) + (Int32.toInt64 u5)) * 1009) + (Int32.toInt64 u6)) * 101) + (Int32.toInt64 u7))), (0, .ref k.1)]) hx hb dL_state_77 rfl hl (by decide) rfl (fun ls hl => ?_)
  exact lp_78 11 _ _ _ _ _ _ _ hf (by omega) hP hD hS (lv_sub hl [2, 1, 0] rfl)
