def J_K_alibis_177 (rec_71 : Int32 → Int32 → Int32 → Int32 → Int32 → Int32 → KV → Option (Int32 × KV)) (rec_133 : Int32 → Int32 → Int32 → Int32 → Int32 → Int32 → Int32 → Int32 → Int32 → Int32 → Int32 → KV → Option (Int32 × KV)) (rec_151 : Int32 → Int32 → Int32 → Int32 → Int32 → Int32 → Int32 → Int32 → Int32 → Int32 → Int32 → Int32 → KV → Option (Int32 × KV)) (x1 : Int32) (x2 : Int32) (x3 : Int32) (x4 : Int32) (x6 : Int32) (x7 : Int32) (x8 : Int32) (x9 : Int32) (x10 : Int32) (x11 : Int32) (x13 : Int32) (vK : KV) : Option (Int32 × KV) := (rec_151 x1 x2 x3 x4 x6 x7 x8 x9 x10 x11 1 (x13 + 1) vK)
def J_K_alibis_222 (rec_71 : Int32 → Int32 → Int32 → Int32 → Int32 → Int32 → KV → Option (Int32 × KV)) (rec_133 : Int32 → Int32 → Int32 → Int32 → Int32 → Int32 → Int32 → Int32 → Int32 → Int32 → Int32 → KV → Option (Int32 × KV)) (x1 : Int32) (x2 : Int32) (x3 : Int32) (x4 : Int32) (x6 : Int32) (x7 : Int32) (x8 : Int32) (x9 : Int32) (x10 : Int32) (x11 : Int32) (x12 : Int32) (t0 : Int32) (vK : KV) : Option (Int32 × KV) := (if x12 = 0 then (rec_133 x1 x2 x3 x4 t0 x6 x7 x8 x9 x10 (x11 + 1) vK) else (rec_133 x1 x2 x3 x4 t0 x6 x7 x8 (x9 + 1) x11 (x11 + 1) vK))
def J_K_alibis_214 (rec_71 : Int32 → Int32 → Int32 → Int32 → Int32 → Int32 → KV → Option (Int32 × KV)) (rec_133 : Int32 → Int32 → Int32 → Int32 → Int32 → Int32 → Int32 → Int32 → Int32 → Int32 → Int32 → KV → Option (Int32 × KV)) (x1 : Int32) (x2 : Int32) (x3 : Int32) (x4 : Int32) (x6 : Int32) (x7 : Int32) (x8 : Int32) (x9 : Int32) (x10 : Int32) (x11 : Int32) (x12 : Int32) (t0 : Int32) (t1 : Int32) (vK : KV) : Option (Int32 × KV) := (if t0 = t1 then (J_K_alibis_222 rec_71 rec_133 x1 x2 x3 x4 x6 x7 x8 x9 x10 x11 x12 1 vK) else (J_K_alibis_222 rec_71 rec_133 x1 x2 x3 x4 x6 x7 x8 x9 x10 x11 x12 0 vK))
def B_K_alibis_151 (rec_71 : Int32 → Int32 → Int32 → Int32 → Int32 → Int32 → KV → Option (Int32 × KV)) (rec_133 : Int32 → Int32 → Int32 → Int32 → Int32 → Int32 → Int32 → Int32 → Int32 → Int32 → Int32 → KV → Option (Int32 × KV)) (rec_151 : Int32 → Int32 → Int32 → Int32 → Int32 → Int32 → Int32 → Int32 → Int32 → Int32 → Int32 → Int32 → KV → Option (Int32 × KV)) (x1 : Int32) (x2 : Int32) (x3 : Int32) (x4 : Int32) (x6 : Int32) (x7 : Int32) (x8 : Int32) (x9 : Int32) (x10 : Int32) (x11 : Int32) (x12 : Int32) (x13 : Int32) (vK : KV) : Option (Int32 × KV) := (if x8 < x13 then (F_K_call vK 34 x11 x7 x8 0 0).bind (fun u1 => (if x12 = 0 then (J_K_alibis_214 rec_71 rec_133 x1 x2 x3 x4 x6 x7 x8 x9 x10 x11 x12 u1.1 1 u1.2) else (J_K_alibis_214 rec_71 rec_133 x1 x2 x3 x4 x6 x7 x8 x9 x10 x11 x12 u1.1 0 u1.2))) else (if x12 = 0 then (F_K_call_ vK 33 x11 x13).bind (fun u2 => (if u2.1 = 1 then (J_K_alibis_177 rec_71 rec_133 rec_151 x1 x2 x3 x4 x6 x7 x8 x9 x10 x11 x13 u2.2) else (rec_151 x1 x2 x3 x4 x6 x7 x8 x9 x10 x11 0 (x13 + 1) u2.2))) else (J_K_alibis_177 rec_71 rec_133 rec_151 x1 x2 x3 x4 x6 x7 x8 x9 x10 x11 x13 vK)))
def L_K_alibis_151 (rec_71 : Int32 → Int32 → Int32 → Int32 → Int32 → Int32 → KV → Option (Int32 × KV)) (rec_133 : Int32 → Int32 → Int32 → Int32 → Int32 → Int32 → Int32 → Int32 → Int32 → Int32 → Int32 → KV → Option (Int32 × KV)) : Nat → Int32 → Int32 → Int32 → Int32 → Int32 → Int32 → Int32 → Int32 → Int32 → Int32 → Int32 → Int32 → KV → Option (Int32 × KV)
  | 0 => fun _ _ _ _ _ _ _ _ _ _ _ _ _ => none
  | n + 1 => fun x1 x2 x3 x4 x6 x7 x8 x9 x10 x11 x12 x13 vK => B_K_alibis_151 rec_71 rec_133 (L_K_alibis_151 rec_71 rec_133 n) x1 x2 x3 x4 x6 x7 x8 x9 x10 x11 x12 x13 vK
def J_K_alibis_483 (rec_71 : Int32 → Int32 → Int32 → Int32 → Int32 → Int32 → KV → Option (Int32 × KV)) (x1 : Int32) (x2 : Int32) (x3 : Int32) (x4 : Int32) (x5 : Int32) (x6 : Int32) (vK : KV) : Option (Int32 × KV) := (rec_71 x1 x2 x3 x4 x5 (x6 + 1) vK)
def J_K_alibis_480 (rec_71 : Int32 → Int32 → Int32 → Int32 → Int32 → Int32 → KV → Option (Int32 × KV)) (x1 : Int32) (x2 : Int32) (x3 : Int32) (x4 : Int32) (x6 : Int32) (vK : KV) : Option (Int32 × KV) := (J_K_alibis_483 rec_71 x1 x2 x3 x4 0 x6 vK)
def B_K_alibis_381 (rec_71 : Int32 → Int32 → Int32 → Int32 → Int32 → Int32 → KV → Option (Int32 × KV)) (rec_381 : Int32 → Int32 → Int32 → Int32 → Int32 → Int32 → Int32 → Int32 → Int32 → Int32 → Int32 → KV → Option (Int32 × KV)) (x1 : Int32) (x2 : Int32) (x3 : Int32) (x4 : Int32) (x5 : Int32) (x6 : Int32) (x11 : Int32) (x12 : Int32) (x13 : Int32) (x14 : Int32) (x15 : Int32) (vK : KV) : Option (Int32 × KV) := (if x4 ≤ x15 then (if x5 = 0 then (J_K_alibis_480 rec_71 x1 x2 x3 x4 x6 vK) else (F_K_call__ vK 37 x11).bind (fun u1 => (if u1.1 = x13 then (F_K_call_ u1.2 38 x11 x12).bind (fun u2 => (if u2.1 = x14 then (F_K_call_ u2.2 38 x12 x11).bind (fun u3 => (if u3.1 = x14 then (J_K_alibis_483 rec_71 x1 x2 x3 x4 1 x6 u3.2) else (J_K_alibis_480 rec_71 x1 x2 x3 x4 x6 u3.2))) else (J_K_alibis_480 rec_71 x1 x2 x3 x4 x6 u2.2))) else (J_K_alibis_480 rec_71 x1 x2 x3 x4 x6 u1.2)))) else (F_K_call_ vK 33 x11 x15).bind (fun u4 => (if u4.1 = 0 then (rec_381 x1 x2 x3 x4 x5 x6 x11 x12 x13 x14 (x15 + 1) u4.2) else (F_K_call_ u4.2 33 x12 x15).bind (fun u5 => (rec_381 x1 x2 x3 x4 x5 x6 x11 x12 (x13 + 1) (x14 + u5.1) (x15 + 1) u5.2)))))
def L_K_alibis_381 (rec_71 : Int32 → Int32 → Int32 → Int32 → Int32 → Int32 → KV → Option (Int32 × KV)) : Nat → Int32 → Int32 → Int32 → Int32 → Int32 → Int32 → Int32 → Int32 → Int32 → Int32 → Int32 → KV → Option (Int32 × KV)
  | 0 => fun _ _ _ _ _ _ _ _ _ _ _ _ => none
  | n + 1 => fun x1 x2 x3 x4 x5 x6 x11 x12 x13 x14 x15 vK => B_K_alibis_381 rec_71 (L_K_alibis_381 rec_71 n) x1 x2 x3 x4 x5 x6 x11 x12 x13 x14 x15 vK
def J_K_alibis_358 (rec_71 : Int32 → Int32 → Int32 → Int32 → Int32 → Int32 → KV → Option (Int32 × KV)) (x1 : Int32) (x2 : Int32) (x3 : Int32) (x4 : Int32) (x5 : Int32) (x6 : Int32) (x11 : Int32) (t0 : Int32) (vK : KV) : Option (Int32 × KV) := (if x3 = 0 then (J_K_alibis_483 rec_71 x1 x2 x3 x4 x5 x6 vK) else (if x6 ≤ 0 then (L_K_alibis_381 rec_71 722 x1 x2 x3 x4 x5 x6 x11 t0 0 0 0 vK) else (J_K_alibis_483 rec_71 x1 x2 x3 x4 x5 x6 vK)))
def J_K_alibis_338 (rec_71 : Int32 → Int32 → Int32 → Int32 → Int32 → Int32 → KV → Option (Int32 × KV)) (x1 : Int32) (x2 : Int32) (x3 : Int32) (x4 : Int32) (x5 : Int32) (x6 : Int32) (t0 : Int32) (vK : KV) : Option (Int32 × KV) := (if x3 = 0 then (J_K_alibis_358 rec_71 x1 x2 x3 x4 x5 x6 t0 0 vK) else cn (¬ x3 = 0) ((J_K_alibis_358 rec_71 x1 x2 x3 x4 x5 x6 t0 (((x2 >>> (x6 &&& 31)) &&& 255) - ((x2 >>> (x6 &&& 31)) &&& 255) / x3 * x3) vK)))
def J_K_alibis_318 (rec_71 : Int32 → Int32 → Int32 → Int32 → Int32 → Int32 → KV → Option (Int32 × KV)) (x1 : Int32) (x2 : Int32) (x3 : Int32) (x4 : Int32) (x6 : Int32) (t0 : Int32) (vK : KV) : Option (Int32 × KV) := (if x3 = 0 then (J_K_alibis_338 rec_71 x1 x2 x3 x4 t0 x6 0 vK) else cn (¬ x3 = 0) ((J_K_alibis_338 rec_71 x1 x2 x3 x4 t0 x6 (((x1 >>> (x6 &&& 31)) &&& 255) - ((x1 >>> (x6 &&& 31)) &&& 255) / x3 * x3) vK)))
def J_K_alibis_317 (rec_71 : Int32 → Int32 → Int32 → Int32 → Int32 → Int32 → KV → Option (Int32 × KV)) (x1 : Int32) (x2 : Int32) (x3 : Int32) (x4 : Int32) (x6 : Int32) (vK : KV) : Option (Int32 × KV) := (J_K_alibis_318 rec_71 x1 x2 x3 x4 x6 0 vK)
def J_K_alibis_288 (rec_71 : Int32 → Int32 → Int32 → Int32 → Int32 → Int32 → KV → Option (Int32 × KV)) (x1 : Int32) (x2 : Int32) (x3 : Int32) (x4 : Int32) (x6 : Int32) (x7 : Int32) (x8 : Int32) (t0 : Int32) (t1 : Int32) (vK : KV) : Option (Int32 × KV) := (if t0 = t1 then (if x7 = x8 then (J_K_alibis_318 rec_71 x1 x2 x3 x4 x6 1 vK) else (F_K_call_ vK 35 x8 x7).bind (fun u1 => (if u1.1 = (-103) then (J_K_alibis_318 rec_71 x1 x2 x3 x4 x6 1 u1.2) else (J_K_alibis_317 rec_71 x1 x2 x3 x4 x6 u1.2)))) else (J_K_alibis_317 rec_71 x1 x2 x3 x4 x6 vK))
def J_K_alibis_245 (rec_71 : Int32 → Int32 → Int32 → Int32 → Int32 → Int32 → KV → Option (Int32 × KV)) (x1 : Int32) (x2 : Int32) (x3 : Int32) (x4 : Int32) (x5 : Int32) (x6 : Int32) (x7 : Int32) (x8 : Int32) (x9 : Int32) (x10 : Int32) (vK : KV) : Option (Int32 × KV) := (if x5 = 0 then (J_K_alibis_317 rec_71 x1 x2 x3 x4 x6 vK) else (F_K_call_ vK 35 x7 x8).bind (fun u1 => (if u1.1 = x9 then (F_K_call_ u1.2 36 x7 x8).bind (fun u2 => (if x9 = 1 then (J_K_alibis_288 rec_71 x1 x2 x3 x4 x6 x7 x8 u2.1 x10 u2.2) else (J_K_alibis_288 rec_71 x1 x2 x3 x4 x6 x7 x8 u2.1 (-101) u2.2))) else (J_K_alibis_317 rec_71 x1 x2 x3 x4 x6 u1.2))))
def B_K_alibis_133 (rec_71 : Int32 → Int32 → Int32 → Int32 → Int32 → Int32 → KV → Option (Int32 × KV)) (rec_133 : Int32 → Int32 → Int32 → Int32 → Int32 → Int32 → Int32 → Int32 → Int32 → Int32 → Int32 → KV → Option (Int32 × KV)) (x1 : Int32) (x2 : Int32) (x3 : Int32) (x4 : Int32) (x5 : Int32) (x6 : Int32) (x7 : Int32) (x8 : Int32) (x9 : Int32) (x10 : Int32) (x11 : Int32) (vK : KV) : Option (Int32 × KV) := (if x3 ≤ x11 then (J_K_alibis_245 rec_71 x1 x2 x3 x4 x5 x6 x7 x8 x9 x10 vK) else (if x5 = 0 then (J_K_alibis_245 rec_71 x1 x2 x3 x4 x5 x6 x7 x8 x9 x10 vK) else (L_K_alibis_151 rec_71 rec_133 66 x1 x2 x3 x4 x6 x7 x8 x9 x10 x11 0 x7 vK)))
def L_K_alibis_133 (rec_71 : Int32 → Int32 → Int32 → Int32 → Int32 → Int32 → KV → Option (Int32 × KV)) : Nat → Int32 → Int32 → Int32 → Int32 → Int32 → Int32 → Int32 → Int32 → Int32 → Int32 → Int32 → KV → Option (Int32 × KV)
  | 0 => fun _ _ _ _ _ _ _ _ _ _ _ _ => none
  | n + 1 => fun x1 x2 x3 x4 x5 x6 x7 x8 x9 x10 x11 vK => B_K_alibis_133 rec_71 (L_K_alibis_133 rec_71 n) x1 x2 x3 x4 x5 x6 x7 x8 x9 x10 x11 vK
def B_K_alibis_71 (rec_71 : Int32 → Int32 → Int32 → Int32 → Int32 → Int32 → KV → Option (Int32 × KV)) (x1 : Int32) (x2 : Int32) (x3 : Int32) (x4 : Int32) (x5 : Int32) (x6 : Int32) (vK : KV) : Option (Int32 × KV) := (if 3 ≤ x6 then (cn (x5 = 0 ∨ x5 = 1) (some (x5, vK))) else (if x5 = 0 then (cn (x5 = 0 ∨ x5 = 1) (some (x5, vK))) else (if x4 ≤ 0 then (cn (x5 = 0 ∨ x5 = 1) (some (x5, vK))) else cn (¬ x4 = 0) ((L_K_alibis_133 rec_71 11 x1 x2 x3 x4 x5 x6 (((x1 >>> ((3 * x6) &&& 31)) &&& 65535) - ((x1 >>> ((3 * x6) &&& 31)) &&& 65535) / x4 * x4) (if ((((x1 >>> ((3 * x6) &&& 31)) &&& 65535) - ((x1 >>> ((3 * x6) &&& 31)) &&& 65535) / x4 * x4) + ((x2 >>> ((2 * x6) &&& 31)) &&& 63)) < (x4 - 1) then ((((x1 >>> ((3 * x6) &&& 31)) &&& 65535) - ((x1 >>> ((3 * x6) &&& 31)) &&& 65535) / x4 * x4) + ((x2 >>> ((2 * x6) &&& 31)) &&& 63)) else (x4 - 1)) 0 (-101) 0 vK)))))
def L_K_alibis_71 : Nat → Int32 → Int32 → Int32 → Int32 → Int32 → Int32 → KV → Option (Int32 × KV)
  | 0 => fun _ _ _ _ _ _ _ => none
  | n + 1 => fun x1 x2 x3 x4 x5 x6 vK => B_K_alibis_71 (L_K_alibis_71 n) x1 x2 x3 x4 x5 x6 vK
def J_K_alibis_65 (x1 : Int32) (x2 : Int32) (x3 : Int32) (x4 : Int32) (vK : KV) : Option (Int32 × KV) := (L_K_alibis_71 4 x1 x2 x3 x4 0 0 vK)
def J_K_alibis_31 (x1 : Int32) (x2 : Int32) (x3 : Int32) (x4 : Int32) (t0 : Int32) (t1 : Int32) (vK : KV) : Option (Int32 × KV) := (if t0 = t1 then (F_K_call_ vK 35 0 x4).bind (fun u1 => (if u1.1 = (-103) then (F_K_call_ u1.2 36 (-1) 0).bind (fun u2 => (if u2.1 = (-103) then (L_K_alibis_71 4 x1 x2 x3 x4 1 0 u2.2) else (J_K_alibis_65 x1 x2 x3 x4 u2.2))) else (J_K_alibis_65 x1 x2 x3 x4 u1.2))) else (J_K_alibis_65 x1 x2 x3 x4 vK))
def F_K_alibis (v0 : KV) (p1 : Int32) (p2 : Int32) : Option (Int32 × KV) := (F_X8_guestCount (v0.1) (v0.2.2.1) (v0.2.2.2.1)).bind (fun u1 => (F_X8_minute (v0.1) (v0.2.2.1)).bind (fun u2 => (F_K_call_ v0 33 0 u2).bind (fun u3 => (if u1 = 0 then (J_K_alibis_31 p1 p2 u1 u2 u3.1 (-104) u3.2) else (J_K_alibis_31 p1 p2 u1 u2 u3.1 (-103) u3.2)))))
abbrev rm_L_alibis : Room := { frames := 11, cells := 26253, slots := 6 * 26253, locals := 245 }
set_option maxHeartbeats 16000000 in
set_option maxRecDepth 100000 in
theorem c_K_alibis (E : Ev) (l : Launch) (hst : l.stackTraces = false) (k : KA) (v0 : KV) (p1 : Int32) (p2 : Int32) (r : Int32 × KV) (hf : F_K_alibis v0 p1 p2 = some r) : LM E l yL_alibis (.code yL_alibis cL_alibis 16 (some .boolean) :: GA) rm_L_alibis [.ref k.1, .int p1, .int p2] (W_K E k v0) (some (.int r.1)) (W_K E k r.2) 26253 := by
  refine LM.of0 (own := RL) rfl (by decide) (Nat.le_of_ble_eq_true rfl) ?_
  intro p e s m below meth c A ls hx hb hr hml hown hg hlocks hK hE hN hA hP hD hS hl
  have hl : lv_has ls 16 [(0, .ref k.1), (1, .int p1), (2, .int p2)] := hl
  have lp_71 : ∀ (n : Nat) (x1 : Int32) (x2 : Int32) (x3 : Int32) (x4 : Int32) (x5 : Int32) (x6 : Int32) (vK : KV) (cs : Nat) (H : Heap) (locs : List Loc) (ls : Array Slot), L_K_alibis_71 n x1 x2 x3 x4 x5 x6 vK = some r → cs + n * 6561 + 0 ≤ 26253 → va_P E.1 vwCl (W_K E k vK ++ []) H → va_D A (W_K E k vK ++ []) → va_S A s.heap H locs → lv_has ls 16 [(0, .ref k.1), (1, .int x1), (2, .int x2), (3, .int x3), (4, .int x4), (5, .int x5), (6, .int x6)] → W p l e rm_L_alibis s m ([.ref k.1, .int p1, .int p2] : List Value).toArray below meth c H locs cs (6 * cs) (vx_MQ below (QW E (some (.int r.1)) (W_K E k r.2) A) (fun _ _ _ => False) ([.ref k.1, .int p1, .int p2] : List Value).toArray s 26253 (6 * 26253) A) (F0 m 71 ls []) := by
    intro n_71
    induction n_71 with
    | zero => intro x1 x2 x3 x4 x5 x6 vK cs H locs ls hf; cases hf
    | succ n_71 ih_71 =>
      have jp_483 : ∀ (x1 : Int32) (x2 : Int32) (x3 : Int32) (x4 : Int32) (x5 : Int32) (x6 : Int32) (vK : KV) (cs : Nat) (H : Heap) (locs : List Loc) (ls : Array Slot), J_K_alibis_483 (L_K_alibis_71 n_71) x1 x2 x3 x4 x5 x6 vK = some r → cs + 0 + (n_71 * 6561 + 0) ≤ 26253 → va_P E.1 vwCl (W_K E k vK ++ []) H → va_D A (W_K E k vK ++ []) → va_S A s.heap H locs → lv_has ls 16 [(0, .ref k.1), (1, .int x1), (2, .int x2), (3, .int x3), (4, .int x4), (5, .int x5), (6, .int x6)] → W p l e rm_L_alibis s m ([.ref k.1, .int p1, .int p2] : List Value).toArray below meth c H locs cs (6 * cs) (vx_MQ below (QW E (some (.int r.1)) (W_K E k r.2) A) (fun _ _ _ => False) ([.ref k.1, .int p1, .int p2] : List Value).toArray s 26253 (6 * 26253) A) (F0 m 483 ls []) := by
        intro x1 x2 x3 x4 x5 x6 vK cs H locs ls hf hc hP hD hS hl
        unfold J_K_alibis_483 at hf
        refine lv_iinc (v := (x6 + 1)) (lv' := [(6, .int (x6 + 1)), (0, .ref k.1), (1, .int x1), (2, .int x2), (3, .int x3), (4, .int x4), (5, .int x5)]) hx hb dL_alibis_483 hl (k := 6) rfl rfl (by decide) rfl (fun ls hl => ?_)
        refine lv_goto (tgt := 71) hx hb dL_alibis_486 (by decide) ?_
        exact ih_71 _ _ _ _ _ _ _ _ _ _ _ hf (by omega) hP hD hS (lv_sub hl [1, 2, 3, 4, 5, 6, 0] rfl)
      have jp_480 : ∀ (x1 : Int32) (x2 : Int32) (x3 : Int32) (x4 : Int32) (x6 : Int32) (vK : KV) (cs : Nat) (H : Heap) (locs : List Loc) (ls : Array Slot), J_K_alibis_480 (L_K_alibis_71 n_71) x1 x2 x3 x4 x6 vK = some r → cs + 0 + (n_71 * 6561 + 0) ≤ 26253 → va_P E.1 vwCl (W_K E k vK ++ []) H → va_D A (W_K E k vK ++ []) → va_S A s.heap H locs → lv_has ls 16 [(0, .ref k.1), (1, .int x1), (2, .int x2), (3, .int x3), (4, .int x4), (6, .int x6)] → W p l e rm_L_alibis s m ([.ref k.1, .int p1, .int p2] : List Value).toArray below meth c H locs cs (6 * cs) (vx_MQ below (QW E (some (.int r.1)) (W_K E k r.2) A) (fun _ _ _ => False) ([.ref k.1, .int p1, .int p2] : List Value).toArray s 26253 (6 * 26253) A) (F0 m 480 ls []) := by
        intro x1 x2 x3 x4 x6 vK cs H locs ls hf hc hP hD hS hl
        unfold J_K_alibis_480 at hf
        refine lv_iconst (v := 0) hx hb dL_alibis_480 (by decide) ?_
        refine lv_istore (lv' := [(5, .int 0), (0, .ref k.1), (1, .int x1), (2, .int x2), (3, .int x3), (4, .int x4), (6, .int x6)]) hx hb dL_alibis_481 hl (by decide) rfl (fun ls hl => ?_)
        exact jp_483 _ _ _ _ _ _ _ _ _ _ _ hf (by omega) hP hD hS (lv_sub hl [1, 2, 3, 4, 5, 0, 6] rfl)
      have lp_381 : ∀ (n : Nat) (x1 : Int32) (x2 : Int32) (x3 : Int32) (x4 : Int32) (x5 : Int32) (x6 : Int32) (x11 : Int32) (x12 : Int32) (x13 : Int32) (x14 : Int32) (x15 : Int32) (vK : KV) (cs : Nat) (H : Heap) (locs : List Loc) (ls : Array Slot), L_K_alibis_381 (L_K_alibis_71 n_71) n x1 x2 x3 x4 x5 x6 x11 x12 x13 x14 x15 vK = some r → cs + n * 6 + 9 + (n_71 * 6561 + 0) ≤ 26253 → va_P E.1 vwCl (W_K E k vK ++ []) H → va_D A (W_K E k vK ++ []) → va_S A s.heap H locs → lv_has ls 16 [(0, .ref k.1), (1, .int x1), (2, .int x2), (3, .int x3), (4, .int x4), (5, .int x5), (6, .int x6), (11, .int x11), (12, .int x12), (13, .int x13), (14, .int x14), (15, .int x15)] → W p l e rm_L_alibis s m ([.ref k.1, .int p1, .int p2] : List Value).toArray below meth c H locs cs (6 * cs) (vx_MQ below (QW E (some (.int r.1)) (W_K E k r.2) A) (fun _ _ _ => False) ([.ref k.1, .int p1, .int p2] : List Value).toArray s 26253 (6 * 26253) A) (F0 m 381 ls []) := by
        intro n_381
        induction n_381 with
        | zero => intro x1 x2 x3 x4 x5 x6 x11 x12 x13 x14 x15 vK cs H locs ls hf; cases hf
        | succ n_381 ih_381 =>
          intro x1 x2 x3 x4 x5 x6 x11 x12 x13 x14 x15 vK cs H locs ls hf hc hP hD hS hl
          replace hf : B_K_alibis_381 (L_K_alibis_71 n_71) (L_K_alibis_381 (L_K_alibis_71 n_71) n_381) x1 x2 x3 x4 x5 x6 x11 x12 x13 x14 x15 vK = some r := hf
          unfold B_K_alibis_381 at hf
          refine lv_iload hx hb dL_alibis_381 (lv_at hl 11 rfl) ?_
          refine lv_iload hx hb dL_alibis_383 (lv_at hl 4 rfl) ?_
          refine lv_icmp_ge (tgt := 428) hx hb dL_alibis_385 (by decide) (fun cq => ?_) (fun cq => ?_)
          · have hf := it cq hf
            refine lv_iload hx hb dL_alibis_428 (lv_at hl 5 rfl) ?_
            refine lv_if_eq (tgt := 480) hx hb dL_alibis_430 (by decide) (fun cq => ?_) (fun cq => ?_)
            · have hf := it cq hf
              exact jp_480 _ _ _ _ _ _ _ _ _ _ hf (by omega) hP hD hS (lv_sub hl [0, 1, 2, 3, 4, 6] rfl)
            · have hf := ie cq hf
              refine lv_aload_n hx hb dL_alibis_433 rfl (lv_at hl 0 rfl) ?_
              refine lv_bipush (v := 37) hx hb dL_alibis_434 (by decide) ?_
              refine lv_iload hx hb dL_alibis_436 (lv_at hl 7 rfl) ?_
              obtain ⟨u1, hu1, hf⟩ := bn hf
              refine lk_S (As := [.ref k.1, .int 37, .int x11]) (rest := []) (wr := []) hx hb hml hown hg (c_K_call__ E l hst k vK 37 x11 u1 hu1) cs_L_call__ ml_L_171 ⟨⟨rfl, rfl⟩, Nat.le_of_ble_eq_true rfl, Nat.le_of_ble_eq_true rfl⟩ hK hE hN hP hD hS hA (W_Ka E k _ _) rfl hl.1 rfl (Nat.le_of_ble_eq_true rfl) dL_alibis_438 ⟨by show _ ≤ 26253; omega, by show _ ≤ 6 * 26253; omega⟩ [.int u1.1] rfl (fun H locs hP hD hS => ?_)
              refine lv_iload hx hb dL_alibis_441 (lv_at hl 9 rfl) ?_
              refine lv_icmp_ne (tgt := 480) hx hb dL_alibis_443 (by decide) (fun cq => ?_) (fun cq => ?_)
              · have hf := ie cq hf
                exact jp_480 _ _ _ _ _ _ _ _ _ _ hf (by omega) hP hD hS (lv_sub hl [0, 1, 2, 3, 4, 6] rfl)
              · have hf := it cq hf
                refine lv_aload_n hx hb dL_alibis_446 rfl (lv_at hl 0 rfl) ?_
                refine lv_bipush (v := 38) hx hb dL_alibis_447 (by decide) ?_
                refine lv_iload hx hb dL_alibis_449 (lv_at hl 7 rfl) ?_
                refine lv_iload hx hb dL_alibis_451 (lv_at hl 8 rfl) ?_
                obtain ⟨u2, hu2, hf⟩ := bn hf
                refine lk_S (As := [.ref k.1, .int 38, .int x11, .int x12]) (rest := []) (wr := []) hx hb hml hown hg (c_K_call_ E l hst k u1.2 38 x11 x12 u2 hu2) cs_L_call_ ml_L_252 ⟨⟨rfl, rfl⟩, Nat.le_of_ble_eq_true rfl, Nat.le_of_ble_eq_true rfl⟩ hK hE hN hP hD hS hA (W_Ka E k _ _) rfl hl.1 rfl (Nat.le_of_ble_eq_true rfl) dL_alibis_453 ⟨by show _ ≤ 26253; omega, by show _ ≤ 6 * 26253; omega⟩ [.int u2.1] rfl (fun H locs hP hD hS => ?_)
                refine lv_iload hx hb dL_alibis_456 (lv_at hl 10 rfl) ?_
                refine lv_icmp_ne (tgt := 480) hx hb dL_alibis_458 (by decide) (fun cq => ?_) (fun cq => ?_)
                · have hf := ie cq hf
                  exact jp_480 _ _ _ _ _ _ _ _ _ _ hf (by omega) hP hD hS (lv_sub hl [0, 1, 2, 3, 4, 6] rfl)
                · have hf := it cq hf
                  refine lv_aload_n hx hb dL_alibis_461 rfl (lv_at hl 0 rfl) ?_
                  refine lv_bipush (v := 38) hx hb dL_alibis_462 (by decide) ?_
                  refine lv_iload hx hb dL_alibis_464 (lv_at hl 8 rfl) ?_
                  refine lv_iload hx hb dL_alibis_466 (lv_at hl 7 rfl) ?_
                  obtain ⟨u3, hu3, hf⟩ := bn hf
                  refine lk_S (As := [.ref k.1, .int 38, .int x12, .int x11]) (rest := []) (wr := []) hx hb hml hown hg (c_K_call_ E l hst k u2.2 38 x12 x11 u3 hu3) cs_L_call_ ml_L_252 ⟨⟨rfl, rfl⟩, Nat.le_of_ble_eq_true rfl, Nat.le_of_ble_eq_true rfl⟩ hK hE hN hP hD hS hA (W_Ka E k _ _) rfl hl.1 rfl (Nat.le_of_ble_eq_true rfl) dL_alibis_468 ⟨by show _ ≤ 26253; omega, by show _ ≤ 6 * 26253; omega⟩ [.int u3.1] rfl (fun H locs hP hD hS => ?_)
                  refine lv_iload hx hb dL_alibis_471 (lv_at hl 10 rfl) ?_
                  refine lv_icmp_ne (tgt := 480) hx hb dL_alibis_473 (by decide) (fun cq => ?_) (fun cq => ?_)
                  · have hf := ie cq hf
                    exact jp_480 _ _ _ _ _ _ _ _ _ _ hf (by omega) hP hD hS (lv_sub hl [0, 1, 2, 3, 4, 6] rfl)
                  · have hf := it cq hf
                    refine lv_iconst (v := 1) hx hb dL_alibis_476 (by decide) ?_
                    refine lv_goto (tgt := 481) hx hb dL_alibis_477 (by decide) ?_
                    refine lv_istore (lv' := [(5, .int 1), (0, .ref k.1), (1, .int x1), (2, .int x2), (3, .int x3), (4, .int x4), (6, .int x6), (11, .int x11), (12, .int x12), (13, .int x13), (14, .int x14), (15, .int x15)]) hx hb dL_alibis_481 hl (by decide) rfl (fun ls hl => ?_)
                    exact jp_483 _ _ _ _ _ _ _ _ _ _ _ hf (by omega) hP hD hS (lv_sub hl [1, 2, 3, 4, 5, 0, 6] rfl)
          · have hf := ie cq hf
            refine lv_aload_n hx hb dL_alibis_388 rfl (lv_at hl 0 rfl) ?_
            refine lv_bipush (v := 33) hx hb dL_alibis_389 (by decide) ?_
            refine lv_iload hx hb dL_alibis_391 (lv_at hl 7 rfl) ?_
            refine lv_iload hx hb dL_alibis_393 (lv_at hl 11 rfl) ?_
            obtain ⟨u4, hu4, hf⟩ := bn hf
            refine lk_S (As := [.ref k.1, .int 33, .int x11, .int x15]) (rest := []) (wr := []) hx hb hml hown hg (c_K_call_ E l hst k vK 33 x11 x15 u4 hu4) cs_L_call_ ml_L_252 ⟨⟨rfl, rfl⟩, Nat.le_of_ble_eq_true rfl, Nat.le_of_ble_eq_true rfl⟩ hK hE hN hP hD hS hA (W_Ka E k _ _) rfl hl.1 rfl (Nat.le_of_ble_eq_true rfl) dL_alibis_395 ⟨by show _ ≤ 26253; omega, by show _ ≤ 6 * 26253; omega⟩ [.int u4.1] rfl (fun H locs hP hD hS => ?_)
            refine lv_if_ne (tgt := 404) hx hb dL_alibis_398 (by decide) (fun cq => ?_) (fun cq => ?_)
            · have hf := ie cq hf
              refine lv_iinc (v := (x13 + 1)) (lv' := [(13, .int (x13 + 1)), (0, .ref k.1), (1, .int x1), (2, .int x2), (3, .int x3), (4, .int x4), (5, .int x5), (6, .int x6), (11, .int x11), (12, .int x12), (14, .int x14), (15, .int x15)]) hx hb dL_alibis_404 hl (k := 9) rfl rfl (by decide) rfl (fun ls hl => ?_)
              refine lv_iload hx hb dL_alibis_407 (lv_at hl 10 rfl) ?_
              refine lv_aload_n hx hb dL_alibis_409 rfl (lv_at hl 1 rfl) ?_
              refine lv_bipush (v := 33) hx hb dL_alibis_410 (by decide) ?_
              refine lv_iload hx hb dL_alibis_412 (lv_at hl 9 rfl) ?_
              refine lv_iload hx hb dL_alibis_414 (lv_at hl 11 rfl) ?_
              obtain ⟨u5, hu5, hf⟩ := bn hf
              refine lk_S (As := [.ref k.1, .int 33, .int x12, .int x15]) (rest := [.int x14]) (wr := []) hx hb hml hown hg (c_K_call_ E l hst k u4.2 33 x12 x15 u5 hu5) cs_L_call_ ml_L_252 ⟨⟨rfl, rfl⟩, Nat.le_of_ble_eq_true rfl, Nat.le_of_ble_eq_true rfl⟩ hK hE hN hP hD hS hA (W_Ka E k _ _) rfl hl.1 rfl (Nat.le_of_ble_eq_true rfl) dL_alibis_416 ⟨by show _ ≤ 26253; omega, by show _ ≤ 6 * 26253; omega⟩ [.int u5.1, .int x14] rfl (fun H locs hP hD hS => ?_)
              refine lv_iadd hx hb dL_alibis_419 ?_
              refine lv_istore (lv' := [(14, .int (x14 + u5.1)), (13, .int (x13 + 1)), (0, .ref k.1), (1, .int x1), (2, .int x2), (3, .int x3), (4, .int x4), (5, .int x5), (6, .int x6), (11, .int x11), (12, .int x12), (15, .int x15)]) hx hb dL_alibis_420 hl (by decide) rfl (fun ls hl => ?_)
              refine lv_iinc (v := (x15 + 1)) (lv' := [(15, .int (x15 + 1)), (14, .int (x14 + u5.1)), (13, .int (x13 + 1)), (0, .ref k.1), (1, .int x1), (2, .int x2), (3, .int x3), (4, .int x4), (5, .int x5), (6, .int x6), (11, .int x11), (12, .int x12)]) hx hb dL_alibis_422 hl (k := 11) rfl rfl (by decide) rfl (fun ls hl => ?_)
              refine lv_goto (tgt := 381) hx hb dL_alibis_425 (by decide) ?_
              exact ih_381 _ _ _ _ _ _ _ _ _ _ _ _ _ _ _ _ hf (by omega) hP hD hS (lv_sub hl [3, 4, 5, 6, 7, 8, 9, 10, 11, 2, 1, 0] rfl)
            · have hf := it cq hf
              refine lv_goto (tgt := 422) hx hb dL_alibis_401 (by decide) ?_
              refine lv_iinc (v := (x15 + 1)) (lv' := [(15, .int (x15 + 1)), (0, .ref k.1), (1, .int x1), (2, .int x2), (3, .int x3), (4, .int x4), (5, .int x5), (6, .int x6), (11, .int x11), (12, .int x12), (13, .int x13), (14, .int x14)]) hx hb dL_alibis_422 hl (k := 11) rfl rfl (by decide) rfl (fun ls hl => ?_)
              refine lv_goto (tgt := 381) hx hb dL_alibis_425 (by decide) ?_
              exact ih_381 _ _ _ _ _ _ _ _ _ _ _ _ _ _ _ _ hf (by omega) hP hD hS (lv_sub hl [1, 2, 3, 4, 5, 6, 7, 8, 9, 10, 11, 0] rfl)
      have jp_358 : ∀ (x1 : Int32) (x2 : Int32) (x3 : Int32) (x4 : Int32) (x5 : Int32) (x6 : Int32) (x11 : Int32) (t0 : Int32) (vK : KV) (cs : Nat) (H : Heap) (locs : List Loc) (ls : Array Slot), J_K_alibis_358 (L_K_alibis_71 n_71) x1 x2 x3 x4 x5 x6 x11 t0 vK = some r → cs + 4341 + (n_71 * 6561 + 0) ≤ 26253 → va_P E.1 vwCl (W_K E k vK ++ []) H → va_D A (W_K E k vK ++ []) → va_S A s.heap H locs → lv_has ls 16 [(0, .ref k.1), (1, .int x1), (2, .int x2), (3, .int x3), (4, .int x4), (5, .int x5), (6, .int x6), (11, .int x11)] → W p l e rm_L_alibis s m ([.ref k.1, .int p1, .int p2] : List Value).toArray below meth c H locs cs (6 * cs) (vx_MQ below (QW E (some (.int r.1)) (W_K E k r.2) A) (fun _ _ _ => False) ([.ref k.1, .int p1, .int p2] : List Value).toArray s 26253 (6 * 26253) A) (F0 m 358 ls [.int t0]) := by
        intro x1 x2 x3 x4 x5 x6 x11 t0 vK cs H locs ls hf hc hP hD hS hl
        unfold J_K_alibis_358 at hf
        refine lv_istore (lv' := [(12, .int t0), (0, .ref k.1), (1, .int x1), (2, .int x2), (3, .int x3), (4, .int x4), (5, .int x5), (6, .int x6), (11, .int x11)]) hx hb dL_alibis_358 hl (by decide) rfl (fun ls hl => ?_)
        refine lv_iload_n hx hb dL_alibis_360 rfl (lv_at hl 4 rfl) ?_
        refine lv_if_eq (tgt := 483) hx hb dL_alibis_361 (by decide) (fun cq => ?_) (fun cq => ?_)
        · have hf := it cq hf
          exact jp_483 _ _ _ _ _ _ _ _ _ _ _ hf (by omega) hP hD hS (lv_sub hl [1, 2, 3, 4, 5, 6, 7] rfl)
        · have hf := ie cq hf
          refine lv_iload hx hb dL_alibis_364 (lv_at hl 7 rfl) ?_
          refine lv_if_le (tgt := 372) hx hb dL_alibis_366 (by decide) (fun cq => ?_) (fun cq => ?_)
          · have hf := it cq hf
            refine lv_iconst (v := 0) hx hb dL_alibis_372 (by decide) ?_
            refine lv_istore (lv' := [(13, .int 0), (12, .int t0), (0, .ref k.1), (1, .int x1), (2, .int x2), (3, .int x3), (4, .int x4), (5, .int x5), (6, .int x6), (11, .int x11)]) hx hb dL_alibis_373 hl (by decide) rfl (fun ls hl => ?_)
            refine lv_iconst (v := 0) hx hb dL_alibis_375 (by decide) ?_
            refine lv_istore (lv' := [(14, .int 0), (13, .int 0), (12, .int t0), (0, .ref k.1), (1, .int x1), (2, .int x2), (3, .int x3), (4, .int x4), (5, .int x5), (6, .int x6), (11, .int x11)]) hx hb dL_alibis_376 hl (by decide) rfl (fun ls hl => ?_)
            refine lv_iconst (v := 0) hx hb dL_alibis_378 (by decide) ?_
            refine lv_istore (lv' := [(15, .int 0), (14, .int 0), (13, .int 0), (12, .int t0), (0, .ref k.1), (1, .int x1), (2, .int x2), (3, .int x3), (4, .int x4), (5, .int x5), (6, .int x6), (11, .int x11)]) hx hb dL_alibis_379 hl (by decide) rfl (fun ls hl => ?_)
            exact lp_381 722 _ _ _ _ _ _ _ _ _ _ _ _ _ _ _ _ hf (by omega) hP hD hS (lv_sub hl [4, 5, 6, 7, 8, 9, 10, 11, 3, 2, 1, 0] rfl)
          · have hf := ie cq hf
            refine lv_goto (tgt := 483) hx hb dL_alibis_369 (by decide) ?_
            exact jp_483 _ _ _ _ _ _ _ _ _ _ _ hf (by omega) hP hD hS (lv_sub hl [1, 2, 3, 4, 5, 6, 7] rfl)
      have jp_338 : ∀ (x1 : Int32) (x2 : Int32) (x3 : Int32) (x4 : Int32) (x5 : Int32) (x6 : Int32) (t0 : Int32) (vK : KV) (cs : Nat) (H : Heap) (locs : List Loc) (ls : Array Slot), J_K_alibis_338 (L_K_alibis_71 n_71) x1 x2 x3 x4 x5 x6 t0 vK = some r → cs + 4341 + (n_71 * 6561 + 0) ≤ 26253 → va_P E.1 vwCl (W_K E k vK ++ []) H → va_D A (W_K E k vK ++ []) → va_S A s.heap H locs → lv_has ls 16 [(0, .ref k.1), (1, .int x1), (2, .int x2), (3, .int x3), (4, .int x4), (5, .int x5), (6, .int x6)] → W p l e rm_L_alibis s m ([.ref k.1, .int p1, .int p2] : List Value).toArray below meth c H locs cs (6 * cs) (vx_MQ below (QW E (some (.int r.1)) (W_K E k r.2) A) (fun _ _ _ => False) ([.ref k.1, .int p1, .int p2] : List Value).toArray s 26253 (6 * 26253) A) (F0 m 338 ls [.int t0]) := by
        intro x1 x2 x3 x4 x5 x6 t0 vK cs H locs ls hf hc hP hD hS hl
        unfold J_K_alibis_338 at hf
        refine lv_istore (lv' := [(11, .int t0), (0, .ref k.1), (1, .int x1), (2, .int x2), (3, .int x3), (4, .int x4), (5, .int x5), (6, .int x6)]) hx hb dL_alibis_338 hl (by decide) rfl (fun ls hl => ?_)
        refine lv_iload_n hx hb dL_alibis_340 rfl (lv_at hl 4 rfl) ?_
        refine lv_if_ne (tgt := 348) hx hb dL_alibis_341 (by decide) (fun cq => ?_) (fun cq => ?_)
        · have hf := ie cq hf
          refine lv_iload_n hx hb dL_alibis_348 rfl (lv_at hl 3 rfl) ?_
          refine lv_iload hx hb dL_alibis_349 (lv_at hl 7 rfl) ?_
          refine lv_ishr hx hb dL_alibis_351 ?_
          refine lv_sipush (v := 255) hx hb dL_alibis_352 (by decide) ?_
          refine lv_iand hx hb dL_alibis_355 ?_
          refine lv_iload_n hx hb dL_alibis_356 rfl (lv_at hl 4 rfl) ?_
          obtain ⟨h0, hf⟩ := cn_o hf
          refine lv_irem hx hb dL_alibis_357 h0 ?_
          exact jp_358 _ _ _ _ _ _ _ _ _ _ _ _ _ hf (by omega) hP hD hS (lv_sub hl [1, 2, 3, 4, 5, 6, 7, 0] rfl)
        · have hf := it cq hf
          refine lv_iconst (v := 0) hx hb dL_alibis_344 (by decide) ?_
          refine lv_goto (tgt := 358) hx hb dL_alibis_345 (by decide) ?_
          exact jp_358 _ _ _ _ _ _ _ _ _ _ _ _ _ hf (by omega) hP hD hS (lv_sub hl [1, 2, 3, 4, 5, 6, 7, 0] rfl)
      have jp_318 : ∀ (x1 : Int32) (x2 : Int32) (x3 : Int32) (x4 : Int32) (x6 : Int32) (t0 : Int32) (vK : KV) (cs : Nat) (H : Heap) (locs : List Loc) (ls : Array Slot), J_K_alibis_318 (L_K_alibis_71 n_71) x1 x2 x3 x4 x6 t0 vK = some r → cs + 4341 + (n_71 * 6561 + 0) ≤ 26253 → va_P E.1 vwCl (W_K E k vK ++ []) H → va_D A (W_K E k vK ++ []) → va_S A s.heap H locs → lv_has ls 16 [(0, .ref k.1), (1, .int x1), (2, .int x2), (3, .int x3), (4, .int x4), (6, .int x6)] → W p l e rm_L_alibis s m ([.ref k.1, .int p1, .int p2] : List Value).toArray below meth c H locs cs (6 * cs) (vx_MQ below (QW E (some (.int r.1)) (W_K E k r.2) A) (fun _ _ _ => False) ([.ref k.1, .int p1, .int p2] : List Value).toArray s 26253 (6 * 26253) A) (F0 m 318 ls [.int t0]) := by
        intro x1 x2 x3 x4 x6 t0 vK cs H locs ls hf hc hP hD hS hl
        unfold J_K_alibis_318 at hf
        refine lv_istore (lv' := [(5, .int t0), (0, .ref k.1), (1, .int x1), (2, .int x2), (3, .int x3), (4, .int x4), (6, .int x6)]) hx hb dL_alibis_318 hl (by decide) rfl (fun ls hl => ?_)
        refine lv_iload_n hx hb dL_alibis_320 rfl (lv_at hl 4 rfl) ?_
        refine lv_if_ne (tgt := 328) hx hb dL_alibis_321 (by decide) (fun cq => ?_) (fun cq => ?_)
        · have hf := ie cq hf
          refine lv_iload_n hx hb dL_alibis_328 rfl (lv_at hl 2 rfl) ?_
          refine lv_iload hx hb dL_alibis_329 (lv_at hl 6 rfl) ?_
          refine lv_ishr hx hb dL_alibis_331 ?_
          refine lv_sipush (v := 255) hx hb dL_alibis_332 (by decide) ?_
          refine lv_iand hx hb dL_alibis_335 ?_
          refine lv_iload_n hx hb dL_alibis_336 rfl (lv_at hl 4 rfl) ?_
          obtain ⟨h0, hf⟩ := cn_o hf
          refine lv_irem hx hb dL_alibis_337 h0 ?_
          exact jp_338 _ _ _ _ _ _ _ _ _ _ _ _ hf (by omega) hP hD hS (lv_sub hl [1, 2, 3, 4, 5, 0, 6] rfl)
        · have hf := it cq hf
          refine lv_iconst (v := 0) hx hb dL_alibis_324 (by decide) ?_
          refine lv_goto (tgt := 338) hx hb dL_alibis_325 (by decide) ?_
          exact jp_338 _ _ _ _ _ _ _ _ _ _ _ _ hf (by omega) hP hD hS (lv_sub hl [1, 2, 3, 4, 5, 0, 6] rfl)
      have jp_317 : ∀ (x1 : Int32) (x2 : Int32) (x3 : Int32) (x4 : Int32) (x6 : Int32) (vK : KV) (cs : Nat) (H : Heap) (locs : List Loc) (ls : Array Slot), J_K_alibis_317 (L_K_alibis_71 n_71) x1 x2 x3 x4 x6 vK = some r → cs + 4341 + (n_71 * 6561 + 0) ≤ 26253 → va_P E.1 vwCl (W_K E k vK ++ []) H → va_D A (W_K E k vK ++ []) → va_S A s.heap H locs → lv_has ls 16 [(0, .ref k.1), (1, .int x1), (2, .int x2), (3, .int x3), (4, .int x4), (6, .int x6)] → W p l e rm_L_alibis s m ([.ref k.1, .int p1, .int p2] : List Value).toArray below meth c H locs cs (6 * cs) (vx_MQ below (QW E (some (.int r.1)) (W_K E k r.2) A) (fun _ _ _ => False) ([.ref k.1, .int p1, .int p2] : List Value).toArray s 26253 (6 * 26253) A) (F0 m 317 ls []) := by
        intro x1 x2 x3 x4 x6 vK cs H locs ls hf hc hP hD hS hl
        unfold J_K_alibis_317 at hf
        refine lv_iconst (v := 0) hx hb dL_alibis_317 (by decide) ?_
        exact jp_318 _ _ _ _ _ _ _ _ _ _ _ hf (by omega) hP hD hS (lv_sub hl [0, 1, 2, 3, 4, 5] rfl)
      have jp_288 : ∀ (x1 : Int32) (x2 : Int32) (x3 : Int32) (x4 : Int32) (x6 : Int32) (x7 : Int32) (x8 : Int32) (t0 : Int32) (t1 : Int32) (vK : KV) (cs : Nat) (H : Heap) (locs : List Loc) (ls : Array Slot), J_K_alibis_288 (L_K_alibis_71 n_71) x1 x2 x3 x4 x6 x7 x8 t0 t1 vK = some r → cs + 4344 + (n_71 * 6561 + 0) ≤ 26253 → va_P E.1 vwCl (W_K E k vK ++ []) H → va_D A (W_K E k vK ++ []) → va_S A s.heap H locs → lv_has ls 16 [(0, .ref k.1), (1, .int x1), (2, .int x2), (3, .int x3), (4, .int x4), (6, .int x6), (7, .int x7), (8, .int x8)] → W p l e rm_L_alibis s m ([.ref k.1, .int p1, .int p2] : List Value).toArray below meth c H locs cs (6 * cs) (vx_MQ below (QW E (some (.int r.1)) (W_K E k r.2) A) (fun _ _ _ => False) ([.ref k.1, .int p1, .int p2] : List Value).toArray s 26253 (6 * 26253) A) (F0 m 288 ls [.int t1, .int t0]) := by
        intro x1 x2 x3 x4 x6 x7 x8 t0 t1 vK cs H locs ls hf hc hP hD hS hl
        unfold J_K_alibis_288 at hf
        refine lv_icmp_ne (tgt := 317) hx hb dL_alibis_288 (by decide) (fun cq => ?_) (fun cq => ?_)
        · have hf := ie cq hf
          exact jp_317 _ _ _ _ _ _ _ _ _ _ hf (by omega) hP hD hS (lv_sub hl [0, 1, 2, 3, 4, 5] rfl)
        · have hf := it cq hf
          refine lv_iload hx hb dL_alibis_291 (lv_at hl 6 rfl) ?_
          refine lv_iload hx hb dL_alibis_293 (lv_at hl 7 rfl) ?_
          refine lv_icmp_eq (tgt := 313) hx hb dL_alibis_295 (by decide) (fun cq => ?_) (fun cq => ?_)
          · have hf := it cq hf
            refine lv_iconst (v := 1) hx hb dL_alibis_313 (by decide) ?_
            refine lv_goto (tgt := 318) hx hb dL_alibis_314 (by decide) ?_
            exact jp_318 _ _ _ _ _ _ _ _ _ _ _ hf (by omega) hP hD hS (lv_sub hl [0, 1, 2, 3, 4, 5] rfl)
          · have hf := ie cq hf
            refine lv_aload_n hx hb dL_alibis_298 rfl (lv_at hl 0 rfl) ?_
            refine lv_bipush (v := 35) hx hb dL_alibis_299 (by decide) ?_
            refine lv_iload hx hb dL_alibis_301 (lv_at hl 7 rfl) ?_
            refine lv_iload hx hb dL_alibis_303 (lv_at hl 6 rfl) ?_
            obtain ⟨u1, hu1, hf⟩ := bn hf
            refine lk_S (As := [.ref k.1, .int 35, .int x8, .int x7]) (rest := []) (wr := []) hx hb hml hown hg (c_K_call_ E l hst k vK 35 x8 x7 u1 hu1) cs_L_call_ ml_L_252 ⟨⟨rfl, rfl⟩, Nat.le_of_ble_eq_true rfl, Nat.le_of_ble_eq_true rfl⟩ hK hE hN hP hD hS hA (W_Ka E k _ _) rfl hl.1 rfl (Nat.le_of_ble_eq_true rfl) dL_alibis_305 ⟨by show _ ≤ 26253; omega, by show _ ≤ 6 * 26253; omega⟩ [.int u1.1] rfl (fun H locs hP hD hS => ?_)
            refine lv_bipush (v := (-103)) hx hb dL_alibis_308 (by decide) ?_
            refine lv_icmp_ne (tgt := 317) hx hb dL_alibis_310 (by decide) (fun cq => ?_) (fun cq => ?_)
            · have hf := ie cq hf
              exact jp_317 _ _ _ _ _ _ _ _ _ _ hf (by omega) hP hD hS (lv_sub hl [0, 1, 2, 3, 4, 5] rfl)
            · have hf := it cq hf
              refine lv_iconst (v := 1) hx hb dL_alibis_313 (by decide) ?_
              refine lv_goto (tgt := 318) hx hb dL_alibis_314 (by decide) ?_
              exact jp_318 _ _ _ _ _ _ _ _ _ _ _ hf (by omega) hP hD hS (lv_sub hl [0, 1, 2, 3, 4, 5] rfl)
      have jp_245 : ∀ (x1 : Int32) (x2 : Int32) (x3 : Int32) (x4 : Int32) (x5 : Int32) (x6 : Int32) (x7 : Int32) (x8 : Int32) (x9 : Int32) (x10 : Int32) (vK : KV) (cs : Nat) (H : Heap) (locs : List Loc) (ls : Array Slot), J_K_alibis_245 (L_K_alibis_71 n_71) x1 x2 x3 x4 x5 x6 x7 x8 x9 x10 vK = some r → cs + 4350 + (n_71 * 6561 + 0) ≤ 26253 → va_P E.1 vwCl (W_K E k vK ++ []) H → va_D A (W_K E k vK ++ []) → va_S A s.heap H locs → lv_has ls 16 [(0, .ref k.1), (1, .int x1), (2, .int x2), (3, .int x3), (4, .int x4), (5, .int x5), (6, .int x6), (7, .int x7), (8, .int x8), (9, .int x9), (10, .int x10)] → W p l e rm_L_alibis s m ([.ref k.1, .int p1, .int p2] : List Value).toArray below meth c H locs cs (6 * cs) (vx_MQ below (QW E (some (.int r.1)) (W_K E k r.2) A) (fun _ _ _ => False) ([.ref k.1, .int p1, .int p2] : List Value).toArray s 26253 (6 * 26253) A) (F0 m 245 ls []) := by
        intro x1 x2 x3 x4 x5 x6 x7 x8 x9 x10 vK cs H locs ls hf hc hP hD hS hl
        unfold J_K_alibis_245 at hf
        refine lv_iload hx hb dL_alibis_245 (lv_at hl 5 rfl) ?_
        refine lv_if_eq (tgt := 317) hx hb dL_alibis_247 (by decide) (fun cq => ?_) (fun cq => ?_)
        · have hf := it cq hf
          exact jp_317 _ _ _ _ _ _ _ _ _ _ hf (by omega) hP hD hS (lv_sub hl [0, 1, 2, 3, 4, 6] rfl)
        · have hf := ie cq hf
          refine lv_aload_n hx hb dL_alibis_250 rfl (lv_at hl 0 rfl) ?_
          refine lv_bipush (v := 35) hx hb dL_alibis_251 (by decide) ?_
          refine lv_iload hx hb dL_alibis_253 (lv_at hl 7 rfl) ?_
          refine lv_iload hx hb dL_alibis_255 (lv_at hl 8 rfl) ?_
          obtain ⟨u1, hu1, hf⟩ := bn hf
          refine lk_S (As := [.ref k.1, .int 35, .int x7, .int x8]) (rest := []) (wr := []) hx hb hml hown hg (c_K_call_ E l hst k vK 35 x7 x8 u1 hu1) cs_L_call_ ml_L_252 ⟨⟨rfl, rfl⟩, Nat.le_of_ble_eq_true rfl, Nat.le_of_ble_eq_true rfl⟩ hK hE hN hP hD hS hA (W_Ka E k _ _) rfl hl.1 rfl (Nat.le_of_ble_eq_true rfl) dL_alibis_257 ⟨by show _ ≤ 26253; omega, by show _ ≤ 6 * 26253; omega⟩ [.int u1.1] rfl (fun H locs hP hD hS => ?_)
          refine lv_iload hx hb dL_alibis_260 (lv_at hl 9 rfl) ?_
          refine lv_icmp_ne (tgt := 317) hx hb dL_alibis_262 (by decide) (fun cq => ?_) (fun cq => ?_)
          · have hf := ie cq hf
            exact jp_317 _ _ _ _ _ _ _ _ _ _ hf (by omega) hP hD hS (lv_sub hl [0, 1, 2, 3, 4, 6] rfl)
          · have hf := it cq hf
            refine lv_aload_n hx hb dL_alibis_265 rfl (lv_at hl 0 rfl) ?_
            refine lv_bipush (v := 36) hx hb dL_alibis_266 (by decide) ?_
            refine lv_iload hx hb dL_alibis_268 (lv_at hl 7 rfl) ?_
            refine lv_iload hx hb dL_alibis_270 (lv_at hl 8 rfl) ?_
            obtain ⟨u2, hu2, hf⟩ := bn hf
            refine lk_S (As := [.ref k.1, .int 36, .int x7, .int x8]) (rest := []) (wr := []) hx hb hml hown hg (c_K_call_ E l hst k u1.2 36 x7 x8 u2 hu2) cs_L_call_ ml_L_252 ⟨⟨rfl, rfl⟩, Nat.le_of_ble_eq_true rfl, Nat.le_of_ble_eq_true rfl⟩ hK hE hN hP hD hS hA (W_Ka E k _ _) rfl hl.1 rfl (Nat.le_of_ble_eq_true rfl) dL_alibis_272 ⟨by show _ ≤ 26253; omega, by show _ ≤ 6 * 26253; omega⟩ [.int u2.1] rfl (fun H locs hP hD hS => ?_)
            refine lv_iload hx hb dL_alibis_275 (lv_at hl 9 rfl) ?_
            refine lv_iconst (v := 1) hx hb dL_alibis_277 (by decide) ?_
            refine lv_icmp_ne (tgt := 286) hx hb dL_alibis_278 (by decide) (fun cq => ?_) (fun cq => ?_)
            · have hf := ie cq hf
              refine lv_bipush (v := (-101)) hx hb dL_alibis_286 (by decide) ?_
              exact jp_288 _ _ _ _ _ _ _ _ _ _ _ _ _ _ hf (by omega) hP hD hS (lv_sub hl [0, 1, 2, 3, 4, 6, 7, 8] rfl)
            · have hf := it cq hf
              refine lv_iload hx hb dL_alibis_281 (lv_at hl 10 rfl) ?_
              refine lv_goto (tgt := 288) hx hb dL_alibis_283 (by decide) ?_
              exact jp_288 _ _ _ _ _ _ _ _ _ _ _ _ _ _ hf (by omega) hP hD hS (lv_sub hl [0, 1, 2, 3, 4, 6, 7, 8] rfl)
      have lp_133 : ∀ (n : Nat) (x1 : Int32) (x2 : Int32) (x3 : Int32) (x4 : Int32) (x5 : Int32) (x6 : Int32) (x7 : Int32) (x8 : Int32) (x9 : Int32) (x10 : Int32) (x11 : Int32) (vK : KV) (cs : Nat) (H : Heap) (locs : List Loc) (ls : Array Slot), L_K_alibis_133 (L_K_alibis_71 n_71) n x1 x2 x3 x4 x5 x6 x7 x8 x9 x10 x11 vK = some r → cs + n * 201 + 4350 + (n_71 * 6561 + 0) ≤ 26253 → va_P E.1 vwCl (W_K E k vK ++ []) H → va_D A (W_K E k vK ++ []) → va_S A s.heap H locs → lv_has ls 16 [(0, .ref k.1), (1, .int x1), (2, .int x2), (3, .int x3), (4, .int x4), (5, .int x5), (6, .int x6), (7, .int x7), (8, .int x8), (9, .int x9), (10, .int x10), (11, .int x11)] → W p l e rm_L_alibis s m ([.ref k.1, .int p1, .int p2] : List Value).toArray below meth c H locs cs (6 * cs) (vx_MQ below (QW E (some (.int r.1)) (W_K E k r.2) A) (fun _ _ _ => False) ([.ref k.1, .int p1, .int p2] : List Value).toArray s 26253 (6 * 26253) A) (F0 m 133 ls []) := by
        intro n_133
        induction n_133 with
        | zero => intro x1 x2 x3 x4 x5 x6 x7 x8 x9 x10 x11 vK cs H locs ls hf; cases hf
        | succ n_133 ih_133 =>
          have jp_222 : ∀ (x1 : Int32) (x2 : Int32) (x3 : Int32) (x4 : Int32) (x6 : Int32) (x7 : Int32) (x8 : Int32) (x9 : Int32) (x10 : Int32) (x11 : Int32) (x12 : Int32) (t0 : Int32) (vK : KV) (cs : Nat) (H : Heap) (locs : List Loc) (ls : Array Slot), J_K_alibis_222 (L_K_alibis_71 n_71) (L_K_alibis_133 (L_K_alibis_71 n_71) n_133) x1 x2 x3 x4 x6 x7 x8 x9 x10 x11 x12 t0 vK = some r → cs + 0 + (n_133 * 201 + 4350) + (n_71 * 6561 + 0) ≤ 26253 → va_P E.1 vwCl (W_K E k vK ++ []) H → va_D A (W_K E k vK ++ []) → va_S A s.heap H locs → lv_has ls 16 [(0, .ref k.1), (1, .int x1), (2, .int x2), (3, .int x3), (4, .int x4), (6, .int x6), (7, .int x7), (8, .int x8), (9, .int x9), (10, .int x10), (11, .int x11), (12, .int x12)] → W p l e rm_L_alibis s m ([.ref k.1, .int p1, .int p2] : List Value).toArray below meth c H locs cs (6 * cs) (vx_MQ below (QW E (some (.int r.1)) (W_K E k r.2) A) (fun _ _ _ => False) ([.ref k.1, .int p1, .int p2] : List Value).toArray s 26253 (6 * 26253) A) (F0 m 222 ls [.int t0]) := by
            intro x1 x2 x3 x4 x6 x7 x8 x9 x10 x11 x12 t0 vK cs H locs ls hf hc hP hD hS hl
            unfold J_K_alibis_222 at hf
            refine lv_istore (lv' := [(5, .int t0), (0, .ref k.1), (1, .int x1), (2, .int x2), (3, .int x3), (4, .int x4), (6, .int x6), (7, .int x7), (8, .int x8), (9, .int x9), (10, .int x10), (11, .int x11), (12, .int x12)]) hx hb dL_alibis_222 hl (by decide) rfl (fun ls hl => ?_)
            refine lv_iload hx hb dL_alibis_224 (lv_at hl 12 rfl) ?_
            refine lv_if_ne (tgt := 232) hx hb dL_alibis_226 (by decide) (fun cq => ?_) (fun cq => ?_)
            · have hf := ie cq hf
              refine lv_iinc (v := (x9 + 1)) (lv' := [(9, .int (x9 + 1)), (5, .int t0), (0, .ref k.1), (1, .int x1), (2, .int x2), (3, .int x3), (4, .int x4), (6, .int x6), (7, .int x7), (8, .int x8), (10, .int x10), (11, .int x11), (12, .int x12)]) hx hb dL_alibis_232 hl (k := 9) rfl rfl (by decide) rfl (fun ls hl => ?_)
              refine lv_iload hx hb dL_alibis_235 (lv_at hl 11 rfl) ?_
              refine lv_istore (lv' := [(10, .int x11), (9, .int (x9 + 1)), (5, .int t0), (0, .ref k.1), (1, .int x1), (2, .int x2), (3, .int x3), (4, .int x4), (6, .int x6), (7, .int x7), (8, .int x8), (11, .int x11), (12, .int x12)]) hx hb dL_alibis_237 hl (by decide) rfl (fun ls hl => ?_)
              refine lv_iinc (v := (x11 + 1)) (lv' := [(11, .int (x11 + 1)), (10, .int x11), (9, .int (x9 + 1)), (5, .int t0), (0, .ref k.1), (1, .int x1), (2, .int x2), (3, .int x3), (4, .int x4), (6, .int x6), (7, .int x7), (8, .int x8), (12, .int x12)]) hx hb dL_alibis_239 hl (k := 11) rfl rfl (by decide) rfl (fun ls hl => ?_)
              refine lv_goto (tgt := 133) hx hb dL_alibis_242 (by decide) ?_
              exact ih_133 _ _ _ _ _ _ _ _ _ _ _ _ _ _ _ _ hf (by omega) hP hD hS (lv_sub hl [4, 5, 6, 7, 8, 3, 9, 10, 11, 2, 1, 0] rfl)
            · have hf := it cq hf
              refine lv_goto (tgt := 239) hx hb dL_alibis_229 (by decide) ?_
              refine lv_iinc (v := (x11 + 1)) (lv' := [(11, .int (x11 + 1)), (5, .int t0), (0, .ref k.1), (1, .int x1), (2, .int x2), (3, .int x3), (4, .int x4), (6, .int x6), (7, .int x7), (8, .int x8), (9, .int x9), (10, .int x10), (12, .int x12)]) hx hb dL_alibis_239 hl (k := 11) rfl rfl (by decide) rfl (fun ls hl => ?_)
              refine lv_goto (tgt := 133) hx hb dL_alibis_242 (by decide) ?_
              exact ih_133 _ _ _ _ _ _ _ _ _ _ _ _ _ _ _ _ hf (by omega) hP hD hS (lv_sub hl [2, 3, 4, 5, 6, 1, 7, 8, 9, 10, 11, 0] rfl)
          have jp_214 : ∀ (x1 : Int32) (x2 : Int32) (x3 : Int32) (x4 : Int32) (x6 : Int32) (x7 : Int32) (x8 : Int32) (x9 : Int32) (x10 : Int32) (x11 : Int32) (x12 : Int32) (t0 : Int32) (t1 : Int32) (vK : KV) (cs : Nat) (H : Heap) (locs : List Loc) (ls : Array Slot), J_K_alibis_214 (L_K_alibis_71 n_71) (L_K_alibis_133 (L_K_alibis_71 n_71) n_133) x1 x2 x3 x4 x6 x7 x8 x9 x10 x11 x12 t0 t1 vK = some r → cs + 0 + (n_133 * 201 + 4350) + (n_71 * 6561 + 0) ≤ 26253 → va_P E.1 vwCl (W_K E k vK ++ []) H → va_D A (W_K E k vK ++ []) → va_S A s.heap H locs → lv_has ls 16 [(0, .ref k.1), (1, .int x1), (2, .int x2), (3, .int x3), (4, .int x4), (6, .int x6), (7, .int x7), (8, .int x8), (9, .int x9), (10, .int x10), (11, .int x11), (12, .int x12)] → W p l e rm_L_alibis s m ([.ref k.1, .int p1, .int p2] : List Value).toArray below meth c H locs cs (6 * cs) (vx_MQ below (QW E (some (.int r.1)) (W_K E k r.2) A) (fun _ _ _ => False) ([.ref k.1, .int p1, .int p2] : List Value).toArray s 26253 (6 * 26253) A) (F0 m 214 ls [.int t1, .int t0]) := by
            intro x1 x2 x3 x4 x6 x7 x8 x9 x10 x11 x12 t0 t1 vK cs H locs ls hf hc hP hD hS hl
            unfold J_K_alibis_214 at hf
            refine lv_icmp_ne (tgt := 221) hx hb dL_alibis_214 (by decide) (fun cq => ?_) (fun cq => ?_)
            · have hf := ie cq hf
              refine lv_iconst (v := 0) hx hb dL_alibis_221 (by decide) ?_
              exact jp_222 _ _ _ _ _ _ _ _ _ _ _ _ _ _ _ _ _ hf (by omega) hP hD hS (lv_sub hl [0, 1, 2, 3, 4, 5, 6, 7, 8, 9, 10, 11] rfl)
            · have hf := it cq hf
              refine lv_iconst (v := 1) hx hb dL_alibis_217 (by decide) ?_
              refine lv_goto (tgt := 222) hx hb dL_alibis_218 (by decide) ?_
              exact jp_222 _ _ _ _ _ _ _ _ _ _ _ _ _ _ _ _ _ hf (by omega) hP hD hS (lv_sub hl [0, 1, 2, 3, 4, 5, 6, 7, 8, 9, 10, 11] rfl)
          have lp_151 : ∀ (n : Nat) (x1 : Int32) (x2 : Int32) (x3 : Int32) (x4 : Int32) (x6 : Int32) (x7 : Int32) (x8 : Int32) (x9 : Int32) (x10 : Int32) (x11 : Int32) (x12 : Int32) (x13 : Int32) (vK : KV) (cs : Nat) (H : Heap) (locs : List Loc) (ls : Array Slot), L_K_alibis_151 (L_K_alibis_71 n_71) (L_K_alibis_133 (L_K_alibis_71 n_71) n_133) n x1 x2 x3 x4 x6 x7 x8 x9 x10 x11 x12 x13 vK = some r → cs + n * 3 + 3 + (n_133 * 201 + 4350) + (n_71 * 6561 + 0) ≤ 26253 → va_P E.1 vwCl (W_K E k vK ++ []) H → va_D A (W_K E k vK ++ []) → va_S A s.heap H locs → lv_has ls 16 [(0, .ref k.1), (1, .int x1), (2, .int x2), (3, .int x3), (4, .int x4), (6, .int x6), (7, .int x7), (8, .int x8), (9, .int x9), (10, .int x10), (11, .int x11), (12, .int x12), (13, .int x13)] → W p l e rm_L_alibis s m ([.ref k.1, .int p1, .int p2] : List Value).toArray below meth c H locs cs (6 * cs) (vx_MQ below (QW E (some (.int r.1)) (W_K E k r.2) A) (fun _ _ _ => False) ([.ref k.1, .int p1, .int p2] : List Value).toArray s 26253 (6 * 26253) A) (F0 m 151 ls []) := by
            intro n_151
            induction n_151 with
            | zero => intro x1 x2 x3 x4 x6 x7 x8 x9 x10 x11 x12 x13 vK cs H locs ls hf; cases hf
            | succ n_151 ih_151 =>
              have jp_177 : ∀ (x1 : Int32) (x2 : Int32) (x3 : Int32) (x4 : Int32) (x6 : Int32) (x7 : Int32) (x8 : Int32) (x9 : Int32) (x10 : Int32) (x11 : Int32) (x13 : Int32) (vK : KV) (cs : Nat) (H : Heap) (locs : List Loc) (ls : Array Slot), J_K_alibis_177 (L_K_alibis_71 n_71) (L_K_alibis_133 (L_K_alibis_71 n_71) n_133) (L_K_alibis_151 (L_K_alibis_71 n_71) (L_K_alibis_133 (L_K_alibis_71 n_71) n_133) n_151) x1 x2 x3 x4 x6 x7 x8 x9 x10 x11 x13 vK = some r → cs + 0 + (n_151 * 3 + 3) + (n_133 * 201 + 4350) + (n_71 * 6561 + 0) ≤ 26253 → va_P E.1 vwCl (W_K E k vK ++ []) H → va_D A (W_K E k vK ++ []) → va_S A s.heap H locs → lv_has ls 16 [(0, .ref k.1), (1, .int x1), (2, .int x2), (3, .int x3), (4, .int x4), (6, .int x6), (7, .int x7), (8, .int x8), (9, .int x9), (10, .int x10), (11, .int x11), (13, .int x13)] → W p l e rm_L_alibis s m ([.ref k.1, .int p1, .int p2] : List Value).toArray below meth c H locs cs (6 * cs) (vx_MQ below (QW E (some (.int r.1)) (W_K E k r.2) A) (fun _ _ _ => False) ([.ref k.1, .int p1, .int p2] : List Value).toArray s 26253 (6 * 26253) A) (F0 m 177 ls []) := by
                intro x1 x2 x3 x4 x6 x7 x8 x9 x10 x11 x13 vK cs H locs ls hf hc hP hD hS hl
                unfold J_K_alibis_177 at hf
                refine lv_iconst (v := 1) hx hb dL_alibis_177 (by decide) ?_
                refine lv_goto (tgt := 182) hx hb dL_alibis_178 (by decide) ?_
                refine lv_istore (lv' := [(12, .int 1), (0, .ref k.1), (1, .int x1), (2, .int x2), (3, .int x3), (4, .int x4), (6, .int x6), (7, .int x7), (8, .int x8), (9, .int x9), (10, .int x10), (11, .int x11), (13, .int x13)]) hx hb dL_alibis_182 hl (by decide) rfl (fun ls hl => ?_)
                refine lv_iinc (v := (x13 + 1)) (lv' := [(13, .int (x13 + 1)), (12, .int 1), (0, .ref k.1), (1, .int x1), (2, .int x2), (3, .int x3), (4, .int x4), (6, .int x6), (7, .int x7), (8, .int x8), (9, .int x9), (10, .int x10), (11, .int x11)]) hx hb dL_alibis_184 hl (k := 12) rfl rfl (by decide) rfl (fun ls hl => ?_)
                refine lv_goto (tgt := 151) hx hb dL_alibis_187 (by decide) ?_
                exact ih_151 _ _ _ _ _ _ _ _ _ _ _ _ _ _ _ _ _ hf (by omega) hP hD hS (lv_sub hl [2, 3, 4, 5, 6, 7, 8, 9, 10, 11, 12, 1, 0] rfl)
              intro x1 x2 x3 x4 x6 x7 x8 x9 x10 x11 x12 x13 vK cs H locs ls hf hc hP hD hS hl
              replace hf : B_K_alibis_151 (L_K_alibis_71 n_71) (L_K_alibis_133 (L_K_alibis_71 n_71) n_133) (L_K_alibis_151 (L_K_alibis_71 n_71) (L_K_alibis_133 (L_K_alibis_71 n_71) n_133) n_151) x1 x2 x3 x4 x6 x7 x8 x9 x10 x11 x12 x13 vK = some r := hf
              unfold B_K_alibis_151 at hf
              refine lv_iload hx hb dL_alibis_151 (lv_at hl 12 rfl) ?_
              refine lv_iload hx hb dL_alibis_153 (lv_at hl 7 rfl) ?_
              refine lv_icmp_gt (tgt := 190) hx hb dL_alibis_155 (by decide) (fun cq => ?_) (fun cq => ?_)
              · have hf := it cq hf
                refine lv_aload_n hx hb dL_alibis_190 rfl (lv_at hl 0 rfl) ?_
                refine lv_bipush (v := 34) hx hb dL_alibis_191 (by decide) ?_
                refine lv_iload hx hb dL_alibis_193 (lv_at hl 10 rfl) ?_
                refine lv_iload hx hb dL_alibis_195 (lv_at hl 6 rfl) ?_
                refine lv_iload hx hb dL_alibis_197 (lv_at hl 7 rfl) ?_
                refine lv_iconst (v := 0) hx hb dL_alibis_199 (by decide) ?_
                refine lv_iconst (v := 0) hx hb dL_alibis_200 (by decide) ?_
                obtain ⟨u1, hu1, hf⟩ := bn hf
                refine lk_SW (As := [.ref k.1, .int 34, .int x11, .int x7, .int x8, .int 0, .int 0]) (rest := []) (wr := []) hx hb hml hown hg (c_K_call E l hst k vK 34 x11 x7 x8 0 0 u1 hu1) cw_L_call ml_L_158 ⟨⟨rfl, rfl⟩, Nat.le_of_ble_eq_true rfl, Nat.le_of_ble_eq_true rfl⟩ hK hE hN hP hD hS hA (W_Ka E k _ _) rfl hl.1 rfl (Nat.le_of_ble_eq_true rfl) dL_alibis_201 ⟨by show _ ≤ 26253; omega, by show _ ≤ 6 * 26253; omega⟩ [.int u1.1] rfl (fun H locs hP hD hS => ?_)
                refine lv_iload hx hb dL_alibis_204 (lv_at hl 11 rfl) ?_
                refine lv_if_eq (tgt := 213) hx hb dL_alibis_206 (by decide) (fun cq => ?_) (fun cq => ?_)
                · have hf := it cq hf
                  refine lv_iconst (v := 1) hx hb dL_alibis_213 (by decide) ?_
                  exact jp_214 _ _ _ _ _ _ _ _ _ _ _ _ _ _ _ _ _ _ hf (by omega) hP hD hS (lv_sub hl [0, 1, 2, 3, 4, 5, 6, 7, 8, 9, 10, 11] rfl)
                · have hf := ie cq hf
                  refine lv_iconst (v := 0) hx hb dL_alibis_209 (by decide) ?_
                  refine lv_goto (tgt := 214) hx hb dL_alibis_210 (by decide) ?_
                  exact jp_214 _ _ _ _ _ _ _ _ _ _ _ _ _ _ _ _ _ _ hf (by omega) hP hD hS (lv_sub hl [0, 1, 2, 3, 4, 5, 6, 7, 8, 9, 10, 11] rfl)
              · have hf := ie cq hf
                refine lv_iload hx hb dL_alibis_158 (lv_at hl 11 rfl) ?_
                refine lv_if_ne (tgt := 177) hx hb dL_alibis_160 (by decide) (fun cq => ?_) (fun cq => ?_)
                · have hf := ie cq hf
                  exact jp_177 _ _ _ _ _ _ _ _ _ _ _ _ _ _ _ _ hf (by omega) hP hD hS (lv_sub hl [0, 1, 2, 3, 4, 5, 6, 7, 8, 9, 10, 12] rfl)
                · have hf := it cq hf
                  refine lv_aload_n hx hb dL_alibis_163 rfl (lv_at hl 0 rfl) ?_
                  refine lv_bipush (v := 33) hx hb dL_alibis_164 (by decide) ?_
                  refine lv_iload hx hb dL_alibis_166 (lv_at hl 10 rfl) ?_
                  refine lv_iload hx hb dL_alibis_168 (lv_at hl 12 rfl) ?_
                  obtain ⟨u2, hu2, hf⟩ := bn hf
                  refine lk_S (As := [.ref k.1, .int 33, .int x11, .int x13]) (rest := []) (wr := []) hx hb hml hown hg (c_K_call_ E l hst k vK 33 x11 x13 u2 hu2) cs_L_call_ ml_L_252 ⟨⟨rfl, rfl⟩, Nat.le_of_ble_eq_true rfl, Nat.le_of_ble_eq_true rfl⟩ hK hE hN hP hD hS hA (W_Ka E k _ _) rfl hl.1 rfl (Nat.le_of_ble_eq_true rfl) dL_alibis_170 ⟨by show _ ≤ 26253; omega, by show _ ≤ 6 * 26253; omega⟩ [.int u2.1] rfl (fun H locs hP hD hS => ?_)
                  refine lv_iconst (v := 1) hx hb dL_alibis_173 (by decide) ?_
                  refine lv_icmp_ne (tgt := 181) hx hb dL_alibis_174 (by decide) (fun cq => ?_) (fun cq => ?_)
                  · have hf := ie cq hf
                    refine lv_iconst (v := 0) hx hb dL_alibis_181 (by decide) ?_
                    refine lv_istore (lv' := [(12, .int 0), (0, .ref k.1), (1, .int x1), (2, .int x2), (3, .int x3), (4, .int x4), (6, .int x6), (7, .int x7), (8, .int x8), (9, .int x9), (10, .int x10), (11, .int x11), (13, .int x13)]) hx hb dL_alibis_182 hl (by decide) rfl (fun ls hl => ?_)
                    refine lv_iinc (v := (x13 + 1)) (lv' := [(13, .int (x13 + 1)), (12, .int 0), (0, .ref k.1), (1, .int x1), (2, .int x2), (3, .int x3), (4, .int x4), (6, .int x6), (7, .int x7), (8, .int x8), (9, .int x9), (10, .int x10), (11, .int x11)]) hx hb dL_alibis_184 hl (k := 12) rfl rfl (by decide) rfl (fun ls hl => ?_)
                    refine lv_goto (tgt := 151) hx hb dL_alibis_187 (by decide) ?_
                    exact ih_151 _ _ _ _ _ _ _ _ _ _ _ _ _ _ _ _ _ hf (by omega) hP hD hS (lv_sub hl [2, 3, 4, 5, 6, 7, 8, 9, 10, 11, 12, 1, 0] rfl)
                  · have hf := it cq hf
                    exact jp_177 _ _ _ _ _ _ _ _ _ _ _ _ _ _ _ _ hf (by omega) hP hD hS (lv_sub hl [0, 1, 2, 3, 4, 5, 6, 7, 8, 9, 10, 12] rfl)
          intro x1 x2 x3 x4 x5 x6 x7 x8 x9 x10 x11 vK cs H locs ls hf hc hP hD hS hl
          replace hf : B_K_alibis_133 (L_K_alibis_71 n_71) (L_K_alibis_133 (L_K_alibis_71 n_71) n_133) x1 x2 x3 x4 x5 x6 x7 x8 x9 x10 x11 vK = some r := hf
          unfold B_K_alibis_133 at hf
          refine lv_iload hx hb dL_alibis_133 (lv_at hl 11 rfl) ?_
          refine lv_iload_n hx hb dL_alibis_135 rfl (lv_at hl 3 rfl) ?_
          refine lv_icmp_ge (tgt := 245) hx hb dL_alibis_136 (by decide) (fun cq => ?_) (fun cq => ?_)
          · have hf := it cq hf
            exact jp_245 _ _ _ _ _ _ _ _ _ _ _ _ _ _ _ hf (by omega) hP hD hS (lv_sub hl [0, 1, 2, 3, 4, 5, 6, 7, 8, 9, 10] rfl)
          · have hf := ie cq hf
            refine lv_iload hx hb dL_alibis_139 (lv_at hl 5 rfl) ?_
            refine lv_if_eq (tgt := 245) hx hb dL_alibis_141 (by decide) (fun cq => ?_) (fun cq => ?_)
            · have hf := it cq hf
              exact jp_245 _ _ _ _ _ _ _ _ _ _ _ _ _ _ _ hf (by omega) hP hD hS (lv_sub hl [0, 1, 2, 3, 4, 5, 6, 7, 8, 9, 10] rfl)
            · have hf := ie cq hf
              refine lv_iconst (v := 0) hx hb dL_alibis_144 (by decide) ?_
              refine lv_istore (lv' := [(12, .int 0), (0, .ref k.1), (1, .int x1), (2, .int x2), (3, .int x3), (4, .int x4), (5, .int x5), (6, .int x6), (7, .int x7), (8, .int x8), (9, .int x9), (10, .int x10), (11, .int x11)]) hx hb dL_alibis_145 hl (by decide) rfl (fun ls hl => ?_)
              refine lv_iload hx hb dL_alibis_147 (lv_at hl 8 rfl) ?_
              refine lv_istore (lv' := [(13, .int x7), (12, .int 0), (0, .ref k.1), (1, .int x1), (2, .int x2), (3, .int x3), (4, .int x4), (5, .int x5), (6, .int x6), (7, .int x7), (8, .int x8), (9, .int x9), (10, .int x10), (11, .int x11)]) hx hb dL_alibis_149 hl (by decide) rfl (fun ls hl => ?_)
              exact lp_151 66 _ _ _ _ _ _ _ _ _ _ _ _ _ _ _ _ _ hf (by omega) hP hD hS (lv_sub hl [2, 3, 4, 5, 6, 8, 9, 10, 11, 12, 13, 1, 0] rfl)
      intro x1 x2 x3 x4 x5 x6 vK cs H locs ls hf hc hP hD hS hl
      replace hf : B_K_alibis_71 (L_K_alibis_71 n_71) x1 x2 x3 x4 x5 x6 vK = some r := hf
      unfold B_K_alibis_71 at hf
      refine lv_iload hx hb dL_alibis_71 (lv_at hl 6 rfl) ?_
      refine lv_iconst (v := 3) hx hb dL_alibis_73 (by decide) ?_
      refine lv_icmp_ge (tgt := 489) hx hb dL_alibis_74 (by decide) (fun cq => ?_) (fun cq => ?_)
      · have hf := it cq hf
        refine lv_iload hx hb dL_alibis_489 (lv_at hl 5 rfl) ?_
        obtain ⟨hz, hf⟩ := cn_o hf
        obtain rfl := Option.some.inj hf
        exact lm_yret (v := x5) hx hb hr (nar01 hz) hlocks (lk_P1 hP) hS dL_alibis_491 (by omega) (by omega)
      · have hf := ie cq hf
        refine lv_iload hx hb dL_alibis_77 (lv_at hl 5 rfl) ?_
        refine lv_if_eq (tgt := 489) hx hb dL_alibis_79 (by decide) (fun cq => ?_) (fun cq => ?_)
        · have hf := it cq hf
          refine lv_iload hx hb dL_alibis_489 (lv_at hl 5 rfl) ?_
          obtain ⟨hz, hf⟩ := cn_o hf
          obtain rfl := Option.some.inj hf
          exact lm_yret (v := x5) hx hb hr (nar01 hz) hlocks (lk_P1 hP) hS dL_alibis_491 (by omega) (by omega)
        · have hf := ie cq hf
          refine lv_iload hx hb dL_alibis_82 (lv_at hl 4 rfl) ?_
          refine lv_if_le (tgt := 489) hx hb dL_alibis_84 (by decide) (fun cq => ?_) (fun cq => ?_)
          · have hf := it cq hf
            refine lv_iload hx hb dL_alibis_489 (lv_at hl 5 rfl) ?_
            obtain ⟨hz, hf⟩ := cn_o hf
            obtain rfl := Option.some.inj hf
            exact lm_yret (v := x5) hx hb hr (nar01 hz) hlocks (lk_P1 hP) hS dL_alibis_491 (by omega) (by omega)
          · have hf := ie cq hf
            refine lv_iload_n hx hb dL_alibis_87 rfl (lv_at hl 1 rfl) ?_
            refine lv_iconst (v := 3) hx hb dL_alibis_88 (by decide) ?_
            refine lv_iload hx hb dL_alibis_89 (lv_at hl 6 rfl) ?_
            refine lv_imul hx hb dL_alibis_91 ?_
            refine lv_ishr hx hb dL_alibis_92 ?_
            refine lv_ldcw (v := 65535) hx hb hown (hg _ kc_L_283) dL_alibis_93 ?_
            refine lv_iand hx hb dL_alibis_96 ?_
            refine lv_iload hx hb dL_alibis_97 (lv_at hl 4 rfl) ?_
            obtain ⟨h0, hf⟩ := cn_o hf
            refine lv_irem hx hb dL_alibis_99 h0 ?_
            refine lv_istore (lv' := [(7, .int (((x1 >>> ((3 * x6) &&& 31)) &&& 65535) - ((x1 >>> ((3 * x6) &&& 31)) &&& 65535) / x4 * x4)), (0, .ref k.1), (1, .int x1), (2, .int x2), (3, .int x3), (4, .int x4), (5, .int x5), (6, .int x6)]) hx hb dL_alibis_100 hl (by decide) rfl (fun ls hl => ?_)
            refine lv_iload hx hb dL_alibis_102 (lv_at hl 5 rfl) ?_
            refine lv_iconst (v := 1) hx hb dL_alibis_104 (by decide) ?_
            refine lv_isub hx hb dL_alibis_105 ?_
            refine lv_iload hx hb dL_alibis_106 (lv_at hl 0 rfl) ?_
            refine lv_iload_n hx hb dL_alibis_108 rfl (lv_at hl 3 rfl) ?_
            refine lv_iconst (v := 2) hx hb dL_alibis_109 (by decide) ?_
            refine lv_iload hx hb dL_alibis_110 (lv_at hl 7 rfl) ?_
            refine lv_imul hx hb dL_alibis_112 ?_
            refine lv_ishr hx hb dL_alibis_113 ?_
            refine lv_bipush (v := 63) hx hb dL_alibis_114 (by decide) ?_
            refine lv_iand hx hb dL_alibis_116 ?_
            refine lv_iadd hx hb dL_alibis_117 ?_
            refine cm_min hx hb hml hl.1 hown hg ml_L_272 (Nat.le_of_ble_eq_true rfl) (Nat.le_of_ble_eq_true rfl) ⟨by show _ ≤ 26253; omega, by show _ ≤ 6 * 26253; omega⟩ dL_alibis_118 ?_
            refine lv_istore (lv' := [(8, .int (if ((((x1 >>> ((3 * x6) &&& 31)) &&& 65535) - ((x1 >>> ((3 * x6) &&& 31)) &&& 65535) / x4 * x4) + ((x2 >>> ((2 * x6) &&& 31)) &&& 63)) < (x4 - 1) then ((((x1 >>> ((3 * x6) &&& 31)) &&& 65535) - ((x1 >>> ((3 * x6) &&& 31)) &&& 65535) / x4 * x4) + ((x2 >>> ((2 * x6) &&& 31)) &&& 63)) else (x4 - 1))), (7, .int (((x1 >>> ((3 * x6) &&& 31)) &&& 65535) - ((x1 >>> ((3 * x6) &&& 31)) &&& 65535) / x4 * x4)), (0, .ref k.1), (1, .int x1), (2, .int x2), (3, .int x3), (4, .int x4), (5, .int x5), (6, .int x6)]) hx hb dL_alibis_121 hl (by decide) rfl (fun ls hl => ?_)
            refine lv_iconst (v := 0) hx hb dL_alibis_123 (by decide) ?_
            refine lv_istore (lv' := [(9, .int 0), (8, .int (if ((((x1 >>> ((3 * x6) &&& 31)) &&& 65535) - ((x1 >>> ((3 * x6) &&& 31)) &&& 65535) / x4 * x4) + ((x2 >>> ((2 * x6) &&& 31)) &&& 63)) < (x4 - 1) then ((((x1 >>> ((3 * x6) &&& 31)) &&& 65535) - ((x1 >>> ((3 * x6) &&& 31)) &&& 65535) / x4 * x4) + ((x2 >>> ((2 * x6) &&& 31)) &&& 63)) else (x4 - 1))), (7, .int (((x1 >>> ((3 * x6) &&& 31)) &&& 65535) - ((x1 >>> ((3 * x6) &&& 31)) &&& 65535) / x4 * x4)), (0, .ref k.1), (1, .int x1), (2, .int x2), (3, .int x3), (4, .int x4), (5, .int x5), (6, .int x6)]) hx hb dL_alibis_124 hl (by decide) rfl (fun ls hl => ?_)
            refine lv_bipush (v := (-101)) hx hb dL_alibis_126 (by decide) ?_
            refine lv_istore (lv' := [(10, .int (-101)), (9, .int 0), (8, .int (if ((((x1 >>> ((3 * x6) &&& 31)) &&& 65535) - ((x1 >>> ((3 * x6) &&& 31)) &&& 65535) / x4 * x4) + ((x2 >>> ((2 * x6) &&& 31)) &&& 63)) < (x4 - 1) then ((((x1 >>> ((3 * x6) &&& 31)) &&& 65535) - ((x1 >>> ((3 * x6) &&& 31)) &&& 65535) / x4 * x4) + ((x2 >>> ((2 * x6) &&& 31)) &&& 63)) else (x4 - 1))), (7, .int (((x1 >>> ((3 * x6) &&& 31)) &&& 65535) - ((x1 >>> ((3 * x6) &&& 31)) &&& 65535) / x4 * x4)), (0, .ref k.1), (1, .int x1), (2, .int x2), (3, .int x3), (4, .int x4), (5, .int x5), (6, .int x6)]) hx hb dL_alibis_128 hl (by decide) rfl (fun ls hl => ?_)
            refine lv_iconst (v := 0) hx hb dL_alibis_130 (by decide) ?_
            refine lv_istore (lv' := [(11, .int 0), (10, .int (-101)), (9, .int 0), (8, .int (if ((((x1 >>> ((3 * x6) &&& 31)) &&& 65535) - ((x1 >>> ((3 * x6) &&& 31)) &&& 65535) / x4 * x4) + ((x2 >>> ((2 * x6) &&& 31)) &&& 63)) < (x4 - 1) then ((((x1 >>> ((3 * x6) &&& 31)) &&& 65535) - ((x1 >>> ((3 * x6) &&& 31)) &&& 65535) / x4 * x4) + ((x2 >>> ((2 * x6) &&& 31)) &&& 63)) else (x4 - 1))), (7, .int (((x1 >>> ((3 * x6) &&& 31)) &&& 65535) - ((x1 >>> ((3 * x6) &&& 31)) &&& 65535) / x4 * x4)), (0, .ref k.1), (1, .int x1), (2, .int x2), (3, .int x3), (4, .int x4), (5, .int x5), (6, .int x6)]) hx hb dL_alibis_131 hl (by decide) rfl (fun ls hl => ?_)
            exact lp_133 11 _ _ _ _ _ _ _ _ _ _ _ _ _ _ _ _ hf (by omega) hP hD hS (lv_sub hl [5, 6, 7, 8, 9, 10, 11, 4, 3, 2, 1, 0] rfl)
  have jp_65 : ∀ (x1 : Int32) (x2 : Int32) (x3 : Int32) (x4 : Int32) (vK : KV) (cs : Nat) (H : Heap) (locs : List Loc) (ls : Array Slot), J_K_alibis_65 x1 x2 x3 x4 vK = some r → cs + 26244 ≤ 26253 → va_P E.1 vwCl (W_K E k vK ++ []) H → va_D A (W_K E k vK ++ []) → va_S A s.heap H locs → lv_has ls 16 [(0, .ref k.1), (1, .int x1), (2, .int x2), (3, .int x3), (4, .int x4)] → W p l e rm_L_alibis s m ([.ref k.1, .int p1, .int p2] : List Value).toArray below meth c H locs cs (6 * cs) (vx_MQ below (QW E (some (.int r.1)) (W_K E k r.2) A) (fun _ _ _ => False) ([.ref k.1, .int p1, .int p2] : List Value).toArray s 26253 (6 * 26253) A) (F0 m 65 ls []) := by
    intro x1 x2 x3 x4 vK cs H locs ls hf hc hP hD hS hl
    unfold J_K_alibis_65 at hf
    refine lv_iconst (v := 0) hx hb dL_alibis_65 (by decide) ?_
    refine lv_istore (lv' := [(5, .int 0), (0, .ref k.1), (1, .int x1), (2, .int x2), (3, .int x3), (4, .int x4)]) hx hb dL_alibis_66 hl (by decide) rfl (fun ls hl => ?_)
    refine lv_iconst (v := 0) hx hb dL_alibis_68 (by decide) ?_
    refine lv_istore (lv' := [(6, .int 0), (5, .int 0), (0, .ref k.1), (1, .int x1), (2, .int x2), (3, .int x3), (4, .int x4)]) hx hb dL_alibis_69 hl (by decide) rfl (fun ls hl => ?_)
    exact lp_71 4 _ _ _ _ _ _ _ _ _ _ _ hf (by omega) hP hD hS (lv_sub hl [2, 3, 4, 5, 6, 1, 0] rfl)
  have jp_31 : ∀ (x1 : Int32) (x2 : Int32) (x3 : Int32) (x4 : Int32) (t0 : Int32) (t1 : Int32) (vK : KV) (cs : Nat) (H : Heap) (locs : List Loc) (ls : Array Slot), J_K_alibis_31 x1 x2 x3 x4 t0 t1 vK = some r → cs + 26250 ≤ 26253 → va_P E.1 vwCl (W_K E k vK ++ []) H → va_D A (W_K E k vK ++ []) → va_S A s.heap H locs → lv_has ls 16 [(0, .ref k.1), (1, .int x1), (2, .int x2), (3, .int x3), (4, .int x4)] → W p l e rm_L_alibis s m ([.ref k.1, .int p1, .int p2] : List Value).toArray below meth c H locs cs (6 * cs) (vx_MQ below (QW E (some (.int r.1)) (W_K E k r.2) A) (fun _ _ _ => False) ([.ref k.1, .int p1, .int p2] : List Value).toArray s 26253 (6 * 26253) A) (F0 m 31 ls [.int t1, .int t0]) := by
    intro x1 x2 x3 x4 t0 t1 vK cs H locs ls hf hc hP hD hS hl
    unfold J_K_alibis_31 at hf
    refine lv_icmp_ne (tgt := 65) hx hb dL_alibis_31 (by decide) (fun cq => ?_) (fun cq => ?_)
    · have hf := ie cq hf
      exact jp_65 _ _ _ _ _ _ _ _ _ hf (by omega) hP hD hS (lv_sub hl [0, 1, 2, 3, 4] rfl)
    · have hf := it cq hf
      refine lv_aload_n hx hb dL_alibis_34 rfl (lv_at hl 0 rfl) ?_
      refine lv_bipush (v := 35) hx hb dL_alibis_35 (by decide) ?_
      refine lv_iconst (v := 0) hx hb dL_alibis_37 (by decide) ?_
      refine lv_iload hx hb dL_alibis_38 (lv_at hl 4 rfl) ?_
      obtain ⟨u1, hu1, hf⟩ := bn hf
      refine lk_S (As := [.ref k.1, .int 35, .int 0, .int x4]) (rest := []) (wr := []) hx hb hml hown hg (c_K_call_ E l hst k vK 35 0 x4 u1 hu1) cs_L_call_ ml_L_252 ⟨⟨rfl, rfl⟩, Nat.le_of_ble_eq_true rfl, Nat.le_of_ble_eq_true rfl⟩ hK hE hN hP hD hS hA (W_Ka E k _ _) rfl hl.1 rfl (Nat.le_of_ble_eq_true rfl) dL_alibis_40 ⟨by show _ ≤ 26253; omega, by show _ ≤ 6 * 26253; omega⟩ [.int u1.1] rfl (fun H locs hP hD hS => ?_)
      refine lv_bipush (v := (-103)) hx hb dL_alibis_43 (by decide) ?_
      refine lv_icmp_ne (tgt := 65) hx hb dL_alibis_45 (by decide) (fun cq => ?_) (fun cq => ?_)
      · have hf := ie cq hf
        exact jp_65 _ _ _ _ _ _ _ _ _ hf (by omega) hP hD hS (lv_sub hl [0, 1, 2, 3, 4] rfl)
      · have hf := it cq hf
        refine lv_aload_n hx hb dL_alibis_48 rfl (lv_at hl 0 rfl) ?_
        refine lv_bipush (v := 36) hx hb dL_alibis_49 (by decide) ?_
        refine lv_iconst (v := (-1)) hx hb dL_alibis_51 (by decide) ?_
        refine lv_iconst (v := 0) hx hb dL_alibis_52 (by decide) ?_
        obtain ⟨u2, hu2, hf⟩ := bn hf
        refine lk_S (As := [.ref k.1, .int 36, .int (-1), .int 0]) (rest := []) (wr := []) hx hb hml hown hg (c_K_call_ E l hst k u1.2 36 (-1) 0 u2 hu2) cs_L_call_ ml_L_252 ⟨⟨rfl, rfl⟩, Nat.le_of_ble_eq_true rfl, Nat.le_of_ble_eq_true rfl⟩ hK hE hN hP hD hS hA (W_Ka E k _ _) rfl hl.1 rfl (Nat.le_of_ble_eq_true rfl) dL_alibis_53 ⟨by show _ ≤ 26253; omega, by show _ ≤ 6 * 26253; omega⟩ [.int u2.1] rfl (fun H locs hP hD hS => ?_)
        refine lv_bipush (v := (-103)) hx hb dL_alibis_56 (by decide) ?_
        refine lv_icmp_ne (tgt := 65) hx hb dL_alibis_58 (by decide) (fun cq => ?_) (fun cq => ?_)
        · have hf := ie cq hf
          exact jp_65 _ _ _ _ _ _ _ _ _ hf (by omega) hP hD hS (lv_sub hl [0, 1, 2, 3, 4] rfl)
        · have hf := it cq hf
          refine lv_iconst (v := 1) hx hb dL_alibis_61 (by decide) ?_
          refine lv_goto (tgt := 66) hx hb dL_alibis_62 (by decide) ?_
          refine lv_istore (lv' := [(5, .int 1), (0, .ref k.1), (1, .int x1), (2, .int x2), (3, .int x3), (4, .int x4)]) hx hb dL_alibis_66 hl (by decide) rfl (fun ls hl => ?_)
          refine lv_iconst (v := 0) hx hb dL_alibis_68 (by decide) ?_
          refine lv_istore (lv' := [(6, .int 0), (5, .int 1), (0, .ref k.1), (1, .int x1), (2, .int x2), (3, .int x3), (4, .int x4)]) hx hb dL_alibis_69 hl (by decide) rfl (fun ls hl => ?_)
          exact lp_71 4 _ _ _ _ _ _ _ _ _ _ _ hf (by omega) hP hD hS (lv_sub hl [2, 3, 4, 5, 6, 1, 0] rfl)
  unfold F_K_alibis at hf
  have hc : 0 ≤ 26253 := Nat.zero_le _
  have hP : va_P E.1 vwCl (W_K E k v0 ++ []) s.heap := by rw [List.append_nil]; exact hP
  have hD : va_D A (W_K E k v0 ++ []) := by rw [List.append_nil]; exact hD
  refine W.eqS (n := 6 * 0) rfl ?_
  refine lv_aload_n hx hb dL_alibis_0 rfl (lv_at hl 0 rfl) ?_
  obtain ⟨u1, hu1, hf⟩ := bn hf
  refine lk_V (As := []) (rest := []) (wr := []) hx hb hml hown hg (k_X8_guestCount E l k v0 u1 hu1) cy_X8_guestCount ml_L_243 ⟨⟨rfl, rfl⟩, Nat.le_of_ble_eq_true rfl, Nat.le_of_ble_eq_true rfl⟩ hK hE hP hD hS hA (W_Ka E k _ _) rfl rfl rfl hl.1 rfl (Nat.le_of_ble_eq_true rfl) dL_alibis_1 ⟨by show _ ≤ 26253; omega, by show _ ≤ 6 * 26253; omega⟩ [.int u1] rfl (fun H locs hP hD hS => ?_)
  refine lv_istore_n (lv' := [(3, .int u1), (0, .ref k.1), (1, .int p1), (2, .int p2)]) hx hb dL_alibis_4 rfl hl (by decide) rfl (fun ls hl => ?_)
  refine lv_aload_n hx hb dL_alibis_5 rfl (lv_at hl 1 rfl) ?_
  obtain ⟨u2, hu2, hf⟩ := bn hf
  refine lk_V (As := []) (rest := []) (wr := []) hx hb hml hown hg (k_X8_minute E l k v0 u2 hu2) cy_X8_minute ml_L_218 ⟨⟨rfl, rfl⟩, Nat.le_of_ble_eq_true rfl, Nat.le_of_ble_eq_true rfl⟩ hK hE hP hD hS hA (W_Ka E k _ _) rfl rfl rfl hl.1 rfl (Nat.le_of_ble_eq_true rfl) dL_alibis_6 ⟨by show _ ≤ 26253; omega, by show _ ≤ 6 * 26253; omega⟩ [.int u2] rfl (fun H locs hP hD hS => ?_)
  refine lv_istore (lv' := [(4, .int u2), (3, .int u1), (0, .ref k.1), (1, .int p1), (2, .int p2)]) hx hb dL_alibis_9 hl (by decide) rfl (fun ls hl => ?_)
  refine lv_aload_n hx hb dL_alibis_11 rfl (lv_at hl 2 rfl) ?_
  refine lv_bipush (v := 33) hx hb dL_alibis_12 (by decide) ?_
  refine lv_iconst (v := 0) hx hb dL_alibis_14 (by decide) ?_
  refine lv_iload hx hb dL_alibis_15 (lv_at hl 0 rfl) ?_
  obtain ⟨u3, hu3, hf⟩ := bn hf
  refine lk_S (As := [.ref k.1, .int 33, .int 0, .int u2]) (rest := []) (wr := []) hx hb hml hown hg (c_K_call_ E l hst k v0 33 0 u2 u3 hu3) cs_L_call_ ml_L_252 ⟨⟨rfl, rfl⟩, Nat.le_of_ble_eq_true rfl, Nat.le_of_ble_eq_true rfl⟩ hK hE hN hP hD hS hA (W_Ka E k _ _) rfl hl.1 rfl (Nat.le_of_ble_eq_true rfl) dL_alibis_17 ⟨by show _ ≤ 26253; omega, by show _ ≤ 6 * 26253; omega⟩ [.int u3.1] rfl (fun H locs hP hD hS => ?_)
  refine lv_iload_n hx hb dL_alibis_20 rfl (lv_at hl 1 rfl) ?_
  refine lv_if_ne (tgt := 29) hx hb dL_alibis_21 (by decide) (fun cq => ?_) (fun cq => ?_)
  · have hf := ie cq hf
    refine lv_bipush (v := (-103)) hx hb dL_alibis_29 (by decide) ?_
    exact jp_31 _ _ _ _ _ _ _ _ _ _ _ hf (by omega) hP hD hS (lv_sub hl [2, 3, 4, 1, 0] rfl)
  · have hf := it cq hf
    refine lv_bipush (v := (-104)) hx hb dL_alibis_24 (by decide) ?_
    refine lv_goto (tgt := 31) hx hb dL_alibis_26 (by decide) ?_
    exact jp_31 _ _ _ _ _ _ _ _ _ _ _ hf (by omega) hP hD hS (lv_sub hl [2, 3, 4, 1, 0] rfl)
