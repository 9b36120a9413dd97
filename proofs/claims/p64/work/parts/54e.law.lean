def J_K_passes_335 (rec_243 : Int64 → Int32 → Int32 → Int32 → Int32 → Int32 → Int32 → (Nat → Int32) → (Nat → Int32) → KV → Option (Int32 × KV)) (x2 : Int64) (x4 : Int32) (x8 : Int32) (x10 : Int32) (x11 : Int32) (x12 : Int32) (x15 : Int32) (a230 : Nat → Int32) (a236 : Nat → Int32) (vK : KV) : Option (Int32 × KV) := (rec_243 x2 x4 x8 x10 x11 x12 (x15 + 1) a230 a236 vK)
def J_K_passes_315 (rec_243 : Int64 → Int32 → Int32 → Int32 → Int32 → Int32 → Int32 → (Nat → Int32) → (Nat → Int32) → KV → Option (Int32 × KV)) (x2 : Int64) (x4 : Int32) (x8 : Int32) (x10 : Int32) (x11 : Int32) (x12 : Int32) (x15 : Int32) (x16 : Int32) (t1 : Int32) (t2 : Int32) (a230 : Nat → Int32) (a236 : Nat → Int32) (vK : KV) : Option (Int32 × KV) := ck t1 12 (lt (upd a230 (Int32.toNatClampNeg t1) t2) (fun b1 => (if x16 = 0 then (J_K_passes_335 rec_243 x2 x4 x8 x10 x11 x12 x15 b1 a236 vK) else (F_K_call__ vK 25 x15).bind (fun u1 => (if u1.1 ≤ 0 then (J_K_passes_335 rec_243 x2 x4 x8 x10 x11 x12 x15 b1 a236 u1.2) else (J_K_passes_335 rec_243 x2 x4 x8 x10 x11 (x12 + 1) x15 b1 a236 u1.2))))))
def J_K_passes_269 (rec_243 : Int64 → Int32 → Int32 → Int32 → Int32 → Int32 → Int32 → (Nat → Int32) → (Nat → Int32) → KV → Option (Int32 × KV)) (x2 : Int64) (x4 : Int32) (x8 : Int32) (x10 : Int32) (x11 : Int32) (x12 : Int32) (x15 : Int32) (t0 : Int32) (a230 : Nat → Int32) (a236 : Nat → Int32) (vK : KV) : Option (Int32 × KV) := (if t0 = 0 then (F_K_call__ vK 25 x15).bind (fun u1 => (F_X8_rain (u1.2.1) (u1.2.2.2.1)).bind (fun u2 => (J_K_passes_315 rec_243 x2 x4 x8 x10 x11 x12 x15 t0 x15 (if (u1.1 + u2) < 99 then (u1.1 + u2) else 99) a230 a236 u1.2))) else (F_K_call__ vK 25 x15).bind (fun u3 => (J_K_passes_315 rec_243 x2 x4 x8 x10 x11 x12 x15 t0 x15 (if 0 < (u3.1 - 1) then (u3.1 - 1) else 0) a230 a236 u3.2)))
def J_K_passes_396 (rec_344 : Int64 → Int32 → Int32 → Int32 → Int32 → Int32 → Int32 → (Nat → Int32) → (Nat → Int32) → KV → Option (Int32 × KV)) (x2 : Int64) (x4 : Int32) (x8 : Int32) (x10 : Int32) (x11 : Int32) (x12 : Int32) (x15 : Int32) (t1 : Int32) (t2 : Int32) (t3 : Int32) (a230 : Nat → Int32) (a236 : Nat → Int32) (vK : KV) : Option (Int32 × KV) := ck t1 10 (lt (upd a236 (Int32.toNatClampNeg t1) (t2 + t3)) (fun b1 => (F_K_call__ vK 23 x15).bind (fun u1 => (if u1.1 = 1 then (F_K_call__ u1.2 19 x15).bind (fun u2 => (rec_344 x2 x4 x8 x10 (x11 + u2.1) x12 (x15 + 1) a230 b1 u2.2)) else (rec_344 x2 x4 x8 x10 x11 x12 (x15 + 1) a230 b1 u1.2)))))
def J_K_passes_609 (x2 : Int64) (x8 : Int32) (vK : KV) : Option (Int32 × KV) := (if x8 = 0 then (some (0, vK)) else (F_K_call__ vK 8 0).bind (fun u1 => (if u1.1 < 0 then (some (0, u1.2)) else (F_K_state u1.2).bind (fun u2 => (if (lg_cmp u2.1 x2) = 0 then (some (1, u2.2)) else (some (0, u2.2)))))))
def B_K_passes_562 (rec_562 : Int64 → Int32 → Int32 → Int32 → (Nat → Int32) → KV → Option (Int32 × KV)) (x2 : Int64) (x8 : Int32) (x10 : Int32) (x16 : Int32) (a236 : Nat → Int32) (vK : KV) : Option (Int32 × KV) := (if x10 ≤ x16 then (J_K_passes_609 x2 x8 vK) else (if x8 = 0 then (J_K_passes_609 x2 x8 vK) else (F_K_call__ vK 22 x16).bind (fun u1 => ck x16 10 ((if u1.1 = (if (a236 (Int32.toNatClampNeg x16)) < 999 then (a236 (Int32.toNatClampNeg x16)) else 999) then (rec_562 x2 1 x10 (x16 + 1) a236 u1.2) else (rec_562 x2 0 x10 (x16 + 1) a236 u1.2))))))
def L_K_passes_562 : Nat → Int64 → Int32 → Int32 → Int32 → (Nat → Int32) → KV → Option (Int32 × KV)
  | 0 => fun _ _ _ _ _ _ => none
  | n + 1 => fun x2 x8 x10 x16 a236 vK => B_K_passes_562 (L_K_passes_562 n) x2 x8 x10 x16 a236 vK
def B_K_passes_516 (rec_516 : Int64 → Int32 → Int32 → Int32 → (Nat → Int32) → (Nat → Int32) → KV → Option (Int32 × KV)) (x2 : Int64) (x8 : Int32) (x10 : Int32) (x16 : Int32) (a230 : Nat → Int32) (a236 : Nat → Int32) (vK : KV) : Option (Int32 × KV) := (F_X8_umbrellaCount (vK.1) (vK.2.2.1) (vK.2.2.2.2.1)).bind (fun u1 => (if u1 ≤ x16 then (L_K_passes_562 11 x2 x8 x10 0 a236 vK) else (if x8 = 0 then (L_K_passes_562 11 x2 x8 x10 0 a236 vK) else (F_K_call__ vK 25 x16).bind (fun u2 => ck x16 12 ((if u2.1 = (a230 (Int32.toNatClampNeg x16)) then (rec_516 x2 1 x10 (x16 + 1) a230 a236 u2.2) else (rec_516 x2 0 x10 (x16 + 1) a230 a236 u2.2)))))))
def L_K_passes_516 : Nat → Int64 → Int32 → Int32 → Int32 → (Nat → Int32) → (Nat → Int32) → KV → Option (Int32 × KV)
  | 0 => fun _ _ _ _ _ _ _ => none
  | n + 1 => fun x2 x8 x10 x16 a230 a236 vK => B_K_passes_516 (L_K_passes_516 n) x2 x8 x10 x16 a230 a236 vK
def J_K_passes_510 (x2 : Int64) (x10 : Int32) (a230 : Nat → Int32) (a236 : Nat → Int32) (vK : KV) : Option (Int32 × KV) := (L_K_passes_516 13 x2 0 x10 0 a230 a236 vK)
def J_K_passes_494 (x2 : Int64) (x10 : Int32) (x12 : Int32) (t0 : Int32) (t1 : Int32) (a230 : Nat → Int32) (a236 : Nat → Int32) (vK : KV) : Option (Int32 × KV) := (if t0 = t1 then (F_X8_puddle (vK.1) (vK.2.2.1)).bind (fun u1 => (if u1 = x12 then (L_K_passes_516 13 x2 1 x10 0 a230 a236 vK) else (J_K_passes_510 x2 x10 a230 a236 vK))) else (J_K_passes_510 x2 x10 a230 a236 vK))
def J_K_passes_476 (x2 : Int64) (x10 : Int32) (x11 : Int32) (x12 : Int32) (x15 : Int32) (t0 : Int32) (t1 : Int32) (a230 : Nat → Int32) (a236 : Nat → Int32) (vK : KV) : Option (Int32 × KV) := (if t0 = t1 then (F_X8_noise (vK.1) (vK.2.2.1)).bind (fun u1 => (if x15 = 0 then (J_K_passes_494 x2 x10 x12 u1 x11 a230 a236 vK) else (J_K_passes_494 x2 x10 x12 u1 0 a230 a236 vK))) else (J_K_passes_510 x2 x10 a230 a236 vK))
def J_K_passes_444 (x2 : Int64) (x8 : Int32) (x10 : Int32) (x11 : Int32) (x12 : Int32) (t0 : Int32) (a230 : Nat → Int32) (a236 : Nat → Int32) (vK : KV) : Option (Int32 × KV) := (if x8 = 0 then (J_K_passes_510 x2 x10 a230 a236 vK) else (F_K_call__ vK 4 1).bind (fun u1 => (if t0 = 0 then (J_K_passes_476 x2 x10 x11 x12 t0 u1.1 0 a230 a236 u1.2) else (F_X8_noiseLimit (u1.2.1) (u1.2.2.2.1)).bind (fun u2 => (if x11 ≤ u2 then (J_K_passes_476 x2 x10 x11 x12 t0 u1.1 0 a230 a236 u1.2) else (J_K_passes_476 x2 x10 x11 x12 t0 u1.1 1 a230 a236 u1.2))))))
def B_K_passes_344 (rec_344 : Int64 → Int32 → Int32 → Int32 → Int32 → Int32 → Int32 → (Nat → Int32) → (Nat → Int32) → KV → Option (Int32 × KV)) (x2 : Int64) (x4 : Int32) (x8 : Int32) (x10 : Int32) (x11 : Int32) (x12 : Int32) (x15 : Int32) (a230 : Nat → Int32) (a236 : Nat → Int32) (vK : KV) : Option (Int32 × KV) := (if x10 ≤ x15 then (if ((x4 + 1) - (x4 + 1) / 60 * 60) = 0 then (J_K_passes_444 x2 x8 x10 x11 x12 1 a230 a236 vK) else (J_K_passes_444 x2 x8 x10 x11 x12 0 a230 a236 vK)) else (F_K_call__ vK 22 x15).bind (fun u1 => (F_K_call__ u1.2 20 x15).bind (fun u2 => (if u2.1 = 1 then (F_K_call__ u2.2 29 x15).bind (fun u3 => (if u3.1 = (-101) then (F_X8_rain (u3.2.1) (u3.2.2.2.1)).bind (fun u4 => (J_K_passes_396 rec_344 x2 x4 x8 x10 x11 x12 x15 x15 u1.1 u4 a230 a236 u3.2)) else (J_K_passes_396 rec_344 x2 x4 x8 x10 x11 x12 x15 x15 u1.1 0 a230 a236 u3.2))) else (J_K_passes_396 rec_344 x2 x4 x8 x10 x11 x12 x15 x15 u1.1 0 a230 a236 u2.2)))))
def L_K_passes_344 : Nat → Int64 → Int32 → Int32 → Int32 → Int32 → Int32 → Int32 → (Nat → Int32) → (Nat → Int32) → KV → Option (Int32 × KV)
  | 0 => fun _ _ _ _ _ _ _ _ _ _ => none
  | n + 1 => fun x2 x4 x8 x10 x11 x12 x15 a230 a236 vK => B_K_passes_344 (L_K_passes_344 n) x2 x4 x8 x10 x11 x12 x15 a230 a236 vK
def B_K_passes_243 (rec_243 : Int64 → Int32 → Int32 → Int32 → Int32 → Int32 → Int32 → (Nat → Int32) → (Nat → Int32) → KV → Option (Int32 × KV)) (x2 : Int64) (x4 : Int32) (x8 : Int32) (x10 : Int32) (x11 : Int32) (x12 : Int32) (x15 : Int32) (a230 : Nat → Int32) (a236 : Nat → Int32) (vK : KV) : Option (Int32 × KV) := (F_X8_umbrellaCount (vK.1) (vK.2.2.1) (vK.2.2.2.2.1)).bind (fun u1 => (if u1 ≤ x15 then (L_K_passes_344 11 x2 x4 x8 x10 x11 x12 0 a230 a236 vK) else (F_K_call__ vK 26 x15).bind (fun u2 => (if u2.1 = 1 then (J_K_passes_269 rec_243 x2 x4 x8 x10 x11 x12 x15 1 a230 a236 u2.2) else (J_K_passes_269 rec_243 x2 x4 x8 x10 x11 x12 x15 0 a230 a236 u2.2)))))
def L_K_passes_243 : Nat → Int64 → Int32 → Int32 → Int32 → Int32 → Int32 → Int32 → (Nat → Int32) → (Nat → Int32) → KV → Option (Int32 × KV)
  | 0 => fun _ _ _ _ _ _ _ _ _ _ => none
  | n + 1 => fun x2 x4 x8 x10 x11 x12 x15 a230 a236 vK => B_K_passes_243 (L_K_passes_243 n) x2 x4 x8 x10 x11 x12 x15 a230 a236 vK
def J_K_passes_208 (x2 : Int64) (x4 : Int32) (t0 : Int32) (vK : KV) : Option (Int32 × KV) := (F_X8_guestCount (vK.1) (vK.2.2.1) (vK.2.2.2.1)).bind (fun u1 => (F_X8_noise (vK.1) (vK.2.2.1)).bind (fun u2 => (F_X8_puddle (vK.1) (vK.2.2.1)).bind (fun u3 => (L_K_passes_243 13 x2 x4 t0 u1 u2 u3 0 (fun _ => 0) (fun _ => 0) vK))))
def J_K_passes_207 (x2 : Int64) (x4 : Int32) (vK : KV) : Option (Int32 × KV) := (J_K_passes_208 x2 x4 0 vK)
def J_K_passes_101 (x2 : Int64) (x4 : Int32) (x5 : Int32) (x6 : Int32) (x7 : Int32) (t0 : Int32) (vK : KV) : Option (Int32 × KV) := (F_K_call__ vK 4 x5).bind (fun u1 => (if (x4 + x5) ≤ 720 then (if t0 = 0 then (J_K_passes_207 x2 x4 u1.2) else (if u1.1 = (x6 - x7) then (F_X8_complaints (u1.2.1) (u1.2.2.2.1)).bind (fun u2 => (if u2 = x6 then (F_X8_minute (u1.2.1) (u1.2.2.2.1)).bind (fun u3 => (if u3 = (x4 + x5) then (F_K_register u1.2).bind (fun u4 => (if u4.1 = 0 then (J_K_passes_207 x2 x4 u4.2) else (F_K_call__ u4.2 8 0).bind (fun u5 => (if u5.1 < 0 then (J_K_passes_207 x2 x4 u5.2) else (J_K_passes_208 x2 x4 1 u5.2))))) else (J_K_passes_207 x2 x4 u1.2))) else (J_K_passes_207 x2 x4 u1.2))) else (J_K_passes_207 x2 x4 u1.2))) else (if t0 = 0 then (some (0, u1.2)) else (if u1.1 = (-102) then (F_K_state u1.2).bind (fun u6 => (if (lg_cmp u6.1 x2) = 0 then (some (1, u6.2)) else (some (0, u6.2)))) else (some (0, u1.2))))))
def J_K_passes_100 (x2 : Int64) (x4 : Int32) (x5 : Int32) (x6 : Int32) (x7 : Int32) (vK : KV) : Option (Int32 × KV) := (J_K_passes_101 x2 x4 x5 x6 x7 0 vK)
def F_K_passes (v0 : KV) (p1 : Int32) : Option (Int32 × KV) := (F_K_state v0).bind (fun u1 => (F_X8_minute (u1.2.1) (u1.2.2.2.1)).bind (fun u2 => (F_K_call__ u1.2 41 (1 + ((p1 &&& 255) - (p1 &&& 255) / 100 * 100))).bind (fun u3 => (F_X8_complaints (u3.2.1) (u3.2.2.2.1)).bind (fun u4 => (if u3.1 < u4 then (J_K_passes_100 u1.1 u2 (1 + ((p1 &&& 255) - (p1 &&& 255) / 100 * 100)) u3.1 u4 u3.2) else (F_K_call__ u3.2 41 0).bind (fun u5 => (if u5.1 = u4 then (F_K_call__ u5.2 41 241).bind (fun u6 => (if u6.1 = (-103) then (F_K_call__ u6.2 4 0).bind (fun u7 => (if u7.1 = (-103) then (F_K_call__ u7.2 4 241).bind (fun u8 => (if u8.1 = (-103) then (J_K_passes_101 u1.1 u2 (1 + ((p1 &&& 255) - (p1 &&& 255) / 100 * 100)) u3.1 u4 1 u8.2) else (J_K_passes_100 u1.1 u2 (1 + ((p1 &&& 255) - (p1 &&& 255) / 100 * 100)) u3.1 u4 u8.2))) else (J_K_passes_100 u1.1 u2 (1 + ((p1 &&& 255) - (p1 &&& 255) / 100 * 100)) u3.1 u4 u7.2))) else (J_K_passes_100 u1.1 u2 (1 + ((p1 &&& 255) - (p1 &&& 255) / 100 * 100)) u3.1 u4 u6.2))) else (J_K_passes_100 u1.1 u2 (1 + ((p1 &&& 255) - (p1 &&& 255) / 100 * 100)) u3.1 u4 u5.2))))))))
abbrev rm_L_passes : Room := { frames := 12, cells := 4015, slots := 6 * 4015, locals := 283 }
set_option maxHeartbeats 16000000 in
set_option maxRecDepth 100000 in
theorem q_K_passes_609 {p : Program} {l : Launch} (e : Env) {s : State} {m : MethodId} (below : List Frame) {meth : Method} {c : Code} {A : Nat → Prop} {E : Ev} (hst : l.stackTraces = false) (k : KA) (v0 : KV) (p1 : Int32) (r : Int32 × KV) (hx : p.tables.exec = Jvm.exec) (hb : c.code = cL_passes) (hr : meth.sig.returnType = some .boolean) (hml : c.maxLocals = 17) (hown : s.vm.findClass RL = some m.cls) (hg : ∀ w ∈ GA, w.before ([.ref k.1, .int p1] : List Value).toArray s = true) (hlocks : meth.locks = false) (hK : KX E s) (hE : EX E A s s.heap) (hN : NX s) (hA : ∀ q : Nat, s.heap.size ≤ q → A q) : ∀ (x2 : Int64) (x8 : Int32) (vK : KV) (cs : Nat) (H : Heap) (locs : List Loc) (ls : Array Slot), J_K_passes_609 x2 x8 vK = some r → cs + 1200 ≤ 4015 → va_P E.1 vwCl (W_K E k vK ++ []) H → va_D A (W_K E k vK ++ []) → va_S A s.heap H locs → lv_has ls 17 [(0, .ref k.1), (2, .long x2), (8, .int x8)] → W p l e rm_L_passes s m ([.ref k.1, .int p1] : List Value).toArray below meth c H locs cs (6 * cs) (vx_MQ below (QW E (some (.int r.1)) (W_K E k r.2) A) (fun _ _ _ => False) ([.ref k.1, .int p1] : List Value).toArray s 4015 (6 * 4015) A) (F0 m 609 ls []) := by
  intro x2 x8 vK cs H locs ls hf hc hP hD hS hl
  unfold J_K_passes_609 at hf
  refine lv_iload hx hb dL_passes_609 (lv_at hl 2 rfl) ?_
  refine lv_if_eq (tgt := 637) hx hb dL_passes_611 (by decide) (fun cq => ?_) (fun cq => ?_)
  · have hf := it cq hf
    refine lv_iconst (v := 0) hx hb dL_passes_637 (by decide) ?_
    obtain rfl := Option.some.inj hf
    exact lm_yret (v := 0) hx hb hr rfl hlocks (lk_P1 hP) hS dL_passes_638 (by omega) (by omega)
  · have hf := ie cq hf
    refine lv_aload_n hx hb dL_passes_614 rfl (lv_at hl 0 rfl) ?_
    refine lv_bipush (v := 8) hx hb dL_passes_615 (by decide) ?_
    refine lv_iconst (v := 0) hx hb dL_passes_617 (by decide) ?_
    obtain ⟨u1, hu1, hf⟩ := bn hf
    refine lk_S (As := [.ref k.1, .int 8, .int 0]) (rest := []) (wr := []) hx hb hml hown hg (c_K_call__ E l hst k vK 8 0 u1 hu1) cs_L_call__ ml_L_171 ⟨⟨rfl, rfl⟩, Nat.le_of_ble_eq_true rfl, Nat.le_of_ble_eq_true rfl⟩ hK hE hN hP hD hS hA (W_Ka E k _ _) rfl hl.1 rfl (Nat.le_of_ble_eq_true rfl) dL_passes_618 ⟨by show _ ≤ 4015; omega, by show _ ≤ 6 * 4015; omega⟩ [.int u1.1] rfl (fun H locs hP hD hS => ?_)
    refine lv_if_lt (tgt := 637) hx hb dL_passes_621 (by decide) (fun cq => ?_) (fun cq => ?_)
    · have hf := it cq hf
      refine lv_iconst (v := 0) hx hb dL_passes_637 (by decide) ?_
      obtain rfl := Option.some.inj hf
      exact lm_yret (v := 0) hx hb hr rfl hlocks (lk_P1 hP) hS dL_passes_638 (by omega) (by omega)
    · have hf := ie cq hf
      refine lv_aload_n hx hb dL_passes_624 rfl (lv_at hl 0 rfl) ?_
      obtain ⟨u2, hu2, hf⟩ := bn hf
      refine lk_S (As := [.ref k.1]) (rest := []) (wr := []) hx hb hml hown hg (c_K_state E l hst k u1.2 u2 hu2) cs_L_state ml_L_284 ⟨⟨rfl, rfl⟩, Nat.le_of_ble_eq_true rfl, Nat.le_of_ble_eq_true rfl⟩ hK hE hN hP hD hS hA (W_Ka E k _ _) rfl hl.1 rfl (Nat.le_of_ble_eq_true rfl) dL_passes_625 ⟨by show _ ≤ 4015; omega, by show _ ≤ 6 * 4015; omega⟩ [.long u2.1] rfl (fun H locs hP hD hS => ?_)
      refine lv_lload_n hx hb dL_passes_628 rfl (lv_at hl 1 rfl) ?_
      refine W.lcmp hx hb dL_passes_629 ?_
      refine lv_if_ne (tgt := 637) hx hb dL_passes_630 (by decide) (fun cq => ?_) (fun cq => ?_)
      · have hf := ie cq hf
        refine lv_iconst (v := 0) hx hb dL_passes_637 (by decide) ?_
        obtain rfl := Option.some.inj hf
        exact lm_yret (v := 0) hx hb hr rfl hlocks (lk_P1 hP) hS dL_passes_638 (by omega) (by omega)
      · have hf := it cq hf
        refine lv_iconst (v := 1) hx hb dL_passes_633 (by decide) ?_
        refine lv_goto (tgt := 638) hx hb dL_passes_634 (by decide) ?_
        obtain rfl := Option.some.inj hf
        exact lm_yret (v := 1) hx hb hr rfl hlocks (lk_P1 hP) hS dL_passes_638 (by omega) (by omega)
set_option maxHeartbeats 16000000 in
set_option maxRecDepth 100000 in
theorem q_K_passes_562 {p : Program} {l : Launch} (e : Env) {s : State} {m : MethodId} (below : List Frame) {meth : Method} {c : Code} {A : Nat → Prop} {E : Ev} (hst : l.stackTraces = false) (k : KA) (v0 : KV) (p1 : Int32) (r : Int32 × KV) (hx : p.tables.exec = Jvm.exec) (hb : c.code = cL_passes) (hr : meth.sig.returnType = some .boolean) (hml : c.maxLocals = 17) (hown : s.vm.findClass RL = some m.cls) (hg : ∀ w ∈ GA, w.before ([.ref k.1, .int p1] : List Value).toArray s = true) (hlocks : meth.locks = false) (hK : KX E s) (hE : EX E A s s.heap) (hN : NX s) (hA : ∀ q : Nat, s.heap.size ≤ q → A q) : ∀ (n : Nat) (x2 : Int64) (x8 : Int32) (x10 : Int32) (x16 : Int32) (a236 : Nat → Int32) (vK : KV) (q236 : Nat) (cs : Nat) (H : Heap) (locs : List Loc) (ls : Array Slot), L_K_passes_562 n x2 x8 x10 x16 a236 vK = some r → cs + n * 3 + 1200 ≤ 4015 → va_P E.1 vwCl (W_K E k vK ++ [(q236, .inl (E.2.1, 10, .inl a236))]) H → va_D A (W_K E k vK ++ [(q236, .inl (E.2.1, 10, .inl a236))]) → va_S A s.heap H locs → lv_has ls 17 [(0, .ref k.1), (2, .long x2), (8, .int x8), (10, .int x10), (14, .ref q236), (16, .int x16)] → W p l e rm_L_passes s m ([.ref k.1, .int p1] : List Value).toArray below meth c H locs cs (6 * cs) (vx_MQ below (QW E (some (.int r.1)) (W_K E k r.2) A) (fun _ _ _ => False) ([.ref k.1, .int p1] : List Value).toArray s 4015 (6 * 4015) A) (F0 m 562 ls []) := by
  have jp_609 := q_K_passes_609 e below hst k v0 p1 r hx hb hr hml hown hg hlocks hK hE hN hA
  intro n_562
  induction n_562 with
  | zero => intro x2 x8 x10 x16 a236 vK q236 cs H locs ls hf; cases hf
  | succ n_562 ih_562 =>
    intro x2 x8 x10 x16 a236 vK q236 cs H locs ls hf hc hP hD hS hl
    replace hf : B_K_passes_562 (L_K_passes_562 n_562) x2 x8 x10 x16 a236 vK = some r := hf
    unfold B_K_passes_562 at hf
    refine lv_iload hx hb dL_passes_562 (lv_at hl 5 rfl) ?_
    refine lv_iload hx hb dL_passes_564 (lv_at hl 3 rfl) ?_
    refine lv_icmp_ge (tgt := 609) hx hb dL_passes_566 (by decide) (fun cq => ?_) (fun cq => ?_)
    · have hf := it cq hf
      have hP : va_P E.1 vwCl (W_K E k vK ++ []) _ := lk_P [] rfl hP
      have hD : va_D A (W_K E k vK ++ []) := lk_D [] rfl rfl hD
      exact jp_609 _ _ _ _ _ _ _ hf (by omega) hP hD hS (lv_sub hl [0, 1, 2] rfl)
    · have hf := ie cq hf
      refine lv_iload hx hb dL_passes_569 (lv_at hl 2 rfl) ?_
      refine lv_if_eq (tgt := 609) hx hb dL_passes_571 (by decide) (fun cq => ?_) (fun cq => ?_)
      · have hf := it cq hf
        have hP : va_P E.1 vwCl (W_K E k vK ++ []) _ := lk_P [] rfl hP
        have hD : va_D A (W_K E k vK ++ []) := lk_D [] rfl rfl hD
        exact jp_609 _ _ _ _ _ _ _ hf (by omega) hP hD hS (lv_sub hl [0, 1, 2] rfl)
      · have hf := ie cq hf
        refine lv_aload_n hx hb dL_passes_574 rfl (lv_at hl 0 rfl) ?_
        refine lv_bipush (v := 22) hx hb dL_passes_575 (by decide) ?_
        refine lv_iload hx hb dL_passes_577 (lv_at hl 5 rfl) ?_
        obtain ⟨u1, hu1, hf⟩ := bn hf
        refine lk_S (As := [.ref k.1, .int 22, .int x16]) (rest := []) (wr := [(q236, .inl (E.2.1, 10, .inl a236))]) hx hb hml hown hg (c_K_call__ E l hst k vK 22 x16 u1 hu1) cs_L_call__ ml_L_171 ⟨⟨rfl, rfl⟩, Nat.le_of_ble_eq_true rfl, Nat.le_of_ble_eq_true rfl⟩ hK hE hN hP hD hS hA (W_Ka E k _ _) rfl hl.1 rfl (Nat.le_of_ble_eq_true rfl) dL_passes_579 ⟨by show _ ≤ 4015; omega, by show _ ≤ 6 * 4015; omega⟩ [.int u1.1] rfl (fun H locs hP hD hS => ?_)
        refine lv_sipush (v := 999) hx hb dL_passes_582 (by decide) ?_
        refine lv_aload hx hb dL_passes_585 (lv_at hl 4 rfl) ?_
        refine lv_iload hx hb dL_passes_587 (lv_at hl 5 rfl) ?_
        obtain ⟨hi, hf⟩ := ck_o hf
        refine la_ld hx hb hK hP 0 rfl hi dL_passes_589 ?_
        refine cm_min hx hb hml hl.1 hown hg ml_L_272 (Nat.le_of_ble_eq_true rfl) (Nat.le_of_ble_eq_true rfl) ⟨by show _ ≤ 4015; omega, by show _ ≤ 6 * 4015; omega⟩ dL_passes_590 ?_
        refine lv_icmp_ne (tgt := 600) hx hb dL_passes_593 (by decide) (fun cq => ?_) (fun cq => ?_)
        · have hf := ie cq hf
          refine lv_iconst (v := 0) hx hb dL_passes_600 (by decide) ?_
          refine lv_istore (lv' := [(8, .int 0), (0, .ref k.1), (2, .long x2), (10, .int x10), (14, .ref q236), (16, .int x16)]) hx hb dL_passes_601 hl (by decide) rfl (fun ls hl => ?_)
          refine lv_iinc (v := (x16 + 1)) (lv' := [(16, .int (x16 + 1)), (8, .int 0), (0, .ref k.1), (2, .long x2), (10, .int x10), (14, .ref q236)]) hx hb dL_passes_603 hl (k := 5) rfl rfl (by decide) rfl (fun ls hl => ?_)
          refine lv_goto (tgt := 562) hx hb dL_passes_606 (by decide) ?_
          exact ih_562 _ _ _ _ _ _ _ _ _ _ _ hf (by omega) hP hD hS (lv_sub hl [2, 3, 1, 4, 5, 0] rfl)
        · have hf := it cq hf
          refine lv_iconst (v := 1) hx hb dL_passes_596 (by decide) ?_
          refine lv_goto (tgt := 601) hx hb dL_passes_597 (by decide) ?_
          refine lv_istore (lv' := [(8, .int 1), (0, .ref k.1), (2, .long x2), (10, .int x10), (14, .ref q236), (16, .int x16)]) hx hb dL_passes_601 hl (by decide) rfl (fun ls hl => ?_)
          refine lv_iinc (v := (x16 + 1)) (lv' := [(16, .int (x16 + 1)), (8, .int 1), (0, .ref k.1), (2, .long x2), (10, .int x10), (14, .ref q236)]) hx hb dL_passes_603 hl (k := 5) rfl rfl (by decide) rfl (fun ls hl => ?_)
          refine lv_goto (tgt := 562) hx hb dL_passes_606 (by decide) ?_
          exact ih_562 _ _ _ _ _ _ _ _ _ _ _ hf (by omega) hP hD hS (lv_sub hl [2, 3, 1, 4, 5, 0] rfl)
set_option maxHeartbeats 16000000 in
set_option maxRecDepth 100000 in
theorem q_K_passes_516 {p : Program} {l : Launch} (e : Env) {s : State} {m : MethodId} (below : List Frame) {meth : Method} {c : Code} {A : Nat → Prop} {E : Ev} (hst : l.stackTraces = false) (k : KA) (v0 : KV) (p1 : Int32) (r : Int32 × KV) (hx : p.tables.exec = Jvm.exec) (hb : c.code = cL_passes) (hr : meth.sig.returnType = some .boolean) (hml : c.maxLocals = 17) (hown : s.vm.findClass RL = some m.cls) (hg : ∀ w ∈ GA, w.before ([.ref k.1, .int p1] : List Value).toArray s = true) (hlocks : meth.locks = false) (hK : KX E s) (hE : EX E A s s.heap) (hN : NX s) (hA : ∀ q : Nat, s.heap.size ≤ q → A q) : ∀ (n : Nat) (x2 : Int64) (x8 : Int32) (x10 : Int32) (x16 : Int32) (a230 : Nat → Int32) (a236 : Nat → Int32) (vK : KV) (q230 : Nat) (q236 : Nat) (cs : Nat) (H : Heap) (locs : List Loc) (ls : Array Slot), L_K_passes_516 n x2 x8 x10 x16 a230 a236 vK = some r → cs + n * 3 + 1233 ≤ 4015 → va_P E.1 vwCl (W_K E k vK ++ [(q230, .inl (E.2.1, 12, .inl a230)), (q236, .inl (E.2.1, 10, .inl a236))]) H → va_D A (W_K E k vK ++ [(q230, .inl (E.2.1, 12, .inl a230)), (q236, .inl (E.2.1, 10, .inl a236))]) → va_S A s.heap H locs → lv_has ls 17 [(0, .ref k.1), (2, .long x2), (8, .int x8), (10, .int x10), (13, .ref q230), (14, .ref q236), (16, .int x16)] → W p l e rm_L_passes s m ([.ref k.1, .int p1] : List Value).toArray below meth c H locs cs (6 * cs) (vx_MQ below (QW E (some (.int r.1)) (W_K E k r.2) A) (fun _ _ _ => False) ([.ref k.1, .int p1] : List Value).toArray s 4015 (6 * 4015) A) (F0 m 516 ls []) := by
  have lp_562 := q_K_passes_562 e below hst k v0 p1 r hx hb hr hml hown hg hlocks hK hE hN hA
  intro n_516
  induction n_516 with
  | zero => intro x2 x8 x10 x16 a230 a236 vK q230 q236 cs H locs ls hf; cases hf
  | succ n_516 ih_516 =>
    intro x2 x8 x10 x16 a230 a236 vK q230 q236 cs H locs ls hf hc hP hD hS hl
    replace hf : B_K_passes_516 (L_K_passes_516 n_516) x2 x8 x10 x16 a230 a236 vK = some r := hf
    unfold B_K_passes_516 at hf
    refine lv_iload hx hb dL_passes_516 (lv_at hl 6 rfl) ?_
    refine lv_aload_n hx hb dL_passes_518 rfl (lv_at hl 0 rfl) ?_
    obtain ⟨u1, hu1, hf⟩ := bn hf
    refine lk_V (As := []) (rest := [.int x16]) (wr := [(q230, .inl (E.2.1, 12, .inl a230)), (q236, .inl (E.2.1, 10, .inl a236))]) hx hb hml hown hg (k_X8_umbrellaCount E l k vK u1 hu1) cy_X8_umbrellaCount ml_L_246 ⟨⟨rfl, rfl⟩, Nat.le_of_ble_eq_true rfl, Nat.le_of_ble_eq_true rfl⟩ hK hE hP hD hS hA (W_Ka E k _ _) rfl rfl rfl hl.1 rfl (Nat.le_of_ble_eq_true rfl) dL_passes_519 ⟨by show _ ≤ 4015; omega, by show _ ≤ 6 * 4015; omega⟩ [.int u1, .int x16] rfl (fun H locs hP hD hS => ?_)
    refine lv_icmp_ge (tgt := 559) hx hb dL_passes_522 (by decide) (fun cq => ?_) (fun cq => ?_)
    · have hf := it cq hf
      refine lv_iconst (v := 0) hx hb dL_passes_559 (by decide) ?_
      refine lv_istore (lv' := [(16, .int 0), (0, .ref k.1), (2, .long x2), (8, .int x8), (10, .int x10), (13, .ref q230), (14, .ref q236)]) hx hb dL_passes_560 hl (by decide) rfl (fun ls hl => ?_)
      have hP : va_P E.1 vwCl (W_K E k vK ++ [(q236, .inl (E.2.1, 10, .inl a236))]) _ := lk_P [1] rfl hP
      have hD : va_D A (W_K E k vK ++ [(q236, .inl (E.2.1, 10, .inl a236))]) := lk_D [1] rfl rfl hD
      exact lp_562 11 _ _ _ _ _ _ _ _ _ _ _ hf (by omega) hP hD hS (lv_sub hl [1, 2, 3, 4, 6, 0] rfl)
    · have hf := ie cq hf
      refine lv_iload hx hb dL_passes_525 (lv_at hl 2 rfl) ?_
      refine lv_if_eq (tgt := 559) hx hb dL_passes_527 (by decide) (fun cq => ?_) (fun cq => ?_)
      · have hf := it cq hf
        refine lv_iconst (v := 0) hx hb dL_passes_559 (by decide) ?_
        refine lv_istore (lv' := [(16, .int 0), (0, .ref k.1), (2, .long x2), (8, .int x8), (10, .int x10), (13, .ref q230), (14, .ref q236)]) hx hb dL_passes_560 hl (by decide) rfl (fun ls hl => ?_)
        have hP : va_P E.1 vwCl (W_K E k vK ++ [(q236, .inl (E.2.1, 10, .inl a236))]) _ := lk_P [1] rfl hP
        have hD : va_D A (W_K E k vK ++ [(q236, .inl (E.2.1, 10, .inl a236))]) := lk_D [1] rfl rfl hD
        exact lp_562 11 _ _ _ _ _ _ _ _ _ _ _ hf (by omega) hP hD hS (lv_sub hl [1, 2, 3, 4, 6, 0] rfl)
      · have hf := ie cq hf
        refine lv_aload_n hx hb dL_passes_530 rfl (lv_at hl 0 rfl) ?_
        refine lv_bipush (v := 25) hx hb dL_passes_531 (by decide) ?_
        refine lv_iload hx hb dL_passes_533 (lv_at hl 6 rfl) ?_
        obtain ⟨u2, hu2, hf⟩ := bn hf
        refine lk_S (As := [.ref k.1, .int 25, .int x16]) (rest := []) (wr := [(q230, .inl (E.2.1, 12, .inl a230)), (q236, .inl (E.2.1, 10, .inl a236))]) hx hb hml hown hg (c_K_call__ E l hst k vK 25 x16 u2 hu2) cs_L_call__ ml_L_171 ⟨⟨rfl, rfl⟩, Nat.le_of_ble_eq_true rfl, Nat.le_of_ble_eq_true rfl⟩ hK hE hN hP hD hS hA (W_Ka E k _ _) rfl hl.1 rfl (Nat.le_of_ble_eq_true rfl) dL_passes_535 ⟨by show _ ≤ 4015; omega, by show _ ≤ 6 * 4015; omega⟩ [.int u2.1] rfl (fun H locs hP hD hS => ?_)
        refine lv_aload hx hb dL_passes_538 (lv_at hl 4 rfl) ?_
        refine lv_iload hx hb dL_passes_540 (lv_at hl 6 rfl) ?_
        obtain ⟨hi, hf⟩ := ck_o hf
        refine la_ld hx hb hK hP 0 rfl hi dL_passes_542 ?_
        refine lv_icmp_ne (tgt := 550) hx hb dL_passes_543 (by decide) (fun cq => ?_) (fun cq => ?_)
        · have hf := ie cq hf
          refine lv_iconst (v := 0) hx hb dL_passes_550 (by decide) ?_
          refine lv_istore (lv' := [(8, .int 0), (0, .ref k.1), (2, .long x2), (10, .int x10), (13, .ref q230), (14, .ref q236), (16, .int x16)]) hx hb dL_passes_551 hl (by decide) rfl (fun ls hl => ?_)
          refine lv_iinc (v := (x16 + 1)) (lv' := [(16, .int (x16 + 1)), (8, .int 0), (0, .ref k.1), (2, .long x2), (10, .int x10), (13, .ref q230), (14, .ref q236)]) hx hb dL_passes_553 hl (k := 6) rfl rfl (by decide) rfl (fun ls hl => ?_)
          refine lv_goto (tgt := 516) hx hb dL_passes_556 (by decide) ?_
          exact ih_516 _ _ _ _ _ _ _ _ _ _ _ _ _ hf (by omega) hP hD hS (lv_sub hl [2, 3, 1, 4, 5, 6, 0] rfl)
        · have hf := it cq hf
          refine lv_iconst (v := 1) hx hb dL_passes_546 (by decide) ?_
          refine lv_goto (tgt := 551) hx hb dL_passes_547 (by decide) ?_
          refine lv_istore (lv' := [(8, .int 1), (0, .ref k.1), (2, .long x2), (10, .int x10), (13, .ref q230), (14, .ref q236), (16, .int x16)]) hx hb dL_passes_551 hl (by decide) rfl (fun ls hl => ?_)
          refine lv_iinc (v := (x16 + 1)) (lv' := [(16, .int (x16 + 1)), (8, .int 1), (0, .ref k.1), (2, .long x2), (10, .int x10), (13, .ref q230), (14, .ref q236)]) hx hb dL_passes_553 hl (k := 6) rfl rfl (by decide) rfl (fun ls hl => ?_)
          refine lv_goto (tgt := 516) hx hb dL_passes_556 (by decide) ?_
          exact ih_516 _ _ _ _ _ _ _ _ _ _ _ _ _ hf (by omega) hP hD hS (lv_sub hl [2, 3, 1, 4, 5, 6, 0] rfl)
set_option maxHeartbeats 16000000 in
set_option maxRecDepth 100000 in
theorem q_K_passes_510 {p : Program} {l : Launch} (e : Env) {s : State} {m : MethodId} (below : List Frame) {meth : Method} {c : Code} {A : Nat → Prop} {E : Ev} (hst : l.stackTraces = false) (k : KA) (v0 : KV) (p1 : Int32) (r : Int32 × KV) (hx : p.tables.exec = Jvm.exec) (hb : c.code = cL_passes) (hr : meth.sig.returnType = some .boolean) (hml : c.maxLocals = 17) (hown : s.vm.findClass RL = some m.cls) (hg : ∀ w ∈ GA, w.before ([.ref k.1, .int p1] : List Value).toArray s = true) (hlocks : meth.locks = false) (hK : KX E s) (hE : EX E A s s.heap) (hN : NX s) (hA : ∀ q : Nat, s.heap.size ≤ q → A q) : ∀ (x2 : Int64) (x10 : Int32) (a230 : Nat → Int32) (a236 : Nat → Int32) (vK : KV) (q230 : Nat) (q236 : Nat) (cs : Nat) (H : Heap) (locs : List Loc) (ls : Array Slot), J_K_passes_510 x2 x10 a230 a236 vK = some r → cs + 1272 ≤ 4015 → va_P E.1 vwCl (W_K E k vK ++ [(q230, .inl (E.2.1, 12, .inl a230)), (q236, .inl (E.2.1, 10, .inl a236))]) H → va_D A (W_K E k vK ++ [(q230, .inl (E.2.1, 12, .inl a230)), (q236, .inl (E.2.1, 10, .inl a236))]) → va_S A s.heap H locs → lv_has ls 17 [(0, .ref k.1), (2, .long x2), (10, .int x10), (13, .ref q230), (14, .ref q236)] → W p l e rm_L_passes s m ([.ref k.1, .int p1] : List Value).toArray below meth c H locs cs (6 * cs) (vx_MQ below (QW E (some (.int r.1)) (W_K E k r.2) A) (fun _ _ _ => False) ([.ref k.1, .int p1] : List Value).toArray s 4015 (6 * 4015) A) (F0 m 510 ls []) := by
  have lp_516 := q_K_passes_516 e below hst k v0 p1 r hx hb hr hml hown hg hlocks hK hE hN hA
  intro x2 x10 a230 a236 vK q230 q236 cs H locs ls hf hc hP hD hS hl
  unfold J_K_passes_510 at hf
  refine lv_iconst (v := 0) hx hb dL_passes_510 (by decide) ?_
  refine lv_istore (lv' := [(8, .int 0), (0, .ref k.1), (2, .long x2), (10, .int x10), (13, .ref q230), (14, .ref q236)]) hx hb dL_passes_511 hl (by decide) rfl (fun ls hl => ?_)
  refine lv_iconst (v := 0) hx hb dL_passes_513 (by decide) ?_
  refine lv_istore (lv' := [(16, .int 0), (8, .int 0), (0, .ref k.1), (2, .long x2), (10, .int x10), (13, .ref q230), (14, .ref q236)]) hx hb dL_passes_514 hl (by decide) rfl (fun ls hl => ?_)
  exact lp_516 13 _ _ _ _ _ _ _ _ _ _ _ _ _ hf (by omega) hP hD hS (lv_sub hl [2, 3, 1, 4, 5, 6, 0] rfl)
set_option maxHeartbeats 16000000 in
set_option maxRecDepth 100000 in
theorem q_K_passes_494 {p : Program} {l : Launch} (e : Env) {s : State} {m : MethodId} (below : List Frame) {meth : Method} {c : Code} {A : Nat → Prop} {E : Ev} (hst : l.stackTraces = false) (k : KA) (v0 : KV) (p1 : Int32) (r : Int32 × KV) (hx : p.tables.exec = Jvm.exec) (hb : c.code = cL_passes) (hr : meth.sig.returnType = some .boolean) (hml : c.maxLocals = 17) (hown : s.vm.findClass RL = some m.cls) (hg : ∀ w ∈ GA, w.before ([.ref k.1, .int p1] : List Value).toArray s = true) (hlocks : meth.locks = false) (hK : KX E s) (hE : EX E A s s.heap) (hN : NX s) (hA : ∀ q : Nat, s.heap.size ≤ q → A q) : ∀ (x2 : Int64) (x10 : Int32) (x12 : Int32) (t0 : Int32) (t1 : Int32) (a230 : Nat → Int32) (a236 : Nat → Int32) (vK : KV) (q230 : Nat) (q236 : Nat) (cs : Nat) (H : Heap) (locs : List Loc) (ls : Array Slot), J_K_passes_494 x2 x10 x12 t0 t1 a230 a236 vK = some r → cs + 1272 ≤ 4015 → va_P E.1 vwCl (W_K E k vK ++ [(q230, .inl (E.2.1, 12, .inl a230)), (q236, .inl (E.2.1, 10, .inl a236))]) H → va_D A (W_K E k vK ++ [(q230, .inl (E.2.1, 12, .inl a230)), (q236, .inl (E.2.1, 10, .inl a236))]) → va_S A s.heap H locs → lv_has ls 17 [(0, .ref k.1), (2, .long x2), (10, .int x10), (12, .int x12), (13, .ref q230), (14, .ref q236)] → W p l e rm_L_passes s m ([.ref k.1, .int p1] : List Value).toArray below meth c H locs cs (6 * cs) (vx_MQ below (QW E (some (.int r.1)) (W_K E k r.2) A) (fun _ _ _ => False) ([.ref k.1, .int p1] : List Value).toArray s 4015 (6 * 4015) A) (F0 m 494 ls [.int t1, .int t0]) := by
  have lp_516 := q_K_passes_516 e below hst k v0 p1 r hx hb hr hml hown hg hlocks hK hE hN hA
  have jp_510 := q_K_passes_510 e below hst k v0 p1 r hx hb hr hml hown hg hlocks hK hE hN hA
  intro x2 x10 x12 t0 t1 a230 a236 vK q230 q236 cs H locs ls hf hc hP hD hS hl
  unfold J_K_passes_494 at hf
  refine lv_icmp_ne (tgt := 510) hx hb dL_passes_494 (by decide) (fun cq => ?_) (fun cq => ?_)
  · have hf := ie cq hf
    exact jp_510 _ _ _ _ _ _ _ _ _ _ _ hf (by omega) hP hD hS (lv_sub hl [0, 1, 2, 4, 5] rfl)
  · have hf := it cq hf
    refine lv_aload_n hx hb dL_passes_497 rfl (lv_at hl 0 rfl) ?_
    obtain ⟨u1, hu1, hf⟩ := bn hf
    refine lk_V (As := []) (rest := []) (wr := [(q230, .inl (E.2.1, 12, .inl a230)), (q236, .inl (E.2.1, 10, .inl a236))]) hx hb hml hown hg (k_X8_puddle E l k vK u1 hu1) cy_X8_puddle ml_L_237 ⟨⟨rfl, rfl⟩, Nat.le_of_ble_eq_true rfl, Nat.le_of_ble_eq_true rfl⟩ hK hE hP hD hS hA (W_Ka E k _ _) rfl rfl rfl hl.1 rfl (Nat.le_of_ble_eq_true rfl) dL_passes_498 ⟨by show _ ≤ 4015; omega, by show _ ≤ 6 * 4015; omega⟩ [.int u1] rfl (fun H locs hP hD hS => ?_)
    refine lv_iload hx hb dL_passes_501 (lv_at hl 3 rfl) ?_
    refine lv_icmp_ne (tgt := 510) hx hb dL_passes_503 (by decide) (fun cq => ?_) (fun cq => ?_)
    · have hf := ie cq hf
      exact jp_510 _ _ _ _ _ _ _ _ _ _ _ hf (by omega) hP hD hS (lv_sub hl [0, 1, 2, 4, 5] rfl)
    · have hf := it cq hf
      refine lv_iconst (v := 1) hx hb dL_passes_506 (by decide) ?_
      refine lv_goto (tgt := 511) hx hb dL_passes_507 (by decide) ?_
      refine lv_istore (lv' := [(8, .int 1), (0, .ref k.1), (2, .long x2), (10, .int x10), (12, .int x12), (13, .ref q230), (14, .ref q236)]) hx hb dL_passes_511 hl (by decide) rfl (fun ls hl => ?_)
      refine lv_iconst (v := 0) hx hb dL_passes_513 (by decide) ?_
      refine lv_istore (lv' := [(16, .int 0), (8, .int 1), (0, .ref k.1), (2, .long x2), (10, .int x10), (12, .int x12), (13, .ref q230), (14, .ref q236)]) hx hb dL_passes_514 hl (by decide) rfl (fun ls hl => ?_)
      exact lp_516 13 _ _ _ _ _ _ _ _ _ _ _ _ _ hf (by omega) hP hD hS (lv_sub hl [2, 3, 1, 4, 6, 7, 0] rfl)
set_option maxHeartbeats 16000000 in
set_option maxRecDepth 100000 in
theorem q_K_passes_476 {p : Program} {l : Launch} (e : Env) {s : State} {m : MethodId} (below : List Frame) {meth : Method} {c : Code} {A : Nat → Prop} {E : Ev} (hst : l.stackTraces = false) (k : KA) (v0 : KV) (p1 : Int32) (r : Int32 × KV) (hx : p.tables.exec = Jvm.exec) (hb : c.code = cL_passes) (hr : meth.sig.returnType = some .boolean) (hml : c.maxLocals = 17) (hown : s.vm.findClass RL = some m.cls) (hg : ∀ w ∈ GA, w.before ([.ref k.1, .int p1] : List Value).toArray s = true) (hlocks : meth.locks = false) (hK : KX E s) (hE : EX E A s s.heap) (hN : NX s) (hA : ∀ q : Nat, s.heap.size ≤ q → A q) : ∀ (x2 : Int64) (x10 : Int32) (x11 : Int32) (x12 : Int32) (x15 : Int32) (t0 : Int32) (t1 : Int32) (a230 : Nat → Int32) (a236 : Nat → Int32) (vK : KV) (q230 : Nat) (q236 : Nat) (cs : Nat) (H : Heap) (locs : List Loc) (ls : Array Slot), J_K_passes_476 x2 x10 x11 x12 x15 t0 t1 a230 a236 vK = some r → cs + 1272 ≤ 4015 → va_P E.1 vwCl (W_K E k vK ++ [(q230, .inl (E.2.1, 12, .inl a230)), (q236, .inl (E.2.1, 10, .inl a236))]) H → va_D A (W_K E k vK ++ [(q230, .inl (E.2.1, 12, .inl a230)), (q236, .inl (E.2.1, 10, .inl a236))]) → va_S A s.heap H locs → lv_has ls 17 [(0, .ref k.1), (2, .long x2), (10, .int x10), (11, .int x11), (12, .int x12), (13, .ref q230), (14, .ref q236), (15, .int x15)] → W p l e rm_L_passes s m ([.ref k.1, .int p1] : List Value).toArray below meth c H locs cs (6 * cs) (vx_MQ below (QW E (some (.int r.1)) (W_K E k r.2) A) (fun _ _ _ => False) ([.ref k.1, .int p1] : List Value).toArray s 4015 (6 * 4015) A) (F0 m 476 ls [.int t1, .int t0]) := by
  have jp_510 := q_K_passes_510 e below hst k v0 p1 r hx hb hr hml hown hg hlocks hK hE hN hA
  have jp_494 := q_K_passes_494 e below hst k v0 p1 r hx hb hr hml hown hg hlocks hK hE hN hA
  intro x2 x10 x11 x12 x15 t0 t1 a230 a236 vK q230 q236 cs H locs ls hf hc hP hD hS hl
  unfold J_K_passes_476 at hf
  refine lv_icmp_ne (tgt := 510) hx hb dL_passes_476 (by decide) (fun cq => ?_) (fun cq => ?_)
  · have hf := ie cq hf
    exact jp_510 _ _ _ _ _ _ _ _ _ _ _ hf (by omega) hP hD hS (lv_sub hl [0, 1, 2, 5, 6] rfl)
  · have hf := it cq hf
    refine lv_aload_n hx hb dL_passes_479 rfl (lv_at hl 0 rfl) ?_
    obtain ⟨u1, hu1, hf⟩ := bn hf
    refine lk_V (As := []) (rest := []) (wr := [(q230, .inl (E.2.1, 12, .inl a230)), (q236, .inl (E.2.1, 10, .inl a236))]) hx hb hml hown hg (k_X8_noise E l k vK u1 hu1) cy_X8_noise ml_L_229 ⟨⟨rfl, rfl⟩, Nat.le_of_ble_eq_true rfl, Nat.le_of_ble_eq_true rfl⟩ hK hE hP hD hS hA (W_Ka E k _ _) rfl rfl rfl hl.1 rfl (Nat.le_of_ble_eq_true rfl) dL_passes_480 ⟨by show _ ≤ 4015; omega, by show _ ≤ 6 * 4015; omega⟩ [.int u1] rfl (fun H locs hP hD hS => ?_)
    refine lv_iload hx hb dL_passes_483 (lv_at hl 7 rfl) ?_
    refine lv_if_eq (tgt := 492) hx hb dL_passes_485 (by decide) (fun cq => ?_) (fun cq => ?_)
    · have hf := it cq hf
      refine lv_iload hx hb dL_passes_492 (lv_at hl 3 rfl) ?_
      exact jp_494 _ _ _ _ _ _ _ _ _ _ _ _ _ _ hf (by omega) hP hD hS (lv_sub hl [0, 1, 2, 4, 5, 6] rfl)
    · have hf := ie cq hf
      refine lv_iconst (v := 0) hx hb dL_passes_488 (by decide) ?_
      refine lv_goto (tgt := 494) hx hb dL_passes_489 (by decide) ?_
      exact jp_494 _ _ _ _ _ _ _ _ _ _ _ _ _ _ hf (by omega) hP hD hS (lv_sub hl [0, 1, 2, 4, 5, 6] rfl)
set_option maxHeartbeats 16000000 in
set_option maxRecDepth 100000 in
theorem q_K_passes_444 {p : Program} {l : Launch} (e : Env) {s : State} {m : MethodId} (below : List Frame) {meth : Method} {c : Code} {A : Nat → Prop} {E : Ev} (hst : l.stackTraces = false) (k : KA) (v0 : KV) (p1 : Int32) (r : Int32 × KV) (hx : p.tables.exec = Jvm.exec) (hb : c.code = cL_passes) (hr : meth.sig.returnType = some .boolean) (hml : c.maxLocals = 17) (hown : s.vm.findClass RL = some m.cls) (hg : ∀ w ∈ GA, w.before ([.ref k.1, .int p1] : List Value).toArray s = true) (hlocks : meth.locks = false) (hK : KX E s) (hE : EX E A s s.heap) (hN : NX s) (hA : ∀ q : Nat, s.heap.size ≤ q → A q) : ∀ (x2 : Int64) (x8 : Int32) (x10 : Int32) (x11 : Int32) (x12 : Int32) (t0 : Int32) (a230 : Nat → Int32) (a236 : Nat → Int32) (vK : KV) (q230 : Nat) (q236 : Nat) (cs : Nat) (H : Heap) (locs : List Loc) (ls : Array Slot), J_K_passes_444 x2 x8 x10 x11 x12 t0 a230 a236 vK = some r → cs + 1275 ≤ 4015 → va_P E.1 vwCl (W_K E k vK ++ [(q230, .inl (E.2.1, 12, .inl a230)), (q236, .inl (E.2.1, 10, .inl a236))]) H → va_D A (W_K E k vK ++ [(q230, .inl (E.2.1, 12, .inl a230)), (q236, .inl (E.2.1, 10, .inl a236))]) → va_S A s.heap H locs → lv_has ls 17 [(0, .ref k.1), (2, .long x2), (8, .int x8), (10, .int x10), (11, .int x11), (12, .int x12), (13, .ref q230), (14, .ref q236)] → W p l e rm_L_passes s m ([.ref k.1, .int p1] : List Value).toArray below meth c H locs cs (6 * cs) (vx_MQ below (QW E (some (.int r.1)) (W_K E k r.2) A) (fun _ _ _ => False) ([.ref k.1, .int p1] : List Value).toArray s 4015 (6 * 4015) A) (F0 m 444 ls [.int t0]) := by
  have jp_510 := q_K_passes_510 e below hst k v0 p1 r hx hb hr hml hown hg hlocks hK hE hN hA
  have jp_476 := q_K_passes_476 e below hst k v0 p1 r hx hb hr hml hown hg hlocks hK hE hN hA
  intro x2 x8 x10 x11 x12 t0 a230 a236 vK q230 q236 cs H locs ls hf hc hP hD hS hl
  unfold J_K_passes_444 at hf
  refine lv_istore (lv' := [(15, .int t0), (0, .ref k.1), (2, .long x2), (8, .int x8), (10, .int x10), (11, .int x11), (12, .int x12), (13, .ref q230), (14, .ref q236)]) hx hb dL_passes_444 hl (by decide) rfl (fun ls hl => ?_)
  refine lv_iload hx hb dL_passes_446 (lv_at hl 3 rfl) ?_
  refine lv_if_eq (tgt := 510) hx hb dL_passes_448 (by decide) (fun cq => ?_) (fun cq => ?_)
  · have hf := it cq hf
    exact jp_510 _ _ _ _ _ _ _ _ _ _ _ hf (by omega) hP hD hS (lv_sub hl [1, 2, 4, 7, 8] rfl)
  · have hf := ie cq hf
    refine lv_aload_n hx hb dL_passes_451 rfl (lv_at hl 1 rfl) ?_
    refine lv_iconst (v := 4) hx hb dL_passes_452 (by decide) ?_
    refine lv_iconst (v := 1) hx hb dL_passes_453 (by decide) ?_
    obtain ⟨u1, hu1, hf⟩ := bn hf
    refine lk_S (As := [.ref k.1, .int 4, .int 1]) (rest := []) (wr := [(q230, .inl (E.2.1, 12, .inl a230)), (q236, .inl (E.2.1, 10, .inl a236))]) hx hb hml hown hg (c_K_call__ E l hst k vK 4 1 u1 hu1) cs_L_call__ ml_L_171 ⟨⟨rfl, rfl⟩, Nat.le_of_ble_eq_true rfl, Nat.le_of_ble_eq_true rfl⟩ hK hE hN hP hD hS hA (W_Ka E k _ _) rfl hl.1 rfl (Nat.le_of_ble_eq_true rfl) dL_passes_454 ⟨by show _ ≤ 4015; omega, by show _ ≤ 6 * 4015; omega⟩ [.int u1.1] rfl (fun H locs hP hD hS => ?_)
    refine lv_iload hx hb dL_passes_457 (lv_at hl 0 rfl) ?_
    refine lv_if_eq (tgt := 475) hx hb dL_passes_459 (by decide) (fun cq => ?_) (fun cq => ?_)
    · have hf := it cq hf
      refine lv_iconst (v := 0) hx hb dL_passes_475 (by decide) ?_
      exact jp_476 _ _ _ _ _ _ _ _ _ _ _ _ _ _ _ _ hf (by omega) hP hD hS (lv_sub hl [1, 2, 4, 5, 6, 7, 8, 0] rfl)
    · have hf := ie cq hf
      refine lv_iload hx hb dL_passes_462 (lv_at hl 5 rfl) ?_
      refine lv_aload_n hx hb dL_passes_464 rfl (lv_at hl 1 rfl) ?_
      obtain ⟨u2, hu2, hf⟩ := bn hf
      refine lk_V (As := []) (rest := [.int x11, .int u1.1]) (wr := [(q230, .inl (E.2.1, 12, .inl a230)), (q236, .inl (E.2.1, 10, .inl a236))]) hx hb hml hown hg (k_X8_noiseLimit E l k u1.2 u2 hu2) cy_X8_noiseLimit ml_L_226 ⟨⟨rfl, rfl⟩, Nat.le_of_ble_eq_true rfl, Nat.le_of_ble_eq_true rfl⟩ hK hE hP hD hS hA (W_Ka E k _ _) rfl rfl rfl hl.1 rfl (Nat.le_of_ble_eq_true rfl) dL_passes_465 ⟨by show _ ≤ 4015; omega, by show _ ≤ 6 * 4015; omega⟩ [.int u2, .int x11, .int u1.1] rfl (fun H locs hP hD hS => ?_)
      refine lv_icmp_le (tgt := 475) hx hb dL_passes_468 (by decide) (fun cq => ?_) (fun cq => ?_)
      · have hf := it cq hf
        refine lv_iconst (v := 0) hx hb dL_passes_475 (by decide) ?_
        exact jp_476 _ _ _ _ _ _ _ _ _ _ _ _ _ _ _ _ hf (by omega) hP hD hS (lv_sub hl [1, 2, 4, 5, 6, 7, 8, 0] rfl)
      · have hf := ie cq hf
        refine lv_iconst (v := 1) hx hb dL_passes_471 (by decide) ?_
        refine lv_goto (tgt := 476) hx hb dL_passes_472 (by decide) ?_
        exact jp_476 _ _ _ _ _ _ _ _ _ _ _ _ _ _ _ _ hf (by omega) hP hD hS (lv_sub hl [1, 2, 4, 5, 6, 7, 8, 0] rfl)
set_option maxHeartbeats 16000000 in
set_option maxRecDepth 100000 in
theorem q_K_passes_344 {p : Program} {l : Launch} (e : Env) {s : State} {m : MethodId} (below : List Frame) {meth : Method} {c : Code} {A : Nat → Prop} {E : Ev} (hst : l.stackTraces = false) (k : KA) (v0 : KV) (p1 : Int32) (r : Int32 × KV) (hx : p.tables.exec = Jvm.exec) (hb : c.code = cL_passes) (hr : meth.sig.returnType = some .boolean) (hml : c.maxLocals = 17) (hown : s.vm.findClass RL = some m.cls) (hg : ∀ w ∈ GA, w.before ([.ref k.1, .int p1] : List Value).toArray s = true) (hlocks : meth.locks = false) (hK : KX E s) (hE : EX E A s s.heap) (hN : NX s) (hA : ∀ q : Nat, s.heap.size ≤ q → A q) : ∀ (n : Nat) (x2 : Int64) (x4 : Int32) (x8 : Int32) (x10 : Int32) (x11 : Int32) (x12 : Int32) (x15 : Int32) (a230 : Nat → Int32) (a236 : Nat → Int32) (vK : KV) (q230 : Nat) (q236 : Nat) (cs : Nat) (H : Heap) (locs : List Loc) (ls : Array Slot), L_K_passes_344 n x2 x4 x8 x10 x11 x12 x15 a230 a236 vK = some r → cs + n * 15 + 1275 ≤ 4015 → va_P E.1 vwCl (W_K E k vK ++ [(q230, .inl (E.2.1, 12, .inl a230)), (q236, .inl (E.2.1, 10, .inl a236))]) H → va_D A (W_K E k vK ++ [(q230, .inl (E.2.1, 12, .inl a230)), (q236, .inl (E.2.1, 10, .inl a236))]) → va_S A s.heap H locs → lv_has ls 17 [(0, .ref k.1), (2, .long x2), (4, .int x4), (8, .int x8), (10, .int x10), (11, .int x11), (12, .int x12), (13, .ref q230), (14, .ref q236), (15, .int x15)] → W p l e rm_L_passes s m ([.ref k.1, .int p1] : List Value).toArray below meth c H locs cs (6 * cs) (vx_MQ below (QW E (some (.int r.1)) (W_K E k r.2) A) (fun _ _ _ => False) ([.ref k.1, .int p1] : List Value).toArray s 4015 (6 * 4015) A) (F0 m 344 ls []) := by
  have jp_444 := q_K_passes_444 e below hst k v0 p1 r hx hb hr hml hown hg hlocks hK hE hN hA
  intro n_344
  induction n_344 with
  | zero => intro x2 x4 x8 x10 x11 x12 x15 a230 a236 vK q230 q236 cs H locs ls hf; cases hf
  | succ n_344 ih_344 =>
    have jp_396 : ∀ (x2 : Int64) (x4 : Int32) (x8 : Int32) (x10 : Int32) (x11 : Int32) (x12 : Int32) (x15 : Int32) (t1 : Int32) (t2 : Int32) (t3 : Int32) (a230 : Nat → Int32) (a236 : Nat → Int32) (vK : KV) (q230 : Nat) (q236 : Nat) (cs : Nat) (H : Heap) (locs : List Loc) (ls : Array Slot), J_K_passes_396 (L_K_passes_344 n_344) x2 x4 x8 x10 x11 x12 x15 t1 t2 t3 a230 a236 vK = some r → cs + 6 + (n_344 * 15 + 1275) ≤ 4015 → va_P E.1 vwCl (W_K E k vK ++ [(q230, .inl (E.2.1, 12, .inl a230)), (q236, .inl (E.2.1, 10, .inl a236))]) H → va_D A (W_K E k vK ++ [(q230, .inl (E.2.1, 12, .inl a230)), (q236, .inl (E.2.1, 10, .inl a236))]) → va_S A s.heap H locs → lv_has ls 17 [(0, .ref k.1), (2, .long x2), (4, .int x4), (8, .int x8), (10, .int x10), (11, .int x11), (12, .int x12), (13, .ref q230), (14, .ref q236), (15, .int x15)] → W p l e rm_L_passes s m ([.ref k.1, .int p1] : List Value).toArray below meth c H locs cs (6 * cs) (vx_MQ below (QW E (some (.int r.1)) (W_K E k r.2) A) (fun _ _ _ => False) ([.ref k.1, .int p1] : List Value).toArray s 4015 (6 * 4015) A) (F0 m 396 ls [.int t3, .int t2, .int t1, .ref q236]) := by
      intro x2 x4 x8 x10 x11 x12 x15 t1 t2 t3 a230 a236 vK q230 q236 cs H locs ls hf hc hP hD hS hl
      unfold J_K_passes_396 at hf
      refine lv_iadd hx hb dL_passes_396 ?_
      obtain ⟨hi, hf⟩ := ck_o hf
      obtain ⟨b1, hv, hf⟩ := lt_o hf
      refine la_st (y2 := [(q230, .inl (E.2.1, 12, .inl a230)), (q236, .inl (E.2.1, 10, .inl b1))]) hx hb hK hP hD hS 1 rfl hi (by rw [hv]; rfl) dL_passes_397 (fun H locs hP hD hS => ?_)
      clear hv
      refine lv_aload_n hx hb dL_passes_398 rfl (lv_at hl 0 rfl) ?_
      refine lv_bipush (v := 23) hx hb dL_passes_399 (by decide) ?_
      refine lv_iload hx hb dL_passes_401 (lv_at hl 9 rfl) ?_
      obtain ⟨u1, hu1, hf⟩ := bn hf
      refine lk_S (As := [.ref k.1, .int 23, .int x15]) (rest := []) (wr := [(q230, .inl (E.2.1, 12, .inl a230)), (q236, .inl (E.2.1, 10, .inl b1))]) hx hb hml hown hg (c_K_call__ E l hst k vK 23 x15 u1 hu1) cs_L_call__ ml_L_171 ⟨⟨rfl, rfl⟩, Nat.le_of_ble_eq_true rfl, Nat.le_of_ble_eq_true rfl⟩ hK hE hN hP hD hS hA (W_Ka E k _ _) rfl hl.1 rfl (Nat.le_of_ble_eq_true rfl) dL_passes_403 ⟨by show _ ≤ 4015; omega, by show _ ≤ 6 * 4015; omega⟩ [.int u1.1] rfl (fun H locs hP hD hS => ?_)
      refine lv_iconst (v := 1) hx hb dL_passes_406 (by decide) ?_
      refine lv_icmp_ne (tgt := 423) hx hb dL_passes_407 (by decide) (fun cq => ?_) (fun cq => ?_)
      · have hf := ie cq hf
        refine lv_iinc (v := (x15 + 1)) (lv' := [(15, .int (x15 + 1)), (0, .ref k.1), (2, .long x2), (4, .int x4), (8, .int x8), (10, .int x10), (11, .int x11), (12, .int x12), (13, .ref q230), (14, .ref q236)]) hx hb dL_passes_423 hl (k := 9) rfl rfl (by decide) rfl (fun ls hl => ?_)
        refine lv_goto (tgt := 344) hx hb dL_passes_426 (by decide) ?_
        exact ih_344 _ _ _ _ _ _ _ _ _ _ _ _ _ _ _ _ hf (by omega) hP hD hS (lv_sub hl [1, 2, 3, 4, 5, 6, 7, 8, 9, 0] rfl)
      · have hf := it cq hf
        refine lv_iload hx hb dL_passes_410 (lv_at hl 5 rfl) ?_
        refine lv_aload_n hx hb dL_passes_412 rfl (lv_at hl 0 rfl) ?_
        refine lv_bipush (v := 19) hx hb dL_passes_413 (by decide) ?_
        refine lv_iload hx hb dL_passes_415 (lv_at hl 9 rfl) ?_
        obtain ⟨u2, hu2, hf⟩ := bn hf
        refine lk_S (As := [.ref k.1, .int 19, .int x15]) (rest := [.int x11]) (wr := [(q230, .inl (E.2.1, 12, .inl a230)), (q236, .inl (E.2.1, 10, .inl b1))]) hx hb hml hown hg (c_K_call__ E l hst k u1.2 19 x15 u2 hu2) cs_L_call__ ml_L_171 ⟨⟨rfl, rfl⟩, Nat.le_of_ble_eq_true rfl, Nat.le_of_ble_eq_true rfl⟩ hK hE hN hP hD hS hA (W_Ka E k _ _) rfl hl.1 rfl (Nat.le_of_ble_eq_true rfl) dL_passes_417 ⟨by show _ ≤ 4015; omega, by show _ ≤ 6 * 4015; omega⟩ [.int u2.1, .int x11] rfl (fun H locs hP hD hS => ?_)
        refine lv_iadd hx hb dL_passes_420 ?_
        refine lv_istore (lv' := [(11, .int (x11 + u2.1)), (0, .ref k.1), (2, .long x2), (4, .int x4), (8, .int x8), (10, .int x10), (12, .int x12), (13, .ref q230), (14, .ref q236), (15, .int x15)]) hx hb dL_passes_421 hl (by decide) rfl (fun ls hl => ?_)
        refine lv_iinc (v := (x15 + 1)) (lv' := [(15, .int (x15 + 1)), (11, .int (x11 + u2.1)), (0, .ref k.1), (2, .long x2), (4, .int x4), (8, .int x8), (10, .int x10), (12, .int x12), (13, .ref q230), (14, .ref q236)]) hx hb dL_passes_423 hl (k := 9) rfl rfl (by decide) rfl (fun ls hl => ?_)
        refine lv_goto (tgt := 344) hx hb dL_passes_426 (by decide) ?_
        exact ih_344 _ _ _ _ _ _ _ _ _ _ _ _ _ _ _ _ hf (by omega) hP hD hS (lv_sub hl [2, 3, 4, 5, 6, 1, 7, 8, 9, 0] rfl)
    intro x2 x4 x8 x10 x11 x12 x15 a230 a236 vK q230 q236 cs H locs ls hf hc hP hD hS hl
    replace hf : B_K_passes_344 (L_K_passes_344 n_344) x2 x4 x8 x10 x11 x12 x15 a230 a236 vK = some r := hf
    unfold B_K_passes_344 at hf
    refine lv_iload hx hb dL_passes_344 (lv_at hl 9 rfl) ?_
    refine lv_iload hx hb dL_passes_346 (lv_at hl 4 rfl) ?_
    refine lv_icmp_ge (tgt := 429) hx hb dL_passes_348 (by decide) (fun cq => ?_) (fun cq => ?_)
    · have hf := it cq hf
      refine lv_iload hx hb dL_passes_429 (lv_at hl 2 rfl) ?_
      refine lv_iconst (v := 1) hx hb dL_passes_431 (by decide) ?_
      refine lv_iadd hx hb dL_passes_432 ?_
      refine lv_bipush (v := 60) hx hb dL_passes_433 (by decide) ?_
      refine lv_irem hx hb dL_passes_435 (by decide) ?_
      refine lv_if_ne (tgt := 443) hx hb dL_passes_436 (by decide) (fun cq => ?_) (fun cq => ?_)
      · have hf := ie cq hf
        refine lv_iconst (v := 0) hx hb dL_passes_443 (by decide) ?_
        exact jp_444 _ _ _ _ _ _ _ _ _ _ _ _ _ _ _ hf (by omega) hP hD hS (lv_sub hl [0, 1, 3, 4, 5, 6, 7, 8] rfl)
      · have hf := it cq hf
        refine lv_iconst (v := 1) hx hb dL_passes_439 (by decide) ?_
        refine lv_goto (tgt := 444) hx hb dL_passes_440 (by decide) ?_
        exact jp_444 _ _ _ _ _ _ _ _ _ _ _ _ _ _ _ hf (by omega) hP hD hS (lv_sub hl [0, 1, 3, 4, 5, 6, 7, 8] rfl)
    · have hf := ie cq hf
      refine lv_aload hx hb dL_passes_351 (lv_at hl 8 rfl) ?_
      refine lv_iload hx hb dL_passes_353 (lv_at hl 9 rfl) ?_
      refine lv_aload_n hx hb dL_passes_355 rfl (lv_at hl 0 rfl) ?_
      refine lv_bipush (v := 22) hx hb dL_passes_356 (by decide) ?_
      refine lv_iload hx hb dL_passes_358 (lv_at hl 9 rfl) ?_
      obtain ⟨u1, hu1, hf⟩ := bn hf
      refine lk_S (As := [.ref k.1, .int 22, .int x15]) (rest := [.int x15, .ref q236]) (wr := [(q230, .inl (E.2.1, 12, .inl a230)), (q236, .inl (E.2.1, 10, .inl a236))]) hx hb hml hown hg (c_K_call__ E l hst k vK 22 x15 u1 hu1) cs_L_call__ ml_L_171 ⟨⟨rfl, rfl⟩, Nat.le_of_ble_eq_true rfl, Nat.le_of_ble_eq_true rfl⟩ hK hE hN hP hD hS hA (W_Ka E k _ _) rfl hl.1 rfl (Nat.le_of_ble_eq_true rfl) dL_passes_360 ⟨by show _ ≤ 4015; omega, by show _ ≤ 6 * 4015; omega⟩ [.int u1.1, .int x15, .ref q236] rfl (fun H locs hP hD hS => ?_)
      refine lv_aload_n hx hb dL_passes_363 rfl (lv_at hl 0 rfl) ?_
      refine lv_bipush (v := 20) hx hb dL_passes_364 (by decide) ?_
      refine lv_iload hx hb dL_passes_366 (lv_at hl 9 rfl) ?_
      obtain ⟨u2, hu2, hf⟩ := bn hf
      refine lk_S (As := [.ref k.1, .int 20, .int x15]) (rest := [.int u1.1, .int x15, .ref q236]) (wr := [(q230, .inl (E.2.1, 12, .inl a230)), (q236, .inl (E.2.1, 10, .inl a236))]) hx hb hml hown hg (c_K_call__ E l hst k u1.2 20 x15 u2 hu2) cs_L_call__ ml_L_171 ⟨⟨rfl, rfl⟩, Nat.le_of_ble_eq_true rfl, Nat.le_of_ble_eq_true rfl⟩ hK hE hN hP hD hS hA (W_Ka E k _ _) rfl hl.1 rfl (Nat.le_of_ble_eq_true rfl) dL_passes_368 ⟨by show _ ≤ 4015; omega, by show _ ≤ 6 * 4015; omega⟩ [.int u2.1, .int u1.1, .int x15, .ref q236] rfl (fun H locs hP hD hS => ?_)
      refine lv_iconst (v := 1) hx hb dL_passes_371 (by decide) ?_
      refine lv_icmp_ne (tgt := 395) hx hb dL_passes_372 (by decide) (fun cq => ?_) (fun cq => ?_)
      · have hf := ie cq hf
        refine lv_iconst (v := 0) hx hb dL_passes_395 (by decide) ?_
        exact jp_396 _ _ _ _ _ _ _ _ _ _ _ _ _ _ _ _ _ _ _ hf (by omega) hP hD hS (lv_sub hl [0, 1, 2, 3, 4, 5, 6, 7, 8, 9] rfl)
      · have hf := it cq hf
        refine lv_aload_n hx hb dL_passes_375 rfl (lv_at hl 0 rfl) ?_
        refine lv_bipush (v := 29) hx hb dL_passes_376 (by decide) ?_
        refine lv_iload hx hb dL_passes_378 (lv_at hl 9 rfl) ?_
        obtain ⟨u3, hu3, hf⟩ := bn hf
        refine lk_S (As := [.ref k.1, .int 29, .int x15]) (rest := [.int u1.1, .int x15, .ref q236]) (wr := [(q230, .inl (E.2.1, 12, .inl a230)), (q236, .inl (E.2.1, 10, .inl a236))]) hx hb hml hown hg (c_K_call__ E l hst k u2.2 29 x15 u3 hu3) cs_L_call__ ml_L_171 ⟨⟨rfl, rfl⟩, Nat.le_of_ble_eq_true rfl, Nat.le_of_ble_eq_true rfl⟩ hK hE hN hP hD hS hA (W_Ka E k _ _) rfl hl.1 rfl (Nat.le_of_ble_eq_true rfl) dL_passes_380 ⟨by show _ ≤ 4015; omega, by show _ ≤ 6 * 4015; omega⟩ [.int u3.1, .int u1.1, .int x15, .ref q236] rfl (fun H locs hP hD hS => ?_)
        refine lv_bipush (v := (-101)) hx hb dL_passes_383 (by decide) ?_
        refine lv_icmp_ne (tgt := 395) hx hb dL_passes_385 (by decide) (fun cq => ?_) (fun cq => ?_)
        · have hf := ie cq hf
          refine lv_iconst (v := 0) hx hb dL_passes_395 (by decide) ?_
          exact jp_396 _ _ _ _ _ _ _ _ _ _ _ _ _ _ _ _ _ _ _ hf (by omega) hP hD hS (lv_sub hl [0, 1, 2, 3, 4, 5, 6, 7, 8, 9] rfl)
        · have hf := it cq hf
          refine lv_aload_n hx hb dL_passes_388 rfl (lv_at hl 0 rfl) ?_
          obtain ⟨u4, hu4, hf⟩ := bn hf
          refine lk_V (As := []) (rest := [.int u1.1, .int x15, .ref q236]) (wr := [(q230, .inl (E.2.1, 12, .inl a230)), (q236, .inl (E.2.1, 10, .inl a236))]) hx hb hml hown hg (k_X8_rain E l k u3.2 u4 hu4) cy_X8_rain ml_L_221 ⟨⟨rfl, rfl⟩, Nat.le_of_ble_eq_true rfl, Nat.le_of_ble_eq_true rfl⟩ hK hE hP hD hS hA (W_Ka E k _ _) rfl rfl rfl hl.1 rfl (Nat.le_of_ble_eq_true rfl) dL_passes_389 ⟨by show _ ≤ 4015; omega, by show _ ≤ 6 * 4015; omega⟩ [.int u4, .int u1.1, .int x15, .ref q236] rfl (fun H locs hP hD hS => ?_)
          refine lv_goto (tgt := 396) hx hb dL_passes_392 (by decide) ?_
          exact jp_396 _ _ _ _ _ _ _ _ _ _ _ _ _ _ _ _ _ _ _ hf (by omega) hP hD hS (lv_sub hl [0, 1, 2, 3, 4, 5, 6, 7, 8, 9] rfl)
set_option maxHeartbeats 16000000 in
set_option maxRecDepth 100000 in
theorem q_K_passes_243 {p : Program} {l : Launch} (e : Env) {s : State} {m : MethodId} (below : List Frame) {meth : Method} {c : Code} {A : Nat → Prop} {E : Ev} (hst : l.stackTraces = false) (k : KA) (v0 : KV) (p1 : Int32) (r : Int32 × KV) (hx : p.tables.exec = Jvm.exec) (hb : c.code = cL_passes) (hr : meth.sig.returnType = some .boolean) (hml : c.maxLocals = 17) (hown : s.vm.findClass RL = some m.cls) (hg : ∀ w ∈ GA, w.before ([.ref k.1, .int p1] : List Value).toArray s = true) (hlocks : meth.locks = false) (hK : KX E s) (hE : EX E A s s.heap) (hN : NX s) (hA : ∀ q : Nat, s.heap.size ≤ q → A q) : ∀ (n : Nat) (x2 : Int64) (x4 : Int32) (x8 : Int32) (x10 : Int32) (x11 : Int32) (x12 : Int32) (x15 : Int32) (a230 : Nat → Int32) (a236 : Nat → Int32) (vK : KV) (q230 : Nat) (q236 : Nat) (cs : Nat) (H : Heap) (locs : List Loc) (ls : Array Slot), L_K_passes_243 n x2 x4 x8 x10 x11 x12 x15 a230 a236 vK = some r → cs + n * 9 + 1440 ≤ 4015 → va_P E.1 vwCl (W_K E k vK ++ [(q230, .inl (E.2.1, 12, .inl a230)), (q236, .inl (E.2.1, 10, .inl a236))]) H → va_D A (W_K E k vK ++ [(q230, .inl (E.2.1, 12, .inl a230)), (q236, .inl (E.2.1, 10, .inl a236))]) → va_S A s.heap H locs → lv_has ls 17 [(0, .ref k.1), (2, .long x2), (4, .int x4), (8, .int x8), (10, .int x10), (11, .int x11), (12, .int x12), (13, .ref q230), (14, .ref q236), (15, .int x15)] → W p l e rm_L_passes s m ([.ref k.1, .int p1] : List Value).toArray below meth c H locs cs (6 * cs) (vx_MQ below (QW E (some (.int r.1)) (W_K E k r.2) A) (fun _ _ _ => False) ([.ref k.1, .int p1] : List Value).toArray s 4015 (6 * 4015) A) (F0 m 243 ls []) := by
  have lp_344 := q_K_passes_344 e below hst k v0 p1 r hx hb hr hml hown hg hlocks hK hE hN hA
  intro n_243
  induction n_243 with
  | zero => intro x2 x4 x8 x10 x11 x12 x15 a230 a236 vK q230 q236 cs H locs ls hf; cases hf
  | succ n_243 ih_243 =>
    have jp_335 : ∀ (x2 : Int64) (x4 : Int32) (x8 : Int32) (x10 : Int32) (x11 : Int32) (x12 : Int32) (x15 : Int32) (a230 : Nat → Int32) (a236 : Nat → Int32) (vK : KV) (q230 : Nat) (q236 : Nat) (cs : Nat) (H : Heap) (locs : List Loc) (ls : Array Slot), J_K_passes_335 (L_K_passes_243 n_243) x2 x4 x8 x10 x11 x12 x15 a230 a236 vK = some r → cs + 0 + (n_243 * 9 + 1440) ≤ 4015 → va_P E.1 vwCl (W_K E k vK ++ [(q230, .inl (E.2.1, 12, .inl a230)), (q236, .inl (E.2.1, 10, .inl a236))]) H → va_D A (W_K E k vK ++ [(q230, .inl (E.2.1, 12, .inl a230)), (q236, .inl (E.2.1, 10, .inl a236))]) → va_S A s.heap H locs → lv_has ls 17 [(0, .ref k.1), (2, .long x2), (4, .int x4), (8, .int x8), (10, .int x10), (11, .int x11), (12, .int x12), (13, .ref q230), (14, .ref q236), (15, .int x15)] → W p l e rm_L_passes s m ([.ref k.1, .int p1] : List Value).toArray below meth c H locs cs (6 * cs) (vx_MQ below (QW E (some (.int r.1)) (W_K E k r.2) A) (fun _ _ _ => False) ([.ref k.1, .int p1] : List Value).toArray s 4015 (6 * 4015) A) (F0 m 335 ls []) := by
      intro x2 x4 x8 x10 x11 x12 x15 a230 a236 vK q230 q236 cs H locs ls hf hc hP hD hS hl
      unfold J_K_passes_335 at hf
      refine lv_iinc (v := (x15 + 1)) (lv' := [(15, .int (x15 + 1)), (0, .ref k.1), (2, .long x2), (4, .int x4), (8, .int x8), (10, .int x10), (11, .int x11), (12, .int x12), (13, .ref q230), (14, .ref q236)]) hx hb dL_passes_335 hl (k := 9) rfl rfl (by decide) rfl (fun ls hl => ?_)
      refine lv_goto (tgt := 243) hx hb dL_passes_338 (by decide) ?_
      exact ih_243 _ _ _ _ _ _ _ _ _ _ _ _ _ _ _ _ hf (by omega) hP hD hS (lv_sub hl [1, 2, 3, 4, 5, 6, 7, 8, 9, 0] rfl)
    have jp_315 : ∀ (x2 : Int64) (x4 : Int32) (x8 : Int32) (x10 : Int32) (x11 : Int32) (x12 : Int32) (x15 : Int32) (x16 : Int32) (t1 : Int32) (t2 : Int32) (a230 : Nat → Int32) (a236 : Nat → Int32) (vK : KV) (q230 : Nat) (q236 : Nat) (cs : Nat) (H : Heap) (locs : List Loc) (ls : Array Slot), J_K_passes_315 (L_K_passes_243 n_243) x2 x4 x8 x10 x11 x12 x15 x16 t1 t2 a230 a236 vK = some r → cs + 3 + (n_243 * 9 + 1440) ≤ 4015 → va_P E.1 vwCl (W_K E k vK ++ [(q230, .inl (E.2.1, 12, .inl a230)), (q236, .inl (E.2.1, 10, .inl a236))]) H → va_D A (W_K E k vK ++ [(q230, .inl (E.2.1, 12, .inl a230)), (q236, .inl (E.2.1, 10, .inl a236))]) → va_S A s.heap H locs → lv_has ls 17 [(0, .ref k.1), (2, .long x2), (4, .int x4), (8, .int x8), (10, .int x10), (11, .int x11), (12, .int x12), (13, .ref q230), (14, .ref q236), (15, .int x15), (16, .int x16)] → W p l e rm_L_passes s m ([.ref k.1, .int p1] : List Value).toArray below meth c H locs cs (6 * cs) (vx_MQ below (QW E (some (.int r.1)) (W_K E k r.2) A) (fun _ _ _ => False) ([.ref k.1, .int p1] : List Value).toArray s 4015 (6 * 4015) A) (F0 m 315 ls [.int t2, .int t1, .ref q230]) := by
      intro x2 x4 x8 x10 x11 x12 x15 x16 t1 t2 a230 a236 vK q230 q236 cs H locs ls hf hc hP hD hS hl
      unfold J_K_passes_315 at hf
      obtain ⟨hi, hf⟩ := ck_o hf
      obtain ⟨b1, hv, hf⟩ := lt_o hf
      refine la_st (y2 := [(q230, .inl (E.2.1, 12, .inl b1)), (q236, .inl (E.2.1, 10, .inl a236))]) hx hb hK hP hD hS 0 rfl hi (by rw [hv]; rfl) dL_passes_315 (fun H locs hP hD hS => ?_)
      clear hv
      refine lv_iload hx hb dL_passes_316 (lv_at hl 10 rfl) ?_
      refine lv_if_eq (tgt := 335) hx hb dL_passes_318 (by decide) (fun cq => ?_) (fun cq => ?_)
      · have hf := it cq hf
        exact jp_335 _ _ _ _ _ _ _ _ _ _ _ _ _ _ _ _ hf (by omega) hP hD hS (lv_sub hl [0, 1, 2, 3, 4, 5, 6, 7, 8, 9] rfl)
      · have hf := ie cq hf
        refine lv_aload_n hx hb dL_passes_321 rfl (lv_at hl 0 rfl) ?_
        refine lv_bipush (v := 25) hx hb dL_passes_322 (by decide) ?_
        refine lv_iload hx hb dL_passes_324 (lv_at hl 9 rfl) ?_
        obtain ⟨u1, hu1, hf⟩ := bn hf
        refine lk_S (As := [.ref k.1, .int 25, .int x15]) (rest := []) (wr := [(q230, .inl (E.2.1, 12, .inl b1)), (q236, .inl (E.2.1, 10, .inl a236))]) hx hb hml hown hg (c_K_call__ E l hst k vK 25 x15 u1 hu1) cs_L_call__ ml_L_171 ⟨⟨rfl, rfl⟩, Nat.le_of_ble_eq_true rfl, Nat.le_of_ble_eq_true rfl⟩ hK hE hN hP hD hS hA (W_Ka E k _ _) rfl hl.1 rfl (Nat.le_of_ble_eq_true rfl) dL_passes_326 ⟨by show _ ≤ 4015; omega, by show _ ≤ 6 * 4015; omega⟩ [.int u1.1] rfl (fun H locs hP hD hS => ?_)
        refine lv_if_le (tgt := 335) hx hb dL_passes_329 (by decide) (fun cq => ?_) (fun cq => ?_)
        · have hf := it cq hf
          exact jp_335 _ _ _ _ _ _ _ _ _ _ _ _ _ _ _ _ hf (by omega) hP hD hS (lv_sub hl [0, 1, 2, 3, 4, 5, 6, 7, 8, 9] rfl)
        · have hf := ie cq hf
          refine lv_iinc (v := (x12 + 1)) (lv' := [(12, .int (x12 + 1)), (0, .ref k.1), (2, .long x2), (4, .int x4), (8, .int x8), (10, .int x10), (11, .int x11), (13, .ref q230), (14, .ref q236), (15, .int x15), (16, .int x16)]) hx hb dL_passes_332 hl (k := 6) rfl rfl (by decide) rfl (fun ls hl => ?_)
          exact jp_335 _ _ _ _ _ _ _ _ _ _ _ _ _ _ _ _ hf (by omega) hP hD hS (lv_sub hl [1, 2, 3, 4, 5, 6, 0, 7, 8, 9] rfl)
    have jp_269 : ∀ (x2 : Int64) (x4 : Int32) (x8 : Int32) (x10 : Int32) (x11 : Int32) (x12 : Int32) (x15 : Int32) (t0 : Int32) (a230 : Nat → Int32) (a236 : Nat → Int32) (vK : KV) (q230 : Nat) (q236 : Nat) (cs : Nat) (H : Heap) (locs : List Loc) (ls : Array Slot), J_K_passes_269 (L_K_passes_243 n_243) x2 x4 x8 x10 x11 x12 x15 t0 a230 a236 vK = some r → cs + 6 + (n_243 * 9 + 1440) ≤ 4015 → va_P E.1 vwCl (W_K E k vK ++ [(q230, .inl (E.2.1, 12, .inl a230)), (q236, .inl (E.2.1, 10, .inl a236))]) H → va_D A (W_K E k vK ++ [(q230, .inl (E.2.1, 12, .inl a230)), (q236, .inl (E.2.1, 10, .inl a236))]) → va_S A s.heap H locs → lv_has ls 17 [(0, .ref k.1), (2, .long x2), (4, .int x4), (8, .int x8), (10, .int x10), (11, .int x11), (12, .int x12), (13, .ref q230), (14, .ref q236), (15, .int x15)] → W p l e rm_L_passes s m ([.ref k.1, .int p1] : List Value).toArray below meth c H locs cs (6 * cs) (vx_MQ below (QW E (some (.int r.1)) (W_K E k r.2) A) (fun _ _ _ => False) ([.ref k.1, .int p1] : List Value).toArray s 4015 (6 * 4015) A) (F0 m 269 ls [.int t0]) := by
      intro x2 x4 x8 x10 x11 x12 x15 t0 a230 a236 vK q230 q236 cs H locs ls hf hc hP hD hS hl
      unfold J_K_passes_269 at hf
      refine lv_istore (lv' := [(16, .int t0), (0, .ref k.1), (2, .long x2), (4, .int x4), (8, .int x8), (10, .int x10), (11, .int x11), (12, .int x12), (13, .ref q230), (14, .ref q236), (15, .int x15)]) hx hb dL_passes_269 hl (by decide) rfl (fun ls hl => ?_)
      refine lv_aload hx hb dL_passes_271 (lv_at hl 8 rfl) ?_
      refine lv_iload hx hb dL_passes_273 (lv_at hl 10 rfl) ?_
      refine lv_iload hx hb dL_passes_275 (lv_at hl 0 rfl) ?_
      refine lv_if_eq (tgt := 297) hx hb dL_passes_277 (by decide) (fun cq => ?_) (fun cq => ?_)
      · have hf := it cq hf
        refine lv_bipush (v := 99) hx hb dL_passes_297 (by decide) ?_
        refine lv_aload_n hx hb dL_passes_299 rfl (lv_at hl 1 rfl) ?_
        refine lv_bipush (v := 25) hx hb dL_passes_300 (by decide) ?_
        refine lv_iload hx hb dL_passes_302 (lv_at hl 10 rfl) ?_
        obtain ⟨u1, hu1, hf⟩ := bn hf
        refine lk_S (As := [.ref k.1, .int 25, .int x15]) (rest := [.int 99, .int x15, .ref q230]) (wr := [(q230, .inl (E.2.1, 12, .inl a230)), (q236, .inl (E.2.1, 10, .inl a236))]) hx hb hml hown hg (c_K_call__ E l hst k vK 25 x15 u1 hu1) cs_L_call__ ml_L_171 ⟨⟨rfl, rfl⟩, Nat.le_of_ble_eq_true rfl, Nat.le_of_ble_eq_true rfl⟩ hK hE hN hP hD hS hA (W_Ka E k _ _) rfl hl.1 rfl (Nat.le_of_ble_eq_true rfl) dL_passes_304 ⟨by show _ ≤ 4015; omega, by show _ ≤ 6 * 4015; omega⟩ [.int u1.1, .int 99, .int x15, .ref q230] rfl (fun H locs hP hD hS => ?_)
        refine lv_aload_n hx hb dL_passes_307 rfl (lv_at hl 1 rfl) ?_
        obtain ⟨u2, hu2, hf⟩ := bn hf
        refine lk_V (As := []) (rest := [.int u1.1, .int 99, .int x15, .ref q230]) (wr := [(q230, .inl (E.2.1, 12, .inl a230)), (q236, .inl (E.2.1, 10, .inl a236))]) hx hb hml hown hg (k_X8_rain E l k u1.2 u2 hu2) cy_X8_rain ml_L_221 ⟨⟨rfl, rfl⟩, Nat.le_of_ble_eq_true rfl, Nat.le_of_ble_eq_true rfl⟩ hK hE hP hD hS hA (W_Ka E k _ _) rfl rfl rfl hl.1 rfl (Nat.le_of_ble_eq_true rfl) dL_passes_308 ⟨by show _ ≤ 4015; omega, by show _ ≤ 6 * 4015; omega⟩ [.int u2, .int u1.1, .int 99, .int x15, .ref q230] rfl (fun H locs hP hD hS => ?_)
        refine lv_iadd hx hb dL_passes_311 ?_
        refine cm_min hx hb hml hl.1 hown hg ml_L_272 (Nat.le_of_ble_eq_true rfl) (Nat.le_of_ble_eq_true rfl) ⟨by show _ ≤ 4015; omega, by show _ ≤ 6 * 4015; omega⟩ dL_passes_312 ?_
        exact jp_315 _ _ _ _ _ _ _ _ _ _ _ _ _ _ _ _ _ _ _ hf (by omega) hP hD hS (lv_sub hl [1, 2, 3, 4, 5, 6, 7, 8, 9, 10, 0] rfl)
      · have hf := ie cq hf
        refine lv_iconst (v := 0) hx hb dL_passes_280 (by decide) ?_
        refine lv_aload_n hx hb dL_passes_281 rfl (lv_at hl 1 rfl) ?_
        refine lv_bipush (v := 25) hx hb dL_passes_282 (by decide) ?_
        refine lv_iload hx hb dL_passes_284 (lv_at hl 10 rfl) ?_
        obtain ⟨u3, hu3, hf⟩ := bn hf
        refine lk_S (As := [.ref k.1, .int 25, .int x15]) (rest := [.int 0, .int x15, .ref q230]) (wr := [(q230, .inl (E.2.1, 12, .inl a230)), (q236, .inl (E.2.1, 10, .inl a236))]) hx hb hml hown hg (c_K_call__ E l hst k vK 25 x15 u3 hu3) cs_L_call__ ml_L_171 ⟨⟨rfl, rfl⟩, Nat.le_of_ble_eq_true rfl, Nat.le_of_ble_eq_true rfl⟩ hK hE hN hP hD hS hA (W_Ka E k _ _) rfl hl.1 rfl (Nat.le_of_ble_eq_true rfl) dL_passes_286 ⟨by show _ ≤ 4015; omega, by show _ ≤ 6 * 4015; omega⟩ [.int u3.1, .int 0, .int x15, .ref q230] rfl (fun H locs hP hD hS => ?_)
        refine lv_iconst (v := 1) hx hb dL_passes_289 (by decide) ?_
        refine lv_isub hx hb dL_passes_290 ?_
        refine cm_max hx hb hml hl.1 hown hg ml_L_258 (Nat.le_of_ble_eq_true rfl) (Nat.le_of_ble_eq_true rfl) ⟨by show _ ≤ 4015; omega, by show _ ≤ 6 * 4015; omega⟩ dL_passes_291 ?_
        refine lv_goto (tgt := 315) hx hb dL_passes_294 (by decide) ?_
        exact jp_315 _ _ _ _ _ _ _ _ _ _ _ _ _ _ _ _ _ _ _ hf (by omega) hP hD hS (lv_sub hl [1, 2, 3, 4, 5, 6, 7, 8, 9, 10, 0] rfl)
    intro x2 x4 x8 x10 x11 x12 x15 a230 a236 vK q230 q236 cs H locs ls hf hc hP hD hS hl
    replace hf : B_K_passes_243 (L_K_passes_243 n_243) x2 x4 x8 x10 x11 x12 x15 a230 a236 vK = some r := hf
    unfold B_K_passes_243 at hf
    refine lv_iload hx hb dL_passes_243 (lv_at hl 9 rfl) ?_
    refine lv_aload_n hx hb dL_passes_245 rfl (lv_at hl 0 rfl) ?_
    obtain ⟨u1, hu1, hf⟩ := bn hf
    refine lk_V (As := []) (rest := [.int x15]) (wr := [(q230, .inl (E.2.1, 12, .inl a230)), (q236, .inl (E.2.1, 10, .inl a236))]) hx hb hml hown hg (k_X8_umbrellaCount E l k vK u1 hu1) cy_X8_umbrellaCount ml_L_246 ⟨⟨rfl, rfl⟩, Nat.le_of_ble_eq_true rfl, Nat.le_of_ble_eq_true rfl⟩ hK hE hP hD hS hA (W_Ka E k _ _) rfl rfl rfl hl.1 rfl (Nat.le_of_ble_eq_true rfl) dL_passes_246 ⟨by show _ ≤ 4015; omega, by show _ ≤ 6 * 4015; omega⟩ [.int u1, .int x15] rfl (fun H locs hP hD hS => ?_)
    refine lv_icmp_ge (tgt := 341) hx hb dL_passes_249 (by decide) (fun cq => ?_) (fun cq => ?_)
    · have hf := it cq hf
      refine lv_iconst (v := 0) hx hb dL_passes_341 (by decide) ?_
      refine lv_istore (lv' := [(15, .int 0), (0, .ref k.1), (2, .long x2), (4, .int x4), (8, .int x8), (10, .int x10), (11, .int x11), (12, .int x12), (13, .ref q230), (14, .ref q236)]) hx hb dL_passes_342 hl (by decide) rfl (fun ls hl => ?_)
      exact lp_344 11 _ _ _ _ _ _ _ _ _ _ _ _ _ _ _ _ hf (by omega) hP hD hS (lv_sub hl [1, 2, 3, 4, 5, 6, 7, 8, 9, 0] rfl)
    · have hf := ie cq hf
      refine lv_aload_n hx hb dL_passes_252 rfl (lv_at hl 0 rfl) ?_
      refine lv_bipush (v := 26) hx hb dL_passes_253 (by decide) ?_
      refine lv_iload hx hb dL_passes_255 (lv_at hl 9 rfl) ?_
      obtain ⟨u2, hu2, hf⟩ := bn hf
      refine lk_S (As := [.ref k.1, .int 26, .int x15]) (rest := []) (wr := [(q230, .inl (E.2.1, 12, .inl a230)), (q236, .inl (E.2.1, 10, .inl a236))]) hx hb hml hown hg (c_K_call__ E l hst k vK 26 x15 u2 hu2) cs_L_call__ ml_L_171 ⟨⟨rfl, rfl⟩, Nat.le_of_ble_eq_true rfl, Nat.le_of_ble_eq_true rfl⟩ hK hE hN hP hD hS hA (W_Ka E k _ _) rfl hl.1 rfl (Nat.le_of_ble_eq_true rfl) dL_passes_257 ⟨by show _ ≤ 4015; omega, by show _ ≤ 6 * 4015; omega⟩ [.int u2.1] rfl (fun H locs hP hD hS => ?_)
      refine lv_iconst (v := 1) hx hb dL_passes_260 (by decide) ?_
      refine lv_icmp_ne (tgt := 268) hx hb dL_passes_261 (by decide) (fun cq => ?_) (fun cq => ?_)
      · have hf := ie cq hf
        refine lv_iconst (v := 0) hx hb dL_passes_268 (by decide) ?_
        exact jp_269 _ _ _ _ _ _ _ _ _ _ _ _ _ _ _ _ _ hf (by omega) hP hD hS (lv_sub hl [0, 1, 2, 3, 4, 5, 6, 7, 8, 9] rfl)
      · have hf := it cq hf
        refine lv_iconst (v := 1) hx hb dL_passes_264 (by decide) ?_
        refine lv_goto (tgt := 269) hx hb dL_passes_265 (by decide) ?_
        exact jp_269 _ _ _ _ _ _ _ _ _ _ _ _ _ _ _ _ _ hf (by omega) hP hD hS (lv_sub hl [0, 1, 2, 3, 4, 5, 6, 7, 8, 9] rfl)
set_option maxHeartbeats 16000000 in
set_option maxRecDepth 100000 in
theorem q_K_passes_208 {p : Program} {l : Launch} (e : Env) {s : State} {m : MethodId} (below : List Frame) {meth : Method} {c : Code} {A : Nat → Prop} {E : Ev} (hst : l.stackTraces = false) (k : KA) (v0 : KV) (p1 : Int32) (r : Int32 × KV) (hx : p.tables.exec = Jvm.exec) (hb : c.code = cL_passes) (hr : meth.sig.returnType = some .boolean) (hml : c.maxLocals = 17) (hown : s.vm.findClass RL = some m.cls) (hg : ∀ w ∈ GA, w.before ([.ref k.1, .int p1] : List Value).toArray s = true) (hlocks : meth.locks = false) (hK : KX E s) (hE : EX E A s s.heap) (hN : NX s) (hA : ∀ q : Nat, s.heap.size ≤ q → A q) : ∀ (x2 : Int64) (x4 : Int32) (t0 : Int32) (vK : KV) (cs : Nat) (H : Heap) (locs : List Loc) (ls : Array Slot), J_K_passes_208 x2 x4 t0 vK = some r → cs + 1561 ≤ 4015 → va_P E.1 vwCl (W_K E k vK ++ []) H → va_D A (W_K E k vK ++ []) → va_S A s.heap H locs → lv_has ls 17 [(0, .ref k.1), (2, .long x2), (4, .int x4)] → W p l e rm_L_passes s m ([.ref k.1, .int p1] : List Value).toArray below meth c H locs cs (6 * cs) (vx_MQ below (QW E (some (.int r.1)) (W_K E k r.2) A) (fun _ _ _ => False) ([.ref k.1, .int p1] : List Value).toArray s 4015 (6 * 4015) A) (F0 m 208 ls [.int t0]) := by
  have lp_243 := q_K_passes_243 e below hst k v0 p1 r hx hb hr hml hown hg hlocks hK hE hN hA
  intro x2 x4 t0 vK cs H locs ls hf hc hP hD hS hl
  unfold J_K_passes_208 at hf
  refine lv_istore (lv' := [(8, .int t0), (0, .ref k.1), (2, .long x2), (4, .int x4)]) hx hb dL_passes_208 hl (by decide) rfl (fun ls hl => ?_)
  refine lv_aload_n hx hb dL_passes_210 rfl (lv_at hl 1 rfl) ?_
  obtain ⟨u1, hu1, hf⟩ := bn hf
  refine lk_V (As := []) (rest := []) (wr := []) hx hb hml hown hg (k_X8_guestCount E l k vK u1 hu1) cy_X8_guestCount ml_L_243 ⟨⟨rfl, rfl⟩, Nat.le_of_ble_eq_true rfl, Nat.le_of_ble_eq_true rfl⟩ hK hE hP hD hS hA (W_Ka E k _ _) rfl rfl rfl hl.1 rfl (Nat.le_of_ble_eq_true rfl) dL_passes_211 ⟨by show _ ≤ 4015; omega, by show _ ≤ 6 * 4015; omega⟩ [.int u1] rfl (fun H locs hP hD hS => ?_)
  refine lv_istore (lv' := [(10, .int u1), (8, .int t0), (0, .ref k.1), (2, .long x2), (4, .int x4)]) hx hb dL_passes_214 hl (by decide) rfl (fun ls hl => ?_)
  refine lv_aload_n hx hb dL_passes_216 rfl (lv_at hl 2 rfl) ?_
  obtain ⟨u2, hu2, hf⟩ := bn hf
  refine lk_V (As := []) (rest := []) (wr := []) hx hb hml hown hg (k_X8_noise E l k vK u2 hu2) cy_X8_noise ml_L_229 ⟨⟨rfl, rfl⟩, Nat.le_of_ble_eq_true rfl, Nat.le_of_ble_eq_true rfl⟩ hK hE hP hD hS hA (W_Ka E k _ _) rfl rfl rfl hl.1 rfl (Nat.le_of_ble_eq_true rfl) dL_passes_217 ⟨by show _ ≤ 4015; omega, by show _ ≤ 6 * 4015; omega⟩ [.int u2] rfl (fun H locs hP hD hS => ?_)
  refine lv_istore (lv' := [(11, .int u2), (10, .int u1), (8, .int t0), (0, .ref k.1), (2, .long x2), (4, .int x4)]) hx hb dL_passes_220 hl (by decide) rfl (fun ls hl => ?_)
  refine lv_aload_n hx hb dL_passes_222 rfl (lv_at hl 3 rfl) ?_
  obtain ⟨u3, hu3, hf⟩ := bn hf
  refine lk_V (As := []) (rest := []) (wr := []) hx hb hml hown hg (k_X8_puddle E l k vK u3 hu3) cy_X8_puddle ml_L_237 ⟨⟨rfl, rfl⟩, Nat.le_of_ble_eq_true rfl, Nat.le_of_ble_eq_true rfl⟩ hK hE hP hD hS hA (W_Ka E k _ _) rfl rfl rfl hl.1 rfl (Nat.le_of_ble_eq_true rfl) dL_passes_223 ⟨by show _ ≤ 4015; omega, by show _ ≤ 6 * 4015; omega⟩ [.int u3] rfl (fun H locs hP hD hS => ?_)
  refine lv_istore (lv' := [(12, .int u3), (11, .int u2), (10, .int u1), (8, .int t0), (0, .ref k.1), (2, .long x2), (4, .int x4)]) hx hb dL_passes_226 hl (by decide) rfl (fun ls hl => ?_)
  refine lv_bipush (v := 12) hx hb dL_passes_228 (by decide) ?_
  refine la_new (N := 12) (u := 2) hx hb hg hK hP hD hS hA (by decide) (by decide) (Nat.le_of_ble_eq_true rfl) (by decide) ⟨by show _ ≤ 4015; omega, by show _ ≤ 6 * 4015; omega⟩ dL_passes_230 (fun q230 H hP hD hS => ?_)
  have hP : va_P E.1 vwCl (W_K E k vK ++ [(q230, .inl (E.2.1, 12, .inl (fun _ => 0)))]) _ := hP
  have hD : va_D A (W_K E k vK ++ [(q230, .inl (E.2.1, 12, .inl (fun _ => 0)))]) := hD
  refine lv_astore (lv' := [(13, .ref q230), (12, .int u3), (11, .int u2), (10, .int u1), (8, .int t0), (0, .ref k.1), (2, .long x2), (4, .int x4)]) hx hb dL_passes_232 hl (by decide) rfl (fun ls hl => ?_)
  refine lv_bipush (v := 10) hx hb dL_passes_234 (by decide) ?_
  refine la_new (N := 10) (u := 2) hx hb hg hK hP hD hS hA (by decide) (by decide) (Nat.le_of_ble_eq_true rfl) (by decide) ⟨by show _ ≤ 4015; omega, by show _ ≤ 6 * 4015; omega⟩ dL_passes_236 (fun q236 H hP hD hS => ?_)
  have hP : va_P E.1 vwCl (W_K E k vK ++ [(q230, .inl (E.2.1, 12, .inl (fun _ => 0))), (q236, .inl (E.2.1, 10, .inl (fun _ => 0)))]) _ := hP
  have hD : va_D A (W_K E k vK ++ [(q230, .inl (E.2.1, 12, .inl (fun _ => 0))), (q236, .inl (E.2.1, 10, .inl (fun _ => 0)))]) := hD
  refine lv_astore (lv' := [(14, .ref q236), (13, .ref q230), (12, .int u3), (11, .int u2), (10, .int u1), (8, .int t0), (0, .ref k.1), (2, .long x2), (4, .int x4)]) hx hb dL_passes_238 hl (by decide) rfl (fun ls hl => ?_)
  refine lv_iconst (v := 0) hx hb dL_passes_240 (by decide) ?_
  refine lv_istore (lv' := [(15, .int 0), (14, .ref q236), (13, .ref q230), (12, .int u3), (11, .int u2), (10, .int u1), (8, .int t0), (0, .ref k.1), (2, .long x2), (4, .int x4)]) hx hb dL_passes_241 hl (by decide) rfl (fun ls hl => ?_)
  exact lp_243 13 _ _ _ _ _ _ _ _ _ _ _ _ _ _ _ _ hf (by omega) hP hD hS (lv_sub hl [7, 8, 9, 6, 5, 4, 3, 2, 1, 0] rfl)
set_option maxHeartbeats 16000000 in
set_option maxRecDepth 100000 in
theorem q_K_passes_207 {p : Program} {l : Launch} (e : Env) {s : State} {m : MethodId} (below : List Frame) {meth : Method} {c : Code} {A : Nat → Prop} {E : Ev} (hst : l.stackTraces = false) (k : KA) (v0 : KV) (p1 : Int32) (r : Int32 × KV) (hx : p.tables.exec = Jvm.exec) (hb : c.code = cL_passes) (hr : meth.sig.returnType = some .boolean) (hml : c.maxLocals = 17) (hown : s.vm.findClass RL = some m.cls) (hg : ∀ w ∈ GA, w.before ([.ref k.1, .int p1] : List Value).toArray s = true) (hlocks : meth.locks = false) (hK : KX E s) (hE : EX E A s s.heap) (hN : NX s) (hA : ∀ q : Nat, s.heap.size ≤ q → A q) : ∀ (x2 : Int64) (x4 : Int32) (vK : KV) (cs : Nat) (H : Heap) (locs : List Loc) (ls : Array Slot), J_K_passes_207 x2 x4 vK = some r → cs + 1561 ≤ 4015 → va_P E.1 vwCl (W_K E k vK ++ []) H → va_D A (W_K E k vK ++ []) → va_S A s.heap H locs → lv_has ls 17 [(0, .ref k.1), (2, .long x2), (4, .int x4)] → W p l e rm_L_passes s m ([.ref k.1, .int p1] : List Value).toArray below meth c H locs cs (6 * cs) (vx_MQ below (QW E (some (.int r.1)) (W_K E k r.2) A) (fun _ _ _ => False) ([.ref k.1, .int p1] : List Value).toArray s 4015 (6 * 4015) A) (F0 m 207 ls []) := by
  have jp_208 := q_K_passes_208 e below hst k v0 p1 r hx hb hr hml hown hg hlocks hK hE hN hA
  intro x2 x4 vK cs H locs ls hf hc hP hD hS hl
  unfold J_K_passes_207 at hf
  refine lv_iconst (v := 0) hx hb dL_passes_207 (by decide) ?_
  exact jp_208 _ _ _ _ _ _ _ _ hf (by omega) hP hD hS (lv_sub hl [0, 1, 2] rfl)
set_option maxHeartbeats 16000000 in
set_option maxRecDepth 100000 in
theorem q_K_passes_101 {p : Program} {l : Launch} (e : Env) {s : State} {m : MethodId} (below : List Frame) {meth : Method} {c : Code} {A : Nat → Prop} {E : Ev} (hst : l.stackTraces = false) (k : KA) (v0 : KV) (p1 : Int32) (r : Int32 × KV) (hx : p.tables.exec = Jvm.exec) (hb : c.code = cL_passes) (hr : meth.sig.returnType = some .boolean) (hml : c.maxLocals = 17) (hown : s.vm.findClass RL = some m.cls) (hg : ∀ w ∈ GA, w.before ([.ref k.1, .int p1] : List Value).toArray s = true) (hlocks : meth.locks = false) (hK : KX E s) (hE : EX E A s s.heap) (hN : NX s) (hA : ∀ q : Nat, s.heap.size ≤ q → A q) : ∀ (x2 : Int64) (x4 : Int32) (x5 : Int32) (x6 : Int32) (x7 : Int32) (t0 : Int32) (vK : KV) (cs : Nat) (H : Heap) (locs : List Loc) (ls : Array Slot), J_K_passes_101 x2 x4 x5 x6 x7 t0 vK = some r → cs + 2803 ≤ 4015 → va_P E.1 vwCl (W_K E k vK ++ []) H → va_D A (W_K E k vK ++ []) → va_S A s.heap H locs → lv_has ls 17 [(0, .ref k.1), (2, .long x2), (4, .int x4), (5, .int x5), (6, .int x6), (7, .int x7)] → W p l e rm_L_passes s m ([.ref k.1, .int p1] : List Value).toArray below meth c H locs cs (6 * cs) (vx_MQ below (QW E (some (.int r.1)) (W_K E k r.2) A) (fun _ _ _ => False) ([.ref k.1, .int p1] : List Value).toArray s 4015 (6 * 4015) A) (F0 m 101 ls [.int t0]) := by
  have jp_208 := q_K_passes_208 e below hst k v0 p1 r hx hb hr hml hown hg hlocks hK hE hN hA
  have jp_207 := q_K_passes_207 e below hst k v0 p1 r hx hb hr hml hown hg hlocks hK hE hN hA
  intro x2 x4 x5 x6 x7 t0 vK cs H locs ls hf hc hP hD hS hl
  unfold J_K_passes_101 at hf
  refine lv_istore (lv' := [(8, .int t0), (0, .ref k.1), (2, .long x2), (4, .int x4), (5, .int x5), (6, .int x6), (7, .int x7)]) hx hb dL_passes_101 hl (by decide) rfl (fun ls hl => ?_)
  refine lv_aload_n hx hb dL_passes_103 rfl (lv_at hl 1 rfl) ?_
  refine lv_iconst (v := 4) hx hb dL_passes_104 (by decide) ?_
  refine lv_iload hx hb dL_passes_105 (lv_at hl 4 rfl) ?_
  obtain ⟨u1, hu1, hf⟩ := bn hf
  refine lk_S (As := [.ref k.1, .int 4, .int x5]) (rest := []) (wr := []) hx hb hml hown hg (c_K_call__ E l hst k vK 4 x5 u1 hu1) cs_L_call__ ml_L_171 ⟨⟨rfl, rfl⟩, Nat.le_of_ble_eq_true rfl, Nat.le_of_ble_eq_true rfl⟩ hK hE hN hP hD hS hA (W_Ka E k _ _) rfl hl.1 rfl (Nat.le_of_ble_eq_true rfl) dL_passes_107 ⟨by show _ ≤ 4015; omega, by show _ ≤ 6 * 4015; omega⟩ [.int u1.1] rfl (fun H locs hP hD hS => ?_)
  refine lv_istore (lv' := [(9, .int u1.1), (8, .int t0), (0, .ref k.1), (2, .long x2), (4, .int x4), (5, .int x5), (6, .int x6), (7, .int x7)]) hx hb dL_passes_110 hl (by decide) rfl (fun ls hl => ?_)
  refine lv_iload hx hb dL_passes_112 (lv_at hl 4 rfl) ?_
  refine lv_iload hx hb dL_passes_114 (lv_at hl 5 rfl) ?_
  refine lv_iadd hx hb dL_passes_116 ?_
  refine lv_sipush (v := 720) hx hb dL_passes_117 (by decide) ?_
  refine lv_icmp_le (tgt := 150) hx hb dL_passes_120 (by decide) (fun cq => ?_) (fun cq => ?_)
  · have hf := it cq hf
    refine lv_iload hx hb dL_passes_150 (lv_at hl 1 rfl) ?_
    refine lv_if_eq (tgt := 207) hx hb dL_passes_152 (by decide) (fun cq => ?_) (fun cq => ?_)
    · have hf := it cq hf
      exact jp_207 _ _ _ _ _ _ _ hf (by omega) hP hD hS (lv_sub hl [2, 3, 4] rfl)
    · have hf := ie cq hf
      refine lv_iload hx hb dL_passes_155 (lv_at hl 0 rfl) ?_
      refine lv_iload hx hb dL_passes_157 (lv_at hl 6 rfl) ?_
      refine lv_iload hx hb dL_passes_159 (lv_at hl 7 rfl) ?_
      refine lv_isub hx hb dL_passes_161 ?_
      refine lv_icmp_ne (tgt := 207) hx hb dL_passes_162 (by decide) (fun cq => ?_) (fun cq => ?_)
      · have hf := ie cq hf
        exact jp_207 _ _ _ _ _ _ _ hf (by omega) hP hD hS (lv_sub hl [2, 3, 4] rfl)
      · have hf := it cq hf
        refine lv_aload_n hx hb dL_passes_165 rfl (lv_at hl 2 rfl) ?_
        obtain ⟨u2, hu2, hf⟩ := bn hf
        refine lk_V (As := []) (rest := []) (wr := []) hx hb hml hown hg (k_X8_complaints E l k u1.2 u2 hu2) cy_X8_complaints ml_L_234 ⟨⟨rfl, rfl⟩, Nat.le_of_ble_eq_true rfl, Nat.le_of_ble_eq_true rfl⟩ hK hE hP hD hS hA (W_Ka E k _ _) rfl rfl rfl hl.1 rfl (Nat.le_of_ble_eq_true rfl) dL_passes_166 ⟨by show _ ≤ 4015; omega, by show _ ≤ 6 * 4015; omega⟩ [.int u2] rfl (fun H locs hP hD hS => ?_)
        refine lv_iload hx hb dL_passes_169 (lv_at hl 6 rfl) ?_
        refine lv_icmp_ne (tgt := 207) hx hb dL_passes_171 (by decide) (fun cq => ?_) (fun cq => ?_)
        · have hf := ie cq hf
          exact jp_207 _ _ _ _ _ _ _ hf (by omega) hP hD hS (lv_sub hl [2, 3, 4] rfl)
        · have hf := it cq hf
          refine lv_aload_n hx hb dL_passes_174 rfl (lv_at hl 2 rfl) ?_
          obtain ⟨u3, hu3, hf⟩ := bn hf
          refine lk_V (As := []) (rest := []) (wr := []) hx hb hml hown hg (k_X8_minute E l k u1.2 u3 hu3) cy_X8_minute ml_L_218 ⟨⟨rfl, rfl⟩, Nat.le_of_ble_eq_true rfl, Nat.le_of_ble_eq_true rfl⟩ hK hE hP hD hS hA (W_Ka E k _ _) rfl rfl rfl hl.1 rfl (Nat.le_of_ble_eq_true rfl) dL_passes_175 ⟨by show _ ≤ 4015; omega, by show _ ≤ 6 * 4015; omega⟩ [.int u3] rfl (fun H locs hP hD hS => ?_)
          refine lv_iload hx hb dL_passes_178 (lv_at hl 4 rfl) ?_
          refine lv_iload hx hb dL_passes_180 (lv_at hl 5 rfl) ?_
          refine lv_iadd hx hb dL_passes_182 ?_
          refine lv_icmp_ne (tgt := 207) hx hb dL_passes_183 (by decide) (fun cq => ?_) (fun cq => ?_)
          · have hf := ie cq hf
            exact jp_207 _ _ _ _ _ _ _ hf (by omega) hP hD hS (lv_sub hl [2, 3, 4] rfl)
          · have hf := it cq hf
            refine lv_aload_n hx hb dL_passes_186 rfl (lv_at hl 2 rfl) ?_
            obtain ⟨u4, hu4, hf⟩ := bn hf
            refine lk_S (As := [.ref k.1]) (rest := []) (wr := []) hx hb hml hown hg (c_K_register E l hst k u1.2 u4 hu4) cs_L_register ml_L_288 ⟨⟨rfl, rfl⟩, Nat.le_of_ble_eq_true rfl, Nat.le_of_ble_eq_true rfl⟩ hK hE hN hP hD hS hA (W_Ka E k _ _) rfl hl.1 rfl (Nat.le_of_ble_eq_true rfl) dL_passes_187 ⟨by show _ ≤ 4015; omega, by show _ ≤ 6 * 4015; omega⟩ [.int u4.1] rfl (fun H locs hP hD hS => ?_)
            refine lv_if_eq (tgt := 207) hx hb dL_passes_190 (by decide) (fun cq => ?_) (fun cq => ?_)
            · have hf := it cq hf
              exact jp_207 _ _ _ _ _ _ _ hf (by omega) hP hD hS (lv_sub hl [2, 3, 4] rfl)
            · have hf := ie cq hf
              refine lv_aload_n hx hb dL_passes_193 rfl (lv_at hl 2 rfl) ?_
              refine lv_bipush (v := 8) hx hb dL_passes_194 (by decide) ?_
              refine lv_iconst (v := 0) hx hb dL_passes_196 (by decide) ?_
              obtain ⟨u5, hu5, hf⟩ := bn hf
              refine lk_S (As := [.ref k.1, .int 8, .int 0]) (rest := []) (wr := []) hx hb hml hown hg (c_K_call__ E l hst k u4.2 8 0 u5 hu5) cs_L_call__ ml_L_171 ⟨⟨rfl, rfl⟩, Nat.le_of_ble_eq_true rfl, Nat.le_of_ble_eq_true rfl⟩ hK hE hN hP hD hS hA (W_Ka E k _ _) rfl hl.1 rfl (Nat.le_of_ble_eq_true rfl) dL_passes_197 ⟨by show _ ≤ 4015; omega, by show _ ≤ 6 * 4015; omega⟩ [.int u5.1] rfl (fun H locs hP hD hS => ?_)
              refine lv_if_lt (tgt := 207) hx hb dL_passes_200 (by decide) (fun cq => ?_) (fun cq => ?_)
              · have hf := it cq hf
                exact jp_207 _ _ _ _ _ _ _ hf (by omega) hP hD hS (lv_sub hl [2, 3, 4] rfl)
              · have hf := ie cq hf
                refine lv_iconst (v := 1) hx hb dL_passes_203 (by decide) ?_
                refine lv_goto (tgt := 208) hx hb dL_passes_204 (by decide) ?_
                exact jp_208 _ _ _ _ _ _ _ _ hf (by omega) hP hD hS (lv_sub hl [2, 3, 4] rfl)
  · have hf := ie cq hf
    refine lv_iload hx hb dL_passes_123 (lv_at hl 1 rfl) ?_
    refine lv_if_eq (tgt := 148) hx hb dL_passes_125 (by decide) (fun cq => ?_) (fun cq => ?_)
    · have hf := it cq hf
      refine lv_iconst (v := 0) hx hb dL_passes_148 (by decide) ?_
      obtain rfl := Option.some.inj hf
      exact lm_yret (v := 0) hx hb hr rfl hlocks (lk_P1 hP) hS dL_passes_149 (by omega) (by omega)
    · have hf := ie cq hf
      refine lv_iload hx hb dL_passes_128 (lv_at hl 0 rfl) ?_
      refine lv_bipush (v := (-102)) hx hb dL_passes_130 (by decide) ?_
      refine lv_icmp_ne (tgt := 148) hx hb dL_passes_132 (by decide) (fun cq => ?_) (fun cq => ?_)
      · have hf := ie cq hf
        refine lv_iconst (v := 0) hx hb dL_passes_148 (by decide) ?_
        obtain rfl := Option.some.inj hf
        exact lm_yret (v := 0) hx hb hr rfl hlocks (lk_P1 hP) hS dL_passes_149 (by omega) (by omega)
      · have hf := it cq hf
        refine lv_aload_n hx hb dL_passes_135 rfl (lv_at hl 2 rfl) ?_
        obtain ⟨u6, hu6, hf⟩ := bn hf
        refine lk_S (As := [.ref k.1]) (rest := []) (wr := []) hx hb hml hown hg (c_K_state E l hst k u1.2 u6 hu6) cs_L_state ml_L_284 ⟨⟨rfl, rfl⟩, Nat.le_of_ble_eq_true rfl, Nat.le_of_ble_eq_true rfl⟩ hK hE hN hP hD hS hA (W_Ka E k _ _) rfl hl.1 rfl (Nat.le_of_ble_eq_true rfl) dL_passes_136 ⟨by show _ ≤ 4015; omega, by show _ ≤ 6 * 4015; omega⟩ [.long u6.1] rfl (fun H locs hP hD hS => ?_)
        refine lv_lload_n hx hb dL_passes_139 rfl (lv_at hl 3 rfl) ?_
        refine W.lcmp hx hb dL_passes_140 ?_
        refine lv_if_ne (tgt := 148) hx hb dL_passes_141 (by decide) (fun cq => ?_) (fun cq => ?_)
        · have hf := ie cq hf
          refine lv_iconst (v := 0) hx hb dL_passes_148 (by decide) ?_
          obtain rfl := Option.some.inj hf
          exact lm_yret (v := 0) hx hb hr rfl hlocks (lk_P1 hP) hS dL_passes_149 (by omega) (by omega)
        · have hf := it cq hf
          refine lv_iconst (v := 1) hx hb dL_passes_144 (by decide) ?_
          refine lv_goto (tgt := 149) hx hb dL_passes_145 (by decide) ?_
          obtain rfl := Option.some.inj hf
          exact lm_yret (v := 1) hx hb hr rfl hlocks (lk_P1 hP) hS dL_passes_149 (by omega) (by omega)
set_option maxHeartbeats 16000000 in
set_option maxRecDepth 100000 in
theorem q_K_passes_100 {p : Program} {l : Launch} (e : Env) {s : State} {m : MethodId} (below : List Frame) {meth : Method} {c : Code} {A : Nat → Prop} {E : Ev} (hst : l.stackTraces = false) (k : KA) (v0 : KV) (p1 : Int32) (r : Int32 × KV) (hx : p.tables.exec = Jvm.exec) (hb : c.code = cL_passes) (hr : meth.sig.returnType = some .boolean) (hml : c.maxLocals = 17) (hown : s.vm.findClass RL = some m.cls) (hg : ∀ w ∈ GA, w.before ([.ref k.1, .int p1] : List Value).toArray s = true) (hlocks : meth.locks = false) (hK : KX E s) (hE : EX E A s s.heap) (hN : NX s) (hA : ∀ q : Nat, s.heap.size ≤ q → A q) : ∀ (x2 : Int64) (x4 : Int32) (x5 : Int32) (x6 : Int32) (x7 : Int32) (vK : KV) (cs : Nat) (H : Heap) (locs : List Loc) (ls : Array Slot), J_K_passes_100 x2 x4 x5 x6 x7 vK = some r → cs + 2803 ≤ 4015 → va_P E.1 vwCl (W_K E k vK ++ []) H → va_D A (W_K E k vK ++ []) → va_S A s.heap H locs → lv_has ls 17 [(0, .ref k.1), (2, .long x2), (4, .int x4), (5, .int x5), (6, .int x6), (7, .int x7)] → W p l e rm_L_passes s m ([.ref k.1, .int p1] : List Value).toArray below meth c H locs cs (6 * cs) (vx_MQ below (QW E (some (.int r.1)) (W_K E k r.2) A) (fun _ _ _ => False) ([.ref k.1, .int p1] : List Value).toArray s 4015 (6 * 4015) A) (F0 m 100 ls []) := by
  have jp_101 := q_K_passes_101 e below hst k v0 p1 r hx hb hr hml hown hg hlocks hK hE hN hA
  intro x2 x4 x5 x6 x7 vK cs H locs ls hf hc hP hD hS hl
  unfold J_K_passes_100 at hf
  refine lv_iconst (v := 0) hx hb dL_passes_100 (by decide) ?_
  exact jp_101 _ _ _ _ _ _ _ _ _ _ _ hf (by omega) hP hD hS (lv_sub hl [0, 1, 2, 3, 4, 5] rfl)
set_option maxHeartbeats 16000000 in
set_option maxRecDepth 100000 in
theorem c_K_passes (E : Ev) (l : Launch) (hst : l.stackTraces = false) (k : KA) (v0 : KV) (p1 : Int32) (r : Int32 × KV) (hf : F_K_passes v0 p1 = some r) : LM E l yL_passes (.code yL_passes cL_passes 17 (some .boolean) :: GA) rm_L_passes [.ref k.1, .int p1] (W_K E k v0) (some (.int r.1)) (W_K E k r.2) 4015 := by
  refine LM.of0 (own := RL) rfl (by decide) (Nat.le_of_ble_eq_true rfl) ?_
  intro p e s m below meth c A ls hx hb hr hml hown hg hlocks hK hE hN hA hP hD hS hl
  have hl : lv_has ls 17 [(0, .ref k.1), (1, .int p1)] := hl
  have jp_101 := q_K_passes_101 e below hst k v0 p1 r hx hb hr hml hown hg hlocks hK hE hN hA
  have jp_100 := q_K_passes_100 e below hst k v0 p1 r hx hb hr hml hown hg hlocks hK hE hN hA
  unfold F_K_passes at hf
  have hc : 0 ≤ 4015 := Nat.zero_le _
  have hP : va_P E.1 vwCl (W_K E k v0 ++ []) s.heap := by rw [List.append_nil]; exact hP
  have hD : va_D A (W_K E k v0 ++ []) := by rw [List.append_nil]; exact hD
  refine W.eqS (n := 6 * 0) rfl ?_
  refine lv_aload_n hx hb dL_passes_0 rfl (lv_at hl 0 rfl) ?_
  obtain ⟨u1, hu1, hf⟩ := bn hf
  refine lk_S (As := [.ref k.1]) (rest := []) (wr := []) hx hb hml hown hg (c_K_state E l hst k v0 u1 hu1) cs_L_state ml_L_284 ⟨⟨rfl, rfl⟩, Nat.le_of_ble_eq_true rfl, Nat.le_of_ble_eq_true rfl⟩ hK hE hN hP hD hS hA (W_Ka E k _ _) rfl hl.1 rfl (Nat.le_of_ble_eq_true rfl) dL_passes_1 ⟨by show _ ≤ 4015; omega, by show _ ≤ 6 * 4015; omega⟩ [.long u1.1] rfl (fun H locs hP hD hS => ?_)
  refine lv_lstore_n (lv' := [(2, .long u1.1), (0, .ref k.1), (1, .int p1)]) hx hb dL_passes_4 rfl hl (by decide) rfl (fun ls hl => ?_)
  refine lv_aload_n hx hb dL_passes_5 rfl (lv_at hl 1 rfl) ?_
  obtain ⟨u2, hu2, hf⟩ := bn hf
  refine lk_V (As := []) (rest := []) (wr := []) hx hb hml hown hg (k_X8_minute E l k u1.2 u2 hu2) cy_X8_minute ml_L_218 ⟨⟨rfl, rfl⟩, Nat.le_of_ble_eq_true rfl, Nat.le_of_ble_eq_true rfl⟩ hK hE hP hD hS hA (W_Ka E k _ _) rfl rfl rfl hl.1 rfl (Nat.le_of_ble_eq_true rfl) dL_passes_6 ⟨by show _ ≤ 4015; omega, by show _ ≤ 6 * 4015; omega⟩ [.int u2] rfl (fun H locs hP hD hS => ?_)
  refine lv_istore (lv' := [(4, .int u2), (2, .long u1.1), (0, .ref k.1), (1, .int p1)]) hx hb dL_passes_9 hl (by decide) rfl (fun ls hl => ?_)
  refine lv_iconst (v := 1) hx hb dL_passes_11 (by decide) ?_
  refine lv_iload_n hx hb dL_passes_12 rfl (lv_at hl 3 rfl) ?_
  refine lv_sipush (v := 255) hx hb dL_passes_13 (by decide) ?_
  refine lv_iand hx hb dL_passes_16 ?_
  refine lv_bipush (v := 100) hx hb dL_passes_17 (by decide) ?_
  refine lv_irem hx hb dL_passes_19 (by decide) ?_
  refine lv_iadd hx hb dL_passes_20 ?_
  refine lv_istore (lv' := [(5, .int (1 + ((p1 &&& 255) - (p1 &&& 255) / 100 * 100))), (4, .int u2), (2, .long u1.1), (0, .ref k.1), (1, .int p1)]) hx hb dL_passes_21 hl (by decide) rfl (fun ls hl => ?_)
  refine lv_aload_n hx hb dL_passes_23 rfl (lv_at hl 3 rfl) ?_
  refine lv_bipush (v := 41) hx hb dL_passes_24 (by decide) ?_
  refine lv_iload hx hb dL_passes_26 (lv_at hl 0 rfl) ?_
  obtain ⟨u3, hu3, hf⟩ := bn hf
  refine lk_S (As := [.ref k.1, .int 41, .int (1 + ((p1 &&& 255) - (p1 &&& 255) / 100 * 100))]) (rest := []) (wr := []) hx hb hml hown hg (c_K_call__ E l hst k u1.2 41 (1 + ((p1 &&& 255) - (p1 &&& 255) / 100 * 100)) u3 hu3) cs_L_call__ ml_L_171 ⟨⟨rfl, rfl⟩, Nat.le_of_ble_eq_true rfl, Nat.le_of_ble_eq_true rfl⟩ hK hE hN hP hD hS hA (W_Ka E k _ _) rfl hl.1 rfl (Nat.le_of_ble_eq_true rfl) dL_passes_28 ⟨by show _ ≤ 4015; omega, by show _ ≤ 6 * 4015; omega⟩ [.int u3.1] rfl (fun H locs hP hD hS => ?_)
  refine lv_istore (lv' := [(6, .int u3.1), (5, .int (1 + ((p1 &&& 255) - (p1 &&& 255) / 100 * 100))), (4, .int u2), (2, .long u1.1), (0, .ref k.1), (1, .int p1)]) hx hb dL_passes_31 hl (by decide) rfl (fun ls hl => ?_)
  refine lv_aload_n hx hb dL_passes_33 rfl (lv_at hl 4 rfl) ?_
  obtain ⟨u4, hu4, hf⟩ := bn hf
  refine lk_V (As := []) (rest := []) (wr := []) hx hb hml hown hg (k_X8_complaints E l k u3.2 u4 hu4) cy_X8_complaints ml_L_234 ⟨⟨rfl, rfl⟩, Nat.le_of_ble_eq_true rfl, Nat.le_of_ble_eq_true rfl⟩ hK hE hP hD hS hA (W_Ka E k _ _) rfl rfl rfl hl.1 rfl (Nat.le_of_ble_eq_true rfl) dL_passes_34 ⟨by show _ ≤ 4015; omega, by show _ ≤ 6 * 4015; omega⟩ [.int u4] rfl (fun H locs hP hD hS => ?_)
  refine lv_istore (lv' := [(7, .int u4), (6, .int u3.1), (5, .int (1 + ((p1 &&& 255) - (p1 &&& 255) / 100 * 100))), (4, .int u2), (2, .long u1.1), (0, .ref k.1), (1, .int p1)]) hx hb dL_passes_37 hl (by decide) rfl (fun ls hl => ?_)
  refine lv_iload hx hb dL_passes_39 (lv_at hl 1 rfl) ?_
  refine lv_iload hx hb dL_passes_41 (lv_at hl 0 rfl) ?_
  refine lv_icmp_lt (tgt := 100) hx hb dL_passes_43 (by decide) (fun cq => ?_) (fun cq => ?_)
  · have hf := it cq hf
    exact jp_100 _ _ _ _ _ _ _ _ _ _ hf (by omega) hP hD hS (lv_sub hl [5, 4, 3, 2, 1, 0] rfl)
  · have hf := ie cq hf
    refine lv_aload_n hx hb dL_passes_46 rfl (lv_at hl 5 rfl) ?_
    refine lv_bipush (v := 41) hx hb dL_passes_47 (by decide) ?_
    refine lv_iconst (v := 0) hx hb dL_passes_49 (by decide) ?_
    obtain ⟨u5, hu5, hf⟩ := bn hf
    refine lk_S (As := [.ref k.1, .int 41, .int 0]) (rest := []) (wr := []) hx hb hml hown hg (c_K_call__ E l hst k u3.2 41 0 u5 hu5) cs_L_call__ ml_L_171 ⟨⟨rfl, rfl⟩, Nat.le_of_ble_eq_true rfl, Nat.le_of_ble_eq_true rfl⟩ hK hE hN hP hD hS hA (W_Ka E k _ _) rfl hl.1 rfl (Nat.le_of_ble_eq_true rfl) dL_passes_50 ⟨by show _ ≤ 4015; omega, by show _ ≤ 6 * 4015; omega⟩ [.int u5.1] rfl (fun H locs hP hD hS => ?_)
    refine lv_iload hx hb dL_passes_53 (lv_at hl 0 rfl) ?_
    refine lv_icmp_ne (tgt := 100) hx hb dL_passes_55 (by decide) (fun cq => ?_) (fun cq => ?_)
    · have hf := ie cq hf
      exact jp_100 _ _ _ _ _ _ _ _ _ _ hf (by omega) hP hD hS (lv_sub hl [5, 4, 3, 2, 1, 0] rfl)
    · have hf := it cq hf
      refine lv_aload_n hx hb dL_passes_58 rfl (lv_at hl 5 rfl) ?_
      refine lv_bipush (v := 41) hx hb dL_passes_59 (by decide) ?_
      refine lv_sipush (v := 241) hx hb dL_passes_61 (by decide) ?_
      obtain ⟨u6, hu6, hf⟩ := bn hf
      refine lk_S (As := [.ref k.1, .int 41, .int 241]) (rest := []) (wr := []) hx hb hml hown hg (c_K_call__ E l hst k u5.2 41 241 u6 hu6) cs_L_call__ ml_L_171 ⟨⟨rfl, rfl⟩, Nat.le_of_ble_eq_true rfl, Nat.le_of_ble_eq_true rfl⟩ hK hE hN hP hD hS hA (W_Ka E k _ _) rfl hl.1 rfl (Nat.le_of_ble_eq_true rfl) dL_passes_64 ⟨by show _ ≤ 4015; omega, by show _ ≤ 6 * 4015; omega⟩ [.int u6.1] rfl (fun H locs hP hD hS => ?_)
      refine lv_bipush (v := (-103)) hx hb dL_passes_67 (by decide) ?_
      refine lv_icmp_ne (tgt := 100) hx hb dL_passes_69 (by decide) (fun cq => ?_) (fun cq => ?_)
      · have hf := ie cq hf
        exact jp_100 _ _ _ _ _ _ _ _ _ _ hf (by omega) hP hD hS (lv_sub hl [5, 4, 3, 2, 1, 0] rfl)
      · have hf := it cq hf
        refine lv_aload_n hx hb dL_passes_72 rfl (lv_at hl 5 rfl) ?_
        refine lv_iconst (v := 4) hx hb dL_passes_73 (by decide) ?_
        refine lv_iconst (v := 0) hx hb dL_passes_74 (by decide) ?_
        obtain ⟨u7, hu7, hf⟩ := bn hf
        refine lk_S (As := [.ref k.1, .int 4, .int 0]) (rest := []) (wr := []) hx hb hml hown hg (c_K_call__ E l hst k u6.2 4 0 u7 hu7) cs_L_call__ ml_L_171 ⟨⟨rfl, rfl⟩, Nat.le_of_ble_eq_true rfl, Nat.le_of_ble_eq_true rfl⟩ hK hE hN hP hD hS hA (W_Ka E k _ _) rfl hl.1 rfl (Nat.le_of_ble_eq_true rfl) dL_passes_75 ⟨by show _ ≤ 4015; omega, by show _ ≤ 6 * 4015; omega⟩ [.int u7.1] rfl (fun H locs hP hD hS => ?_)
        refine lv_bipush (v := (-103)) hx hb dL_passes_78 (by decide) ?_
        refine lv_icmp_ne (tgt := 100) hx hb dL_passes_80 (by decide) (fun cq => ?_) (fun cq => ?_)
        · have hf := ie cq hf
          exact jp_100 _ _ _ _ _ _ _ _ _ _ hf (by omega) hP hD hS (lv_sub hl [5, 4, 3, 2, 1, 0] rfl)
        · have hf := it cq hf
          refine lv_aload_n hx hb dL_passes_83 rfl (lv_at hl 5 rfl) ?_
          refine lv_iconst (v := 4) hx hb dL_passes_84 (by decide) ?_
          refine lv_sipush (v := 241) hx hb dL_passes_85 (by decide) ?_
          obtain ⟨u8, hu8, hf⟩ := bn hf
          refine lk_S (As := [.ref k.1, .int 4, .int 241]) (rest := []) (wr := []) hx hb hml hown hg (c_K_call__ E l hst k u7.2 4 241 u8 hu8) cs_L_call__ ml_L_171 ⟨⟨rfl, rfl⟩, Nat.le_of_ble_eq_true rfl, Nat.le_of_ble_eq_true rfl⟩ hK hE hN hP hD hS hA (W_Ka E k _ _) rfl hl.1 rfl (Nat.le_of_ble_eq_true rfl) dL_passes_88 ⟨by show _ ≤ 4015; omega, by show _ ≤ 6 * 4015; omega⟩ [.int u8.1] rfl (fun H locs hP hD hS => ?_)
          refine lv_bipush (v := (-103)) hx hb dL_passes_91 (by decide) ?_
          refine lv_icmp_ne (tgt := 100) hx hb dL_passes_93 (by decide) (fun cq => ?_) (fun cq => ?_)
          · have hf := ie cq hf
            exact jp_100 _ _ _ _ _ _ _ _ _ _ hf (by omega) hP hD hS (lv_sub hl [5, 4, 3, 2, 1, 0] rfl)
          · have hf := it cq hf
            refine lv_iconst (v := 1) hx hb dL_passes_96 (by decide) ?_
            refine lv_goto (tgt := 101) hx hb dL_passes_97 (by decide) ?_
            exact jp_101 _ _ _ _ _ _ _ _ _ _ _ hf (by omega) hP hD hS (lv_sub hl [5, 4, 3, 2, 1, 0] rfl)
