/-! the law, from its entry -/
def kvI (r : (Nat → Int32) × (Nat → Int32) × (Nat → Int32) × (Nat → Nat → Int32) × (Nat → Nat → Int32) × (Nat → Nat → Int32) × (Nat → Int32) × (Nat → Nat → Int32) × (Nat → Nat → Int32) × (Nat → Nat → Int32) × (Nat → Int32) × (Nat → Int32) × (Nat → Nat → Int32)) : KV := (r.1, r.2.1, r.2.2.1, r.2.2.2.1, r.2.2.2.2.1, r.2.2.2.2.2.1, r.2.2.2.2.2.2.1, r.2.2.2.2.2.2.2.1, r.2.2.2.2.2.2.2.2.1, r.2.2.2.2.2.2.2.2.2.1, r.2.2.2.2.2.2.2.2.2.2.1, (fun _ => ((fun _ => 0), (fun _ _ => 0), (fun _ _ => 0), (fun _ _ => 0))), r.2.2.2.2.2.2.2.2.2.2.2.1, (fun _ => ((fun _ => 0), (fun _ _ => 0), (fun _ _ => 0), (fun _ _ => 0))), r.2.2.2.2.2.2.2.2.2.2.2.2, (fun _ _ => 0))
theorem lw_swP {D : va_G} {cl : List vw_C} {x y : va_W} {H : Heap} (hP : va_P D cl (x ++ y) H) : va_P D cl (y ++ x) H := bk_P fun z hz => bk_at hP (List.mem_append.mpr (List.mem_append.mp hz).symm)
theorem lw_swD {A : Nat → Prop} {x y : va_W} (hD : va_D A (x ++ y)) : va_D A (y ++ x) := by
  have hn := bk_nodup hD
  refine bk_Dp (((List.perm_append_comm (l₁ := x) (l₂ := y)).map Prod.fst).nodup_iff.mp hn) (fun z hz => List.mem_append.mpr (List.mem_append.mp hz).symm) hD
theorem lw_adr {E : Ev} (k : KA) (v v' : KV) (y : va_W) : (W_K E k v' ++ y).map Prod.fst = (W_K E k v ++ y).map Prod.fst := by
  rw [List.map_append, List.map_append, W_Ka E k v v']
def J_K_law_351 (rec_142 : Int32 → Int32 → (Nat → Int32) → KV → Option (Int32)) (xs : Nat → Int32) (nL : Nat) (x4 : Int32) (a2 : Nat → Int32) (vK : KV) : Option (Int32) := (rec_142 0 (x4 + 2) a2 vK)
def J_K_law_277 (rec_142 : Int32 → Int32 → (Nat → Int32) → KV → Option (Int32)) (xs : Nat → Int32) (nL : Nat) (x3 : Int32) (x4 : Int32) (t0 : Int64) (a2 : Nat → Int32) (vK : KV) : Option (Int32) := (if x3 = 0 then (J_K_law_351 rec_142 xs nL x4 a2 vK) else (F_K_register vK).bind (fun u1 => (if u1.1 = 0 then (J_K_law_351 rec_142 xs nL x4 a2 u1.2) else ck x4 6 (ck (x4 + 1) 6 ((F_K_alibis u1.2 (a2 (Int32.toNatClampNeg x4)) (a2 (Int32.toNatClampNeg (x4 + 1)))).bind (fun u2 => (if u2.1 = 0 then (J_K_law_351 rec_142 xs nL x4 a2 u2.2) else (F_K_state u2.2).bind (fun u3 => (if (lg_cmp u3.1 t0) = 0 then (F_K_goes u3.2).bind (fun u4 => (if u4.1 = 0 then (J_K_law_351 rec_142 xs nL x4 a2 u4.2) else ck (x4 + 1) 6 ((F_K_passes u4.2 (a2 (Int32.toNatClampNeg (x4 + 1)))).bind (fun u5 => (if u5.1 = 0 then (J_K_law_351 rec_142 xs nL x4 a2 u5.2) else (F_K_state u5.2).bind (fun u6 => (if (lg_cmp u6.1 t0) = 0 then (rec_142 1 (x4 + 2) a2 u6.2) else (J_K_law_351 rec_142 xs nL x4 a2 u6.2)))))))) else (J_K_law_351 rec_142 xs nL x4 a2 u3.2))))))))))
def J_K_law_265 (rec_142 : Int32 → Int32 → (Nat → Int32) → KV → Option (Int32)) (xs : Nat → Int32) (nL : Nat) (x3 : Int32) (x4 : Int32) (a2 : Nat → Int32) (vK : KV) : Option (Int32) := (if x3 = 0 then (J_K_law_277 rec_142 xs nL x3 x4 0 a2 vK) else (F_K_state vK).bind (fun u1 => (J_K_law_277 rec_142 xs nL x3 x4 u1.1 a2 u1.2)))
def B_K_law_223 (rec_142 : Int32 → Int32 → (Nat → Int32) → KV → Option (Int32)) (rec_223 : Int32 → Int32 → Int32 → (Nat → Int32) → KV → Option (Int32)) (xs : Nat → Int32) (nL : Nat) (x3 : Int32) (x4 : Int32) (x5 : Int32) (a2 : Nat → Int32) (vK : KV) : Option (Int32) := (if 10 ≤ x5 then (J_K_law_265 rec_142 xs nL x3 x4 a2 vK) else (if x3 = 0 then (J_K_law_265 rec_142 xs nL x3 x4 a2 vK) else ck x4 6 (ck (x4 + 1) 6 ((F_K_does vK ((a2 (Int32.toNatClampNeg x4)) >>> (((3 * x5) &&& 31 : Int32)) : Int32) ((a2 (Int32.toNatClampNeg (x4 + 1))) >>> (((2 * x5) &&& 31 : Int32)) : Int32)).bind (fun u1 => (rec_223 u1.1 x4 (x5 + 1) a2 u1.2))))))
def L_K_law_223 (rec_142 : Int32 → Int32 → (Nat → Int32) → KV → Option (Int32)) (xs : Nat → Int32) (nL : Nat) : Nat → Int32 → Int32 → Int32 → (Nat → Int32) → KV → Option (Int32)
  | 0 => fun _ _ _ _ _ => none
  | n + 1 => fun x3 x4 x5 a2 vK => B_K_law_223 rec_142 (L_K_law_223 rec_142 xs nL n) xs nL x3 x4 x5 a2 vK
def J_K_law_218 (rec_142 : Int32 → Int32 → (Nat → Int32) → KV → Option (Int32)) (xs : Nat → Int32) (nL : Nat) (x4 : Int32) (a2 : Nat → Int32) (vK : KV) : Option (Int32) := (L_K_law_223 rec_142 xs nL 11 0 x4 0 a2 vK)
def B_K_law_142 (rec_142 : Int32 → Int32 → (Nat → Int32) → KV → Option (Int32)) (xs : Nat → Int32) (nL : Nat) (x3 : Int32) (x4 : Int32) (a2 : Nat → Int32) (vK : KV) : Option (Int32) := (if 6 ≤ (x4 + 1) then (some x3) else (if x3 = 0 then (some x3) else (if x4 = 2 then (L_K_law_223 rec_142 xs nL 11 x3 x4 0 a2 vK) else ck x4 6 (ck (x4 + 1) 6 ((F_K_night (a2 (Int32.toNatClampNeg x4)) (a2 (Int32.toNatClampNeg (x4 + 1)))).bind (fun u1 => cn (List.length u1 ≤ 65536) ((F_K_feeds vK (fun j => List.getD u1 j 0) (List.length u1)).bind (fun u2 => (if u2.1 = 0 then (J_K_law_218 rec_142 xs nL x4 a2 u2.2) else (F_K_call__ u2.2 11 0).bind (fun u3 => (F_X8_guestCount (u3.2.1) (u3.2.2.2.1) (u3.2.2.2.2.1)).bind (fun u4 => (if u3.1 = u4 then (F_X8_hasError (u3.2.1)).bind (fun u5 => (if u5 = 0 then (F_K_call__ u3.2 8 0).bind (fun u6 => (if u6.1 = (-102) then (L_K_law_223 rec_142 xs nL 11 1 x4 0 a2 u6.2) else (J_K_law_218 rec_142 xs nL x4 a2 u6.2))) else (J_K_law_218 rec_142 xs nL x4 a2 u3.2))) else (J_K_law_218 rec_142 xs nL x4 a2 u3.2)))))))))))))
def L_K_law_142 (xs : Nat → Int32) (nL : Nat) : Nat → Int32 → Int32 → (Nat → Int32) → KV → Option (Int32)
  | 0 => fun _ _ _ _ => none
  | n + 1 => fun x3 x4 a2 vK => B_K_law_142 (L_K_law_142 xs nL n) xs nL x3 x4 a2 vK
def J_K_law_137 (xs : Nat → Int32) (nL : Nat) (a2 : Nat → Int32) (vK : KV) : Option (Int32) := (L_K_law_142 xs nL 4 0 0 a2 vK)
def J_K_law_35 (xs : Nat → Int32) (nL : Nat) (a2 : Nat → Int32) : Option (Int32) := (F_X8_init).bind (fun u0 => (F_K_call__ (kvI u0) 8 0).bind (fun u1 => (if u1.1 = (-102) then (F_X8_guestCount (u1.2.1) (u1.2.2.2.1) (u1.2.2.2.2.1)).bind (fun u2 => (if u2 = 3 then (F_X8_umbrellaCount (u1.2.1) (u1.2.2.2.1) (u1.2.2.2.2.2.1)).bind (fun u3 => (if u3 = 3 then (F_X8_rain (u1.2.1) (u1.2.2.2.1)).bind (fun u4 => (if u4 = 2 then (F_K_call__ u1.2 39 0).bind (fun u5 => (if u5.1 = 2 then (F_K_call__ u5.2 14 0).bind (fun u6 => (if u6.1 = (-101) then (F_K_call__ u6.2 43 0).bind (fun u7 => (if u7.1 = (-104) then (F_K_call__ u7.2 10 0).bind (fun u8 => (if u8.1 = (-101) then (F_K_register u8.2).bind (fun u9 => (if u9.1 = 0 then (J_K_law_137 xs nL a2 u9.2) else (L_K_law_142 xs nL 4 1 0 a2 u9.2))) else (J_K_law_137 xs nL a2 u8.2))) else (J_K_law_137 xs nL a2 u7.2))) else (J_K_law_137 xs nL a2 u6.2))) else (J_K_law_137 xs nL a2 u5.2))) else (J_K_law_137 xs nL a2 u1.2))) else (J_K_law_137 xs nL a2 u1.2))) else (J_K_law_137 xs nL a2 u1.2))) else (J_K_law_137 xs nL a2 u1.2))))
def B_K_law_7 (rec_7 : Int32 → (Nat → Int32) → Option (Int32)) (xs : Nat → Int32) (nL : Nat) (x2 : Int32) (a2 : Nat → Int32) : Option (Int32) := (if 6 ≤ x2 then (J_K_law_35 xs nL a2) else (if (Int32.ofNat nL) ≤ x2 then (J_K_law_35 xs nL a2) else ck x2 nL (ck x2 6 (lt (upd a2 (Int32.toNatClampNeg x2) ((xs (Int32.toNatClampNeg x2)) &&& 2147483647)) (fun b1 => (rec_7 (x2 + 1) b1))))))
def L_K_law_7 (xs : Nat → Int32) (nL : Nat) : Nat → Int32 → (Nat → Int32) → Option (Int32)
  | 0 => fun _ _ => none
  | n + 1 => fun x2 a2 => B_K_law_7 (L_K_law_7 xs nL n) xs nL x2 a2
def F_K_law (xs : Nat → Int32) (nL : Nat) : Option Int32 := (L_K_law_7 xs nL 7 0 (fun _ => 0))
set_option maxHeartbeats 16000000 in
set_option maxRecDepth 100000 in
theorem q_K_law_142 {p : Program} {l : Launch} (e : Env) {s : State} {m : MethodId} (below : List Frame) {meth : Method} {c : Code} {A : Nat → Prop} {E : Ev} {b nL : Nat} {xs : Nat → Int32} {Q : State → Prop} (hst : l.stackTraces = false) (k : KA) (hx : p.tables.exec = Jvm.exec) (hb : c.code = cL_law) (hr : meth.sig.returnType = some .boolean) (hml : c.maxLocals = 7) (hown : s.vm.findClass RL = some m.cls) (hg : ∀ w ∈ GA, w.before ([.ref b] : List Value).toArray s = true) (hlocks : meth.locks = false) (hK : KX E s) (hE : EX E A s s.heap) (hN : NX s) (hO : va_AO "NightPorter$Night" s) (hA : ∀ q : Nat, s.heap.size ≤ q → A q) (hX : va_X b nL xs s s.heap) (hbl : b < s.heap.size) (hbA : ¬ A b) (hret : ∀ (H : Heap) (locs : List Loc) (ls : Array Slot) (cs : Nat), va_S A s.heap H locs → cs ≤ 654810 → W p l e room_1 s m ([.ref b] : List Value).toArray below meth c H locs cs (6 * cs) Q (F0 m 360 ls [.int 1])) : ∀ (n : Nat) (x3 : Int32) (x4 : Int32) (a2 : Nat → Int32) (vK : KV) (q2 : Nat) (cs : Nat) (H : Heap) (locs : List Loc) (ls : Array Slot), L_K_law_142 xs nL n x3 x4 a2 vK = some 1 → cs + n * 108772 + 1 ≤ 654810 → va_P E.1 vwCl (W_K E k vK ++ [(q2, .inl (E.2.1, 6, .inl a2))]) H → va_D A (W_K E k vK ++ [(q2, .inl (E.2.1, 6, .inl a2))]) → va_S A s.heap H locs → lv_has ls 7 [(1, .ref q2), (2, .ref k.1), (3, .int x3), (4, .int x4)] → W p l e room_1 s m ([.ref b] : List Value).toArray below meth c H locs cs (6 * cs) Q (F0 m 142 ls []) := by
  intro n_142
  induction n_142 with
  | zero => intro x3 x4 a2 vK q2 cs H locs ls hf; cases hf
  | succ n_142 ih_142 =>
    have jp_351 : ∀ (x4 : Int32) (a2 : Nat → Int32) (vK : KV) (q2 : Nat) (cs : Nat) (H : Heap) (locs : List Loc) (ls : Array Slot), J_K_law_351 (L_K_law_142 xs nL n_142) xs nL x4 a2 vK = some 1 → cs + 0 + (n_142 * 108772 + 1) ≤ 654810 → va_P E.1 vwCl (W_K E k vK ++ [(q2, .inl (E.2.1, 6, .inl a2))]) H → va_D A (W_K E k vK ++ [(q2, .inl (E.2.1, 6, .inl a2))]) → va_S A s.heap H locs → lv_has ls 7 [(1, .ref q2), (2, .ref k.1), (4, .int x4)] → W p l e room_1 s m ([.ref b] : List Value).toArray below meth c H locs cs (6 * cs) Q (F0 m 351 ls []) := by
      intro x4 a2 vK q2 cs H locs ls hf hc hP hD hS hl
      unfold J_K_law_351 at hf
      refine lv_iconst (v := 0) hx hb dL_law_351 (by decide) ?_
      refine lv_istore_n (lv' := [(3, .int 0), (1, .ref q2), (2, .ref k.1), (4, .int x4)]) hx hb dL_law_352 rfl hl (by decide) rfl (fun ls hl => ?_)
      refine lv_iinc (v := (x4 + 2)) (lv' := [(4, .int (x4 + 2)), (3, .int 0), (1, .ref q2), (2, .ref k.1)]) hx hb dL_law_353 hl (k := 3) rfl rfl (by decide) rfl (fun ls hl => ?_)
      refine lv_goto (tgt := 142) hx hb dL_law_356 (by decide) ?_
      exact ih_142 _ _ _ _ _ _ _ _ _ hf (by omega) hP hD hS (lv_sub hl [2, 3, 1, 0] rfl)
    have jp_277 : ∀ (x3 : Int32) (x4 : Int32) (t0 : Int64) (a2 : Nat → Int32) (vK : KV) (q2 : Nat) (cs : Nat) (H : Heap) (locs : List Loc) (ls : Array Slot), J_K_law_277 (L_K_law_142 xs nL n_142) xs nL x3 x4 t0 a2 vK = some 1 → cs + 52462 + (n_142 * 108772 + 1) ≤ 654810 → va_P E.1 vwCl (W_K E k vK ++ [(q2, .inl (E.2.1, 6, .inl a2))]) H → va_D A (W_K E k vK ++ [(q2, .inl (E.2.1, 6, .inl a2))]) → va_S A s.heap H locs → lv_has ls 7 [(1, .ref q2), (2, .ref k.1), (3, .int x3), (4, .int x4)] → W p l e room_1 s m ([.ref b] : List Value).toArray below meth c H locs cs (6 * cs) Q (F0 m 277 ls [.long t0]) := by
      intro x3 x4 t0 a2 vK q2 cs H locs ls hf hc hP hD hS hl
      unfold J_K_law_277 at hf
      refine lv_lstore (lv' := [(5, .long t0), (1, .ref q2), (2, .ref k.1), (3, .int x3), (4, .int x4)]) hx hb dL_law_277 hl (by decide) rfl (fun ls hl => ?_)
      refine lv_iload_n hx hb dL_law_279 rfl (lv_at hl 3 rfl) ?_
      refine lv_if_eq (tgt := 351) hx hb dL_law_280 (by decide) (fun cq => ?_) (fun cq => ?_)
      · have hf := it cq hf
        exact jp_351 _ _ _ _ _ _ _ _ hf (by omega) hP hD hS (lv_sub hl [1, 2, 4] rfl)
      · have hf := ie cq hf
        refine lv_aload_n hx hb dL_law_283 rfl (lv_at hl 2 rfl) ?_
        obtain ⟨u1, hu1, hf⟩ := bn hf
        refine lk_S (As := [.ref k.1]) (rest := []) (wr := [(q2, .inl (E.2.1, 6, .inl a2))]) hx hb hml hown hg (c_K_register E l hst k vK u1 hu1) cs_L_register ml_L_288 ⟨⟨rfl, rfl⟩, Nat.le_of_ble_eq_true rfl, Nat.le_of_ble_eq_true rfl⟩ hK hE hN hP hD hS hA (W_Ka E k _ _) rfl hl.1 rfl (Nat.le_of_ble_eq_true rfl) dL_law_284 ⟨by show _ ≤ 654810; omega, by show _ ≤ 7137269; omega⟩ [.int u1.1] rfl (fun H locs hP hD hS => ?_)
        refine lv_if_eq (tgt := 351) hx hb dL_law_287 (by decide) (fun cq => ?_) (fun cq => ?_)
        · have hf := it cq hf
          exact jp_351 _ _ _ _ _ _ _ _ hf (by omega) hP hD hS (lv_sub hl [1, 2, 4] rfl)
        · have hf := ie cq hf
          refine lv_aload_n hx hb dL_law_290 rfl (lv_at hl 2 rfl) ?_
          refine lv_aload_n hx hb dL_law_291 rfl (lv_at hl 1 rfl) ?_
          refine lv_iload hx hb dL_law_292 (lv_at hl 4 rfl) ?_
          obtain ⟨hi, hf⟩ := ck_o hf
          refine la_ld hx hb hK hP 0 rfl hi dL_law_294 ?_
          refine lv_aload_n hx hb dL_law_295 rfl (lv_at hl 1 rfl) ?_
          refine lv_iload hx hb dL_law_296 (lv_at hl 4 rfl) ?_
          refine lv_iconst (v := 1) hx hb dL_law_298 (by decide) ?_
          refine lv_iadd hx hb dL_law_299 ?_
          obtain ⟨hi, hf⟩ := ck_o hf
          refine la_ld hx hb hK hP 0 rfl hi dL_law_300 ?_
          obtain ⟨u2, hu2, hf⟩ := bn hf
          refine lk_S (As := [.ref k.1, .int (a2 (Int32.toNatClampNeg x4)), .int (a2 (Int32.toNatClampNeg (x4 + 1)))]) (rest := []) (wr := [(q2, .inl (E.2.1, 6, .inl a2))]) hx hb hml hown hg (c_K_alibis E l hst k u1.2 (a2 (Int32.toNatClampNeg x4)) (a2 (Int32.toNatClampNeg (x4 + 1))) u2 hu2) cs_L_alibis ml_L_310 ⟨⟨rfl, rfl⟩, Nat.le_of_ble_eq_true rfl, Nat.le_of_ble_eq_true rfl⟩ hK hE hN hP hD hS hA (W_Ka E k _ _) rfl hl.1 rfl (Nat.le_of_ble_eq_true rfl) dL_law_301 ⟨by show _ ≤ 654810; omega, by show _ ≤ 7137269; omega⟩ [.int u2.1] rfl (fun H locs hP hD hS => ?_)
          refine lv_if_eq (tgt := 351) hx hb dL_law_304 (by decide) (fun cq => ?_) (fun cq => ?_)
          · have hf := it cq hf
            exact jp_351 _ _ _ _ _ _ _ _ hf (by omega) hP hD hS (lv_sub hl [1, 2, 4] rfl)
          · have hf := ie cq hf
            refine lv_aload_n hx hb dL_law_307 rfl (lv_at hl 2 rfl) ?_
            obtain ⟨u3, hu3, hf⟩ := bn hf
            refine lk_S (As := [.ref k.1]) (rest := []) (wr := [(q2, .inl (E.2.1, 6, .inl a2))]) hx hb hml hown hg (c_K_state E l hst k u2.2 u3 hu3) cs_L_state ml_L_284 ⟨⟨rfl, rfl⟩, Nat.le_of_ble_eq_true rfl, Nat.le_of_ble_eq_true rfl⟩ hK hE hN hP hD hS hA (W_Ka E k _ _) rfl hl.1 rfl (Nat.le_of_ble_eq_true rfl) dL_law_308 ⟨by show _ ≤ 654810; omega, by show _ ≤ 7137269; omega⟩ [.long u3.1] rfl (fun H locs hP hD hS => ?_)
            refine lv_lload hx hb dL_law_311 (lv_at hl 0 rfl) ?_
            refine W.lcmp hx hb dL_law_313 ?_
            refine lv_if_ne (tgt := 351) hx hb dL_law_314 (by decide) (fun cq => ?_) (fun cq => ?_)
            · have hf := ie cq hf
              exact jp_351 _ _ _ _ _ _ _ _ hf (by omega) hP hD hS (lv_sub hl [1, 2, 4] rfl)
            · have hf := it cq hf
              refine lv_aload_n hx hb dL_law_317 rfl (lv_at hl 2 rfl) ?_
              obtain ⟨u4, hu4, hf⟩ := bn hf
              refine lk_S (As := [.ref k.1]) (rest := []) (wr := [(q2, .inl (E.2.1, 6, .inl a2))]) hx hb hml hown hg (c_K_goes E l hst k u3.2 u4 hu4) cs_L_goes ml_L_313 ⟨⟨rfl, rfl⟩, Nat.le_of_ble_eq_true rfl, Nat.le_of_ble_eq_true rfl⟩ hK hE hN hP hD hS hA (W_Ka E k _ _) rfl hl.1 rfl (Nat.le_of_ble_eq_true rfl) dL_law_318 ⟨by show _ ≤ 654810; omega, by show _ ≤ 7137269; omega⟩ [.int u4.1] rfl (fun H locs hP hD hS => ?_)
              refine lv_if_eq (tgt := 351) hx hb dL_law_321 (by decide) (fun cq => ?_) (fun cq => ?_)
              · have hf := it cq hf
                exact jp_351 _ _ _ _ _ _ _ _ hf (by omega) hP hD hS (lv_sub hl [1, 2, 4] rfl)
              · have hf := ie cq hf
                refine lv_aload_n hx hb dL_law_324 rfl (lv_at hl 2 rfl) ?_
                refine lv_aload_n hx hb dL_law_325 rfl (lv_at hl 1 rfl) ?_
                refine lv_iload hx hb dL_law_326 (lv_at hl 4 rfl) ?_
                refine lv_iconst (v := 1) hx hb dL_law_328 (by decide) ?_
                refine lv_iadd hx hb dL_law_329 ?_
                obtain ⟨hi, hf⟩ := ck_o hf
                refine la_ld hx hb hK hP 0 rfl hi dL_law_330 ?_
                obtain ⟨u5, hu5, hf⟩ := bn hf
                refine lk_S (As := [.ref k.1, .int (a2 (Int32.toNatClampNeg (x4 + 1)))]) (rest := []) (wr := [(q2, .inl (E.2.1, 6, .inl a2))]) hx hb hml hown hg (c_K_passes E l hst k u4.2 (a2 (Int32.toNatClampNeg (x4 + 1))) u5 hu5) cs_L_passes ml_L_316 ⟨⟨rfl, rfl⟩, Nat.le_of_ble_eq_true rfl, Nat.le_of_ble_eq_true rfl⟩ hK hE hN hP hD hS hA (W_Ka E k _ _) rfl hl.1 rfl (Nat.le_of_ble_eq_true rfl) dL_law_331 ⟨by show _ ≤ 654810; omega, by show _ ≤ 7137269; omega⟩ [.int u5.1] rfl (fun H locs hP hD hS => ?_)
                refine lv_if_eq (tgt := 351) hx hb dL_law_334 (by decide) (fun cq => ?_) (fun cq => ?_)
                · have hf := it cq hf
                  exact jp_351 _ _ _ _ _ _ _ _ hf (by omega) hP hD hS (lv_sub hl [1, 2, 4] rfl)
                · have hf := ie cq hf
                  refine lv_aload_n hx hb dL_law_337 rfl (lv_at hl 2 rfl) ?_
                  obtain ⟨u6, hu6, hf⟩ := bn hf
                  refine lk_S (As := [.ref k.1]) (rest := []) (wr := [(q2, .inl (E.2.1, 6, .inl a2))]) hx hb hml hown hg (c_K_state E l hst k u5.2 u6 hu6) cs_L_state ml_L_284 ⟨⟨rfl, rfl⟩, Nat.le_of_ble_eq_true rfl, Nat.le_of_ble_eq_true rfl⟩ hK hE hN hP hD hS hA (W_Ka E k _ _) rfl hl.1 rfl (Nat.le_of_ble_eq_true rfl) dL_law_338 ⟨by show _ ≤ 654810; omega, by show _ ≤ 7137269; omega⟩ [.long u6.1] rfl (fun H locs hP hD hS => ?_)
                  refine lv_lload hx hb dL_law_341 (lv_at hl 0 rfl) ?_
                  refine W.lcmp hx hb dL_law_343 ?_
                  refine lv_if_ne (tgt := 351) hx hb dL_law_344 (by decide) (fun cq => ?_) (fun cq => ?_)
                  · have hf := ie cq hf
                    exact jp_351 _ _ _ _ _ _ _ _ hf (by omega) hP hD hS (lv_sub hl [1, 2, 4] rfl)
                  · have hf := it cq hf
                    refine lv_iconst (v := 1) hx hb dL_law_347 (by decide) ?_
                    refine lv_goto (tgt := 352) hx hb dL_law_348 (by decide) ?_
                    refine lv_istore_n (lv' := [(3, .int 1), (5, .long t0), (1, .ref q2), (2, .ref k.1), (4, .int x4)]) hx hb dL_law_352 rfl hl (by decide) rfl (fun ls hl => ?_)
                    refine lv_iinc (v := (x4 + 2)) (lv' := [(4, .int (x4 + 2)), (3, .int 1), (5, .long t0), (1, .ref q2), (2, .ref k.1)]) hx hb dL_law_353 hl (k := 4) rfl rfl (by decide) rfl (fun ls hl => ?_)
                    refine lv_goto (tgt := 142) hx hb dL_law_356 (by decide) ?_
                    exact ih_142 _ _ _ _ _ _ _ _ _ hf (by omega) hP hD hS (lv_sub hl [3, 4, 1, 0] rfl)
    have jp_265 : ∀ (x3 : Int32) (x4 : Int32) (a2 : Nat → Int32) (vK : KV) (q2 : Nat) (cs : Nat) (H : Heap) (locs : List Loc) (ls : Array Slot), J_K_law_265 (L_K_law_142 xs nL n_142) xs nL x3 x4 a2 vK = some 1 → cs + 53659 + (n_142 * 108772 + 1) ≤ 654810 → va_P E.1 vwCl (W_K E k vK ++ [(q2, .inl (E.2.1, 6, .inl a2))]) H → va_D A (W_K E k vK ++ [(q2, .inl (E.2.1, 6, .inl a2))]) → va_S A s.heap H locs → lv_has ls 7 [(1, .ref q2), (2, .ref k.1), (3, .int x3), (4, .int x4)] → W p l e room_1 s m ([.ref b] : List Value).toArray below meth c H locs cs (6 * cs) Q (F0 m 265 ls []) := by
      intro x3 x4 a2 vK q2 cs H locs ls hf hc hP hD hS hl
      unfold J_K_law_265 at hf
      refine lv_iload_n hx hb dL_law_265 rfl (lv_at hl 2 rfl) ?_
      refine lv_if_eq (tgt := 276) hx hb dL_law_266 (by decide) (fun cq => ?_) (fun cq => ?_)
      · have hf := it cq hf
        refine lv_lconst (v := 0) hx hb dL_law_276 rfl ?_
        exact jp_277 _ _ _ _ _ _ _ _ _ _ hf (by omega) hP hD hS (lv_sub hl [0, 1, 2, 3] rfl)
      · have hf := ie cq hf
        refine lv_aload_n hx hb dL_law_269 rfl (lv_at hl 1 rfl) ?_
        obtain ⟨u1, hu1, hf⟩ := bn hf
        refine lk_S (As := [.ref k.1]) (rest := []) (wr := [(q2, .inl (E.2.1, 6, .inl a2))]) hx hb hml hown hg (c_K_state E l hst k vK u1 hu1) cs_L_state ml_L_284 ⟨⟨rfl, rfl⟩, Nat.le_of_ble_eq_true rfl, Nat.le_of_ble_eq_true rfl⟩ hK hE hN hP hD hS hA (W_Ka E k _ _) rfl hl.1 rfl (Nat.le_of_ble_eq_true rfl) dL_law_270 ⟨by show _ ≤ 654810; omega, by show _ ≤ 7137269; omega⟩ [.long u1.1] rfl (fun H locs hP hD hS => ?_)
        refine lv_goto (tgt := 277) hx hb dL_law_273 (by decide) ?_
        exact jp_277 _ _ _ _ _ _ _ _ _ _ hf (by omega) hP hD hS (lv_sub hl [0, 1, 2, 3] rfl)
    have lp_223 : ∀ (n : Nat) (x3 : Int32) (x4 : Int32) (x5 : Int32) (a2 : Nat → Int32) (vK : KV) (q2 : Nat) (cs : Nat) (H : Heap) (locs : List Loc) (ls : Array Slot), L_K_law_223 (L_K_law_142 xs nL n_142) xs nL n x3 x4 x5 a2 vK = some 1 → cs + n * 2397 + 53660 + (n_142 * 108772 + 1) ≤ 654810 → va_P E.1 vwCl (W_K E k vK ++ [(q2, .inl (E.2.1, 6, .inl a2))]) H → va_D A (W_K E k vK ++ [(q2, .inl (E.2.1, 6, .inl a2))]) → va_S A s.heap H locs → lv_has ls 7 [(1, .ref q2), (2, .ref k.1), (3, .int x3), (4, .int x4), (5, .int x5)] → W p l e room_1 s m ([.ref b] : List Value).toArray below meth c H locs cs (6 * cs) Q (F0 m 223 ls []) := by
      intro n_223
      induction n_223 with
      | zero => intro x3 x4 x5 a2 vK q2 cs H locs ls hf; cases hf
      | succ n_223 ih_223 =>
        intro x3 x4 x5 a2 vK q2 cs H locs ls hf hc hP hD hS hl
        replace hf : B_K_law_223 (L_K_law_142 xs nL n_142) (L_K_law_223 (L_K_law_142 xs nL n_142) xs nL n_223) xs nL x3 x4 x5 a2 vK = some 1 := hf
        unfold B_K_law_223 at hf
        refine lv_iload hx hb dL_law_223 (lv_at hl 4 rfl) ?_
        refine lv_bipush (v := 10) hx hb dL_law_225 (by decide) ?_
        refine lv_icmp_ge (tgt := 265) hx hb dL_law_227 (by decide) (fun cq => ?_) (fun cq => ?_)
        · have hf := it cq hf
          exact jp_265 _ _ _ _ _ _ _ _ _ hf (by omega) hP hD hS (lv_sub hl [0, 1, 2, 3] rfl)
        · have hf := ie cq hf
          refine lv_iload_n hx hb dL_law_230 rfl (lv_at hl 2 rfl) ?_
          refine lv_if_eq (tgt := 265) hx hb dL_law_231 (by decide) (fun cq => ?_) (fun cq => ?_)
          · have hf := it cq hf
            exact jp_265 _ _ _ _ _ _ _ _ _ hf (by omega) hP hD hS (lv_sub hl [0, 1, 2, 3] rfl)
          · have hf := ie cq hf
            refine lv_aload_n hx hb dL_law_234 rfl (lv_at hl 1 rfl) ?_
            refine lv_aload_n hx hb dL_law_235 rfl (lv_at hl 0 rfl) ?_
            refine lv_iload hx hb dL_law_236 (lv_at hl 3 rfl) ?_
            obtain ⟨hi, hf⟩ := ck_o hf
            refine la_ld hx hb hK hP 0 rfl hi dL_law_238 ?_
            refine lv_iconst (v := 3) hx hb dL_law_239 (by decide) ?_
            refine lv_iload hx hb dL_law_240 (lv_at hl 4 rfl) ?_
            refine lv_imul hx hb dL_law_242 ?_
            refine lv_ishr hx hb dL_law_243 ?_
            refine lv_aload_n hx hb dL_law_244 rfl (lv_at hl 0 rfl) ?_
            refine lv_iload hx hb dL_law_245 (lv_at hl 3 rfl) ?_
            refine lv_iconst (v := 1) hx hb dL_law_247 (by decide) ?_
            refine lv_iadd hx hb dL_law_248 ?_
            obtain ⟨hi, hf⟩ := ck_o hf
            refine la_ld hx hb hK hP 0 rfl hi dL_law_249 ?_
            refine lv_iconst (v := 2) hx hb dL_law_250 (by decide) ?_
            refine lv_iload hx hb dL_law_251 (lv_at hl 4 rfl) ?_
            refine lv_imul hx hb dL_law_253 ?_
            refine lv_ishr hx hb dL_law_254 ?_
            obtain ⟨u1, hu1, hf⟩ := bn hf
            refine lk_S (As := [.ref k.1, .int ((a2 (Int32.toNatClampNeg x4)) >>> (((3 * x5) &&& 31 : Int32)) : Int32), .int ((a2 (Int32.toNatClampNeg (x4 + 1))) >>> (((2 * x5) &&& 31 : Int32)) : Int32)]) (rest := []) (wr := [(q2, .inl (E.2.1, 6, .inl a2))]) hx hb hml hown hg (c_K_does E l hst k vK ((a2 (Int32.toNatClampNeg x4)) >>> (((3 * x5) &&& 31 : Int32)) : Int32) ((a2 (Int32.toNatClampNeg (x4 + 1))) >>> (((2 * x5) &&& 31 : Int32)) : Int32) u1 hu1) cs_L_does ml_L_306 ⟨⟨rfl, rfl⟩, Nat.le_of_ble_eq_true rfl, Nat.le_of_ble_eq_true rfl⟩ hK hE hN hP hD hS hA (W_Ka E k _ _) rfl hl.1 rfl (Nat.le_of_ble_eq_true rfl) dL_law_255 ⟨by show _ ≤ 654810; omega, by show _ ≤ 7137269; omega⟩ [.int u1.1] rfl (fun H locs hP hD hS => ?_)
            refine lv_istore_n (lv' := [(3, .int u1.1), (1, .ref q2), (2, .ref k.1), (4, .int x4), (5, .int x5)]) hx hb dL_law_258 rfl hl (by decide) rfl (fun ls hl => ?_)
            refine lv_iinc (v := (x5 + 1)) (lv' := [(5, .int (x5 + 1)), (3, .int u1.1), (1, .ref q2), (2, .ref k.1), (4, .int x4)]) hx hb dL_law_259 hl (k := 4) rfl rfl (by decide) rfl (fun ls hl => ?_)
            refine lv_goto (tgt := 223) hx hb dL_law_262 (by decide) ?_
            exact ih_223 _ _ _ _ _ _ _ _ _ _ hf (by omega) hP hD hS (lv_sub hl [2, 3, 1, 4, 0] rfl)
    have jp_218 : ∀ (x4 : Int32) (a2 : Nat → Int32) (vK : KV) (q2 : Nat) (cs : Nat) (H : Heap) (locs : List Loc) (ls : Array Slot), J_K_law_218 (L_K_law_142 xs nL n_142) xs nL x4 a2 vK = some 1 → cs + 80027 + (n_142 * 108772 + 1) ≤ 654810 → va_P E.1 vwCl (W_K E k vK ++ [(q2, .inl (E.2.1, 6, .inl a2))]) H → va_D A (W_K E k vK ++ [(q2, .inl (E.2.1, 6, .inl a2))]) → va_S A s.heap H locs → lv_has ls 7 [(1, .ref q2), (2, .ref k.1), (4, .int x4)] → W p l e room_1 s m ([.ref b] : List Value).toArray below meth c H locs cs (6 * cs) Q (F0 m 218 ls []) := by
      intro x4 a2 vK q2 cs H locs ls hf hc hP hD hS hl
      unfold J_K_law_218 at hf
      refine lv_iconst (v := 0) hx hb dL_law_218 (by decide) ?_
      refine lv_istore_n (lv' := [(3, .int 0), (1, .ref q2), (2, .ref k.1), (4, .int x4)]) hx hb dL_law_219 rfl hl (by decide) rfl (fun ls hl => ?_)
      refine lv_iconst (v := 0) hx hb dL_law_220 (by decide) ?_
      refine lv_istore (lv' := [(5, .int 0), (3, .int 0), (1, .ref q2), (2, .ref k.1), (4, .int x4)]) hx hb dL_law_221 hl (by decide) rfl (fun ls hl => ?_)
      exact lp_223 11 _ _ _ _ _ _ _ _ _ _ hf (by omega) hP hD hS (lv_sub hl [2, 3, 1, 4, 0] rfl)
    intro x3 x4 a2 vK q2 cs H locs ls hf hc hP hD hS hl
    replace hf : B_K_law_142 (L_K_law_142 xs nL n_142) xs nL x3 x4 a2 vK = some 1 := hf
    unfold B_K_law_142 at hf
    refine lv_iload hx hb dL_law_142 (lv_at hl 3 rfl) ?_
    refine lv_iconst (v := 1) hx hb dL_law_144 (by decide) ?_
    refine lv_iadd hx hb dL_law_145 ?_
    refine lv_bipush (v := 6) hx hb dL_law_146 (by decide) ?_
    refine lv_icmp_ge (tgt := 359) hx hb dL_law_148 (by decide) (fun cq => ?_) (fun cq => ?_)
    · have hf := it cq hf
      refine lv_iload_n hx hb dL_law_359 rfl (lv_at hl 2 rfl) ?_
      have hr1 := Option.some.inj hf
      refine W.stk1 hr1 ?_
      exact hret _ _ _ _ hS (by omega)
    · have hf := ie cq hf
      refine lv_iload_n hx hb dL_law_151 rfl (lv_at hl 2 rfl) ?_
      refine lv_if_eq (tgt := 359) hx hb dL_law_152 (by decide) (fun cq => ?_) (fun cq => ?_)
      · have hf := it cq hf
        refine lv_iload_n hx hb dL_law_359 rfl (lv_at hl 2 rfl) ?_
        have hr1 := Option.some.inj hf
        refine W.stk1 hr1 ?_
        exact hret _ _ _ _ hS (by omega)
      · have hf := ie cq hf
        refine lv_iload hx hb dL_law_155 (lv_at hl 3 rfl) ?_
        refine lv_iconst (v := 2) hx hb dL_law_157 (by decide) ?_
        refine lv_icmp_eq (tgt := 220) hx hb dL_law_158 (by decide) (fun cq => ?_) (fun cq => ?_)
        · have hf := it cq hf
          refine lv_iconst (v := 0) hx hb dL_law_220 (by decide) ?_
          refine lv_istore (lv' := [(5, .int 0), (1, .ref q2), (2, .ref k.1), (3, .int x3), (4, .int x4)]) hx hb dL_law_221 hl (by decide) rfl (fun ls hl => ?_)
          exact lp_223 11 _ _ _ _ _ _ _ _ _ _ hf (by omega) hP hD hS (lv_sub hl [1, 2, 3, 4, 0] rfl)
        · have hf := ie cq hf
          refine lv_aload_n hx hb dL_law_161 rfl (lv_at hl 1 rfl) ?_
          refine lv_aload_n hx hb dL_law_162 rfl (lv_at hl 0 rfl) ?_
          refine lv_iload hx hb dL_law_163 (lv_at hl 3 rfl) ?_
          obtain ⟨hi, hf⟩ := ck_o hf
          refine la_ld hx hb hK hP 0 rfl hi dL_law_165 ?_
          refine lv_aload_n hx hb dL_law_166 rfl (lv_at hl 0 rfl) ?_
          refine lv_iload hx hb dL_law_167 (lv_at hl 3 rfl) ?_
          refine lv_iconst (v := 1) hx hb dL_law_169 (by decide) ?_
          refine lv_iadd hx hb dL_law_170 ?_
          obtain ⟨hi, hf⟩ := ck_o hf
          refine la_ld hx hb hK hP 0 rfl hi dL_law_171 ?_
          obtain ⟨u1, hu1, hf⟩ := bn hf
          have hP : va_P E.1 vwCl ((W_K E k vK ++ [(q2, .inl (E.2.1, 6, .inl a2))]) ++ []) H := by rw [List.append_nil]; exact hP
          have hD : va_D A ((W_K E k vK ++ [(q2, .inl (E.2.1, 6, .inl a2))]) ++ []) := by rw [List.append_nil]; exact hD
          refine pm_S (As := [.int (a2 (Int32.toNatClampNeg x4)), .int (a2 (Int32.toNatClampNeg (x4 + 1)))]) (rest := [.ref k.1]) (wr := W_K E k vK ++ [(q2, .inl (E.2.1, 6, .inl a2))]) (bs := []) hx hb hml hown hg (c_K_night E l (a2 (Int32.toNatClampNeg x4)) (a2 (Int32.toNatClampNeg (x4 + 1))) u1 hu1) cs_L_night ml_L_294 ⟨⟨rfl, rfl⟩, Nat.le_of_ble_eq_true rfl, Nat.le_of_ble_eq_true rfl⟩ hK hE hN.2 hP hD hS hA rfl hl.1 rfl (Nat.le_of_ble_eq_true rfl) dL_law_172 ⟨by show _ ≤ 654810; omega, by show _ ≤ 7137269; omega⟩ (fun v9 bs9 H locs hp hP hD hS => ?_)
          obtain ⟨aS, bS, fS, rfl, hLt, hFt, rfl⟩ := hp
          refine W.widen (k := (cs + 28672)) (n := 6 * (cs + 28672)) (by omega) (by omega) ?_
          rw [List.append_assoc] at hP hD
          obtain ⟨hnS, hf⟩ := cn_o hf
          obtain ⟨u2, hu2, hf⟩ := bn hf
          have hP := lk_P (y' := [(aS, .inr (9, [.ref bS, .int 0, .int 0, .int 0])), (bS, .inl (E.2.2.2.1, List.length u1, .inl fS))] ++ [(q2, .inl (E.2.1, 6, .inl a2))]) [1, 2, 0] rfl hP
          have hD := lk_D (y' := [(aS, .inr (9, [.ref bS, .int 0, .int 0, .int 0])), (bS, .inl (E.2.2.2.1, List.length u1, .inl fS))] ++ [(q2, .inl (E.2.1, 6, .inl a2))]) [1, 2, 0] rfl rfl hD
          rw [← List.append_assoc] at hP hD
          refine lk_S (As := [.ref k.1, .ref aS]) (rest := []) (wr := [(q2, .inl (E.2.1, 6, .inl a2))]) hx hb hml hown hg (c_K_feeds E l hst k vK aS bS fS (fun j => List.getD u1 j 0) (List.length u1) hLt hnS u2 hu2) cs_L_feeds ml_L_298 ⟨⟨rfl, rfl⟩, Nat.le_of_ble_eq_true rfl, Nat.le_of_ble_eq_true rfl⟩ hK hE hN hP hD hS hA (lw_adr k _ _ _) rfl hl.1 rfl (Nat.le_of_ble_eq_true rfl) dL_law_175 ⟨by show _ ≤ 654810; omega, by show _ ≤ 7137269; omega⟩ [.int u2.1] rfl (fun H locs hP hD hS => ?_)
          rw [List.append_assoc] at hP hD
          have hP : va_P E.1 vwCl (W_K E k u2.2 ++ [(q2, .inl (E.2.1, 6, .inl a2))]) _ := lk_P [2] rfl hP
          have hD : va_D A (W_K E k u2.2 ++ [(q2, .inl (E.2.1, 6, .inl a2))]) := lk_D [2] rfl rfl hD
          refine lv_if_eq (tgt := 218) hx hb dL_law_178 (by decide) (fun cq => ?_) (fun cq => ?_)
          · have hf := it cq hf
            exact jp_218 _ _ _ _ _ _ _ _ hf (by omega) hP hD hS (lv_sub hl [0, 1, 3] rfl)
          · have hf := ie cq hf
            refine lv_aload_n hx hb dL_law_181 rfl (lv_at hl 1 rfl) ?_
            refine lv_bipush (v := 11) hx hb dL_law_182 (by decide) ?_
            refine lv_iconst (v := 0) hx hb dL_law_184 (by decide) ?_
            obtain ⟨u3, hu3, hf⟩ := bn hf
            refine lk_S (As := [.ref k.1, .int 11, .int 0]) (rest := []) (wr := [(q2, .inl (E.2.1, 6, .inl a2))]) hx hb hml hown hg (c_K_call__ E l hst k u2.2 11 0 u3 hu3) cs_L_call__ ml_L_171 ⟨⟨rfl, rfl⟩, Nat.le_of_ble_eq_true rfl, Nat.le_of_ble_eq_true rfl⟩ hK hE hN hP hD hS hA (W_Ka E k _ _) rfl hl.1 rfl (Nat.le_of_ble_eq_true rfl) dL_law_185 ⟨by show _ ≤ 654810; omega, by show _ ≤ 7137269; omega⟩ [.int u3.1] rfl (fun H locs hP hD hS => ?_)
            refine lv_aload_n hx hb dL_law_188 rfl (lv_at hl 1 rfl) ?_
            obtain ⟨u4, hu4, hf⟩ := bn hf
            refine lk_V (As := []) (rest := [.int u3.1]) (wr := [(q2, .inl (E.2.1, 6, .inl a2))]) hx hb hml hown hg (k_X8_guestCount E l k u3.2 u4 hu4) cy_X8_guestCount ml_L_243 ⟨⟨rfl, rfl⟩, Nat.le_of_ble_eq_true rfl, Nat.le_of_ble_eq_true rfl⟩ hK hE hP hD hS hA (W_Ka E k _ _) rfl rfl rfl hl.1 rfl (Nat.le_of_ble_eq_true rfl) dL_law_189 ⟨by show _ ≤ 654810; omega, by show _ ≤ 7137269; omega⟩ [.int u4, .int u3.1] rfl (fun H locs hP hD hS => ?_)
            refine lv_icmp_ne (tgt := 218) hx hb dL_law_192 (by decide) (fun cq => ?_) (fun cq => ?_)
            · have hf := ie cq hf
              exact jp_218 _ _ _ _ _ _ _ _ hf (by omega) hP hD hS (lv_sub hl [0, 1, 3] rfl)
            · have hf := it cq hf
              refine lv_aload_n hx hb dL_law_195 rfl (lv_at hl 1 rfl) ?_
              obtain ⟨u5, hu5, hf⟩ := bn hf
              refine lk_V (As := []) (rest := []) (wr := [(q2, .inl (E.2.1, 6, .inl a2))]) hx hb hml hown hg (k_X8_hasError E l k u3.2 u5 hu5) cy_X8_hasError ml_L_302 ⟨⟨rfl, rfl⟩, Nat.le_of_ble_eq_true rfl, Nat.le_of_ble_eq_true rfl⟩ hK hE hP hD hS hA (W_Ka E k _ _) rfl rfl rfl hl.1 rfl (Nat.le_of_ble_eq_true rfl) dL_law_196 ⟨by show _ ≤ 654810; omega, by show _ ≤ 7137269; omega⟩ [.int u5] rfl (fun H locs hP hD hS => ?_)
              refine lv_if_ne (tgt := 218) hx hb dL_law_199 (by decide) (fun cq => ?_) (fun cq => ?_)
              · have hf := ie cq hf
                exact jp_218 _ _ _ _ _ _ _ _ hf (by omega) hP hD hS (lv_sub hl [0, 1, 3] rfl)
              · have hf := it cq hf
                refine lv_aload_n hx hb dL_law_202 rfl (lv_at hl 1 rfl) ?_
                refine lv_bipush (v := 8) hx hb dL_law_203 (by decide) ?_
                refine lv_iconst (v := 0) hx hb dL_law_205 (by decide) ?_
                obtain ⟨u6, hu6, hf⟩ := bn hf
                refine lk_S (As := [.ref k.1, .int 8, .int 0]) (rest := []) (wr := [(q2, .inl (E.2.1, 6, .inl a2))]) hx hb hml hown hg (c_K_call__ E l hst k u3.2 8 0 u6 hu6) cs_L_call__ ml_L_171 ⟨⟨rfl, rfl⟩, Nat.le_of_ble_eq_true rfl, Nat.le_of_ble_eq_true rfl⟩ hK hE hN hP hD hS hA (W_Ka E k _ _) rfl hl.1 rfl (Nat.le_of_ble_eq_true rfl) dL_law_206 ⟨by show _ ≤ 654810; omega, by show _ ≤ 7137269; omega⟩ [.int u6.1] rfl (fun H locs hP hD hS => ?_)
                refine lv_bipush (v := (-102)) hx hb dL_law_209 (by decide) ?_
                refine lv_icmp_ne (tgt := 218) hx hb dL_law_211 (by decide) (fun cq => ?_) (fun cq => ?_)
                · have hf := ie cq hf
                  exact jp_218 _ _ _ _ _ _ _ _ hf (by omega) hP hD hS (lv_sub hl [0, 1, 3] rfl)
                · have hf := it cq hf
                  refine lv_iconst (v := 1) hx hb dL_law_214 (by decide) ?_
                  refine lv_goto (tgt := 219) hx hb dL_law_215 (by decide) ?_
                  refine lv_istore_n (lv' := [(3, .int 1), (1, .ref q2), (2, .ref k.1), (4, .int x4)]) hx hb dL_law_219 rfl hl (by decide) rfl (fun ls hl => ?_)
                  refine lv_iconst (v := 0) hx hb dL_law_220 (by decide) ?_
                  refine lv_istore (lv' := [(5, .int 0), (3, .int 1), (1, .ref q2), (2, .ref k.1), (4, .int x4)]) hx hb dL_law_221 hl (by decide) rfl (fun ls hl => ?_)
                  exact lp_223 11 _ _ _ _ _ _ _ _ _ _ hf (by omega) hP hD hS (lv_sub hl [2, 3, 1, 4, 0] rfl)
set_option maxHeartbeats 16000000 in
set_option maxRecDepth 100000 in
theorem q_K_law_137 {p : Program} {l : Launch} (e : Env) {s : State} {m : MethodId} (below : List Frame) {meth : Method} {c : Code} {A : Nat → Prop} {E : Ev} {b nL : Nat} {xs : Nat → Int32} {Q : State → Prop} (hst : l.stackTraces = false) (k : KA) (hx : p.tables.exec = Jvm.exec) (hb : c.code = cL_law) (hr : meth.sig.returnType = some .boolean) (hml : c.maxLocals = 7) (hown : s.vm.findClass RL = some m.cls) (hg : ∀ w ∈ GA, w.before ([.ref b] : List Value).toArray s = true) (hlocks : meth.locks = false) (hK : KX E s) (hE : EX E A s s.heap) (hN : NX s) (hO : va_AO "NightPorter$Night" s) (hA : ∀ q : Nat, s.heap.size ≤ q → A q) (hX : va_X b nL xs s s.heap) (hbl : b < s.heap.size) (hbA : ¬ A b) (hret : ∀ (H : Heap) (locs : List Loc) (ls : Array Slot) (cs : Nat), va_S A s.heap H locs → cs ≤ 654810 → W p l e room_1 s m ([.ref b] : List Value).toArray below meth c H locs cs (6 * cs) Q (F0 m 360 ls [.int 1])) : ∀ (a2 : Nat → Int32) (vK : KV) (q2 : Nat) (cs : Nat) (H : Heap) (locs : List Loc) (ls : Array Slot), J_K_law_137 xs nL a2 vK = some 1 → cs + 435089 ≤ 654810 → va_P E.1 vwCl (W_K E k vK ++ [(q2, .inl (E.2.1, 6, .inl a2))]) H → va_D A (W_K E k vK ++ [(q2, .inl (E.2.1, 6, .inl a2))]) → va_S A s.heap H locs → lv_has ls 7 [(1, .ref q2), (2, .ref k.1)] → W p l e room_1 s m ([.ref b] : List Value).toArray below meth c H locs cs (6 * cs) Q (F0 m 137 ls []) := by
  intro a2 vK q2 cs H locs ls hf hc hP hD hS hl
  unfold J_K_law_137 at hf
  refine lv_iconst (v := 0) hx hb dL_law_137 (by decide) ?_
  refine lv_istore_n (lv' := [(3, .int 0), (1, .ref q2), (2, .ref k.1)]) hx hb dL_law_138 rfl hl (by decide) rfl (fun ls hl => ?_)
  refine lv_iconst (v := 0) hx hb dL_law_139 (by decide) ?_
  refine lv_istore (lv' := [(4, .int 0), (3, .int 0), (1, .ref q2), (2, .ref k.1)]) hx hb dL_law_140 hl (by decide) rfl (fun ls hl => ?_)
  exact q_K_law_142 e below hst k hx hb hr hml hown hg hlocks hK hE hN hO hA hX hbl hbA hret 4 _ _ _ _ _ _ _ _ _ hf (by omega) hP hD hS (lv_sub hl [2, 3, 1, 0] rfl)
set_option maxHeartbeats 16000000 in
set_option maxRecDepth 100000 in
theorem q_K_law_35 {p : Program} {l : Launch} (e : Env) {s : State} {m : MethodId} (below : List Frame) {meth : Method} {c : Code} {A : Nat → Prop} {E : Ev} {b nL : Nat} {xs : Nat → Int32} {Q : State → Prop} (hst : l.stackTraces = false) (hx : p.tables.exec = Jvm.exec) (hb : c.code = cL_law) (hr : meth.sig.returnType = some .boolean) (hml : c.maxLocals = 7) (hown : s.vm.findClass RL = some m.cls) (hg : ∀ w ∈ GA, w.before ([.ref b] : List Value).toArray s = true) (hlocks : meth.locks = false) (hK : KX E s) (hE : EX E A s s.heap) (hN : NX s) (hO : va_AO "NightPorter$Night" s) (hA : ∀ q : Nat, s.heap.size ≤ q → A q) (hX : va_X b nL xs s s.heap) (hbl : b < s.heap.size) (hbA : ¬ A b) (hret : ∀ (H : Heap) (locs : List Loc) (ls : Array Slot) (cs : Nat), va_S A s.heap H locs → cs ≤ 654810 → W p l e room_1 s m ([.ref b] : List Value).toArray below meth c H locs cs (6 * cs) Q (F0 m 360 ls [.int 1])) : ∀ (a2 : Nat → Int32) (q2 : Nat) (cs : Nat) (H : Heap) (locs : List Loc) (ls : Array Slot), J_K_law_35 xs nL a2 = some 1 → cs + 437272 ≤ 654810 → va_P E.1 vwCl (([] : va_W) ++ [(q2, .inl (E.2.1, 6, .inl a2))]) H → va_D A (([] : va_W) ++ [(q2, .inl (E.2.1, 6, .inl a2))]) → va_S A s.heap H locs → lv_has ls 7 [(1, .ref q2)] → W p l e room_1 s m ([.ref b] : List Value).toArray below meth c H locs cs (6 * cs) Q (F0 m 35 ls []) := by
  intro a2 q2 cs H locs ls hf hc hP hD hS hl
  unfold J_K_law_35 at hf
  rw [List.nil_append] at hP hD
  refine va_new (D := E.1) (ci := 8) (fs := [.null, .null, .null, .null, .null, .null, .null, .int 0]) (C := RX8) (T := TX8) (N := 8) hx hb hg inG_X8 tyX8 tyX8_ok hown (hg _ cl_L_8) (hg _ is_X8) (hg _ ini_X8) hK.1 hP hD hS hA rfl (fun j hj => by rcases (show j = 0 ∨ j = 1 ∨ j = 2 ∨ j = 3 ∨ j = 4 ∨ j = 5 ∨ j = 6 ∨ j = 7 by omega) with rfl | rfl | rfl | rfl | rfl | rfl | rfl | rfl <;> rfl) (by show _ ≤ 654810; omega) (by show _ ≤ 7137269; omega) dL_law_35 (fun q1 H hP hD hS => ?_)
  have hP : va_P E.1 vwCl ([(q2, .inl (E.2.1, 6, .inl a2))] ++ [(q1, .inr (8, [.null, .null, .null, .null, .null, .null, .null, .int 0]))]) H := hP
  have hD : va_D A ([(q2, .inl (E.2.1, 6, .inl a2))] ++ [(q1, .inr (8, [.null, .null, .null, .null, .null, .null, .null, .int 0]))]) := hD
  refine lv_dup hx hb dL_law_38 rfl ?_
  obtain ⟨u0, hu0, hf⟩ := bn hf
  refine nm_I (As := []) (rest := [.ref q1]) (wr := [(q2, .inl (E.2.1, 6, .inl a2))]) (bs := [(q1, .inr (8, [.null, .null, .null, .null, .null, .null, .null, .int 0]))]) hx hb hml hown hg (c_X8_init E l q1 u0 hu0) ci_X8_init ml_L_293 ⟨⟨rfl, rfl⟩, Nat.le_of_ble_eq_true rfl, Nat.le_of_ble_eq_true rfl⟩ hK hE hO hP hD hS hA rfl hl.1 rfl (Nat.le_of_ble_eq_true rfl) dL_law_39 ⟨by show _ ≤ 654810; omega, by show _ ≤ 7137269; omega⟩ (fun bs9 H locs hp hP hD hS => ?_)
  obtain ⟨aB, aBw, aP, aN, aNd, aH, aQ, aG, aU, aR, aGd, aUd, aRd, aHA, kn, kg, ku, kr, aQA, aQF, qn, qg, qu, qr, rfl⟩ := hp
  have hk9 : ∃ k : KA, k = (q1, aB, aBw, aP, aN, aNd, aH, aQ, aG, aU, aR, aGd, aUd, aRd, aHA, kn, kg, ku, kr, aQA, aQF, qn, qg, qu, qr) := ⟨_, rfl⟩
  obtain ⟨k, hk⟩ := hk9
  have hq1 : q1 = k.1 := by rw [hk]
  have hP : va_P E.1 vwCl (W_K E k (kvI u0) ++ [(q2, .inl (E.2.1, 6, .inl a2))]) H := by rw [hk]; exact lw_swP hP
  have hD : va_D A (W_K E k (kvI u0) ++ [(q2, .inl (E.2.1, 6, .inl a2))]) := by rw [hk]; exact lw_swD hD
  rw [hq1]
  refine W.widen (k := (cs + 932)) (n := 6 * (cs + 932)) (by omega) (by omega) ?_
  refine lv_astore_n (lv' := [(2, .ref k.1), (1, .ref q2)]) hx hb dL_law_42 rfl hl (by decide) rfl (fun ls hl => ?_)
  refine lv_aload_n hx hb dL_law_43 rfl (lv_at hl 0 rfl) ?_
  refine lv_bipush (v := 8) hx hb dL_law_44 (by decide) ?_
  refine lv_iconst (v := 0) hx hb dL_law_46 (by decide) ?_
  obtain ⟨u1, hu1, hf⟩ := bn hf
  refine lk_S (As := [.ref k.1, .int 8, .int 0]) (rest := []) (wr := [(q2, .inl (E.2.1, 6, .inl a2))]) hx hb hml hown hg (c_K_call__ E l hst k (kvI u0) 8 0 u1 hu1) cs_L_call__ ml_L_171 ⟨⟨rfl, rfl⟩, Nat.le_of_ble_eq_true rfl, Nat.le_of_ble_eq_true rfl⟩ hK hE hN hP hD hS hA (W_Ka E k _ _) rfl hl.1 rfl (Nat.le_of_ble_eq_true rfl) dL_law_47 ⟨by show _ ≤ 654810; omega, by show _ ≤ 7137269; omega⟩ [.int u1.1] rfl (fun H locs hP hD hS => ?_)
  refine lv_bipush (v := (-102)) hx hb dL_law_50 (by decide) ?_
  refine lv_icmp_ne (tgt := 137) hx hb dL_law_52 (by decide) (fun cq => ?_) (fun cq => ?_)
  · have hf := ie cq hf
    exact q_K_law_137 e below hst k hx hb hr hml hown hg hlocks hK hE hN hO hA hX hbl hbA hret _ _ _ _ _ _ _ hf (by omega) hP hD hS (lv_sub hl [1, 0] rfl)
  · have hf := it cq hf
    refine lv_aload_n hx hb dL_law_55 rfl (lv_at hl 0 rfl) ?_
    obtain ⟨u2, hu2, hf⟩ := bn hf
    refine lk_V (As := []) (rest := []) (wr := [(q2, .inl (E.2.1, 6, .inl a2))]) hx hb hml hown hg (k_X8_guestCount E l k u1.2 u2 hu2) cy_X8_guestCount ml_L_243 ⟨⟨rfl, rfl⟩, Nat.le_of_ble_eq_true rfl, Nat.le_of_ble_eq_true rfl⟩ hK hE hP hD hS hA (W_Ka E k _ _) rfl rfl rfl hl.1 rfl (Nat.le_of_ble_eq_true rfl) dL_law_56 ⟨by show _ ≤ 654810; omega, by show _ ≤ 7137269; omega⟩ [.int u2] rfl (fun H locs hP hD hS => ?_)
    refine lv_iconst (v := 3) hx hb dL_law_59 (by decide) ?_
    refine lv_icmp_ne (tgt := 137) hx hb dL_law_60 (by decide) (fun cq => ?_) (fun cq => ?_)
    · have hf := ie cq hf
      exact q_K_law_137 e below hst k hx hb hr hml hown hg hlocks hK hE hN hO hA hX hbl hbA hret _ _ _ _ _ _ _ hf (by omega) hP hD hS (lv_sub hl [1, 0] rfl)
    · have hf := it cq hf
      refine lv_aload_n hx hb dL_law_63 rfl (lv_at hl 0 rfl) ?_
      obtain ⟨u3, hu3, hf⟩ := bn hf
      refine lk_V (As := []) (rest := []) (wr := [(q2, .inl (E.2.1, 6, .inl a2))]) hx hb hml hown hg (k_X8_umbrellaCount E l k u1.2 u3 hu3) cy_X8_umbrellaCount ml_L_246 ⟨⟨rfl, rfl⟩, Nat.le_of_ble_eq_true rfl, Nat.le_of_ble_eq_true rfl⟩ hK hE hP hD hS hA (W_Ka E k _ _) rfl rfl rfl hl.1 rfl (Nat.le_of_ble_eq_true rfl) dL_law_64 ⟨by show _ ≤ 654810; omega, by show _ ≤ 7137269; omega⟩ [.int u3] rfl (fun H locs hP hD hS => ?_)
      refine lv_iconst (v := 3) hx hb dL_law_67 (by decide) ?_
      refine lv_icmp_ne (tgt := 137) hx hb dL_law_68 (by decide) (fun cq => ?_) (fun cq => ?_)
      · have hf := ie cq hf
        exact q_K_law_137 e below hst k hx hb hr hml hown hg hlocks hK hE hN hO hA hX hbl hbA hret _ _ _ _ _ _ _ hf (by omega) hP hD hS (lv_sub hl [1, 0] rfl)
      · have hf := it cq hf
        refine lv_aload_n hx hb dL_law_71 rfl (lv_at hl 0 rfl) ?_
        obtain ⟨u4, hu4, hf⟩ := bn hf
        refine lk_V (As := []) (rest := []) (wr := [(q2, .inl (E.2.1, 6, .inl a2))]) hx hb hml hown hg (k_X8_rain E l k u1.2 u4 hu4) cy_X8_rain ml_L_221 ⟨⟨rfl, rfl⟩, Nat.le_of_ble_eq_true rfl, Nat.le_of_ble_eq_true rfl⟩ hK hE hP hD hS hA (W_Ka E k _ _) rfl rfl rfl hl.1 rfl (Nat.le_of_ble_eq_true rfl) dL_law_72 ⟨by show _ ≤ 654810; omega, by show _ ≤ 7137269; omega⟩ [.int u4] rfl (fun H locs hP hD hS => ?_)
        refine lv_iconst (v := 2) hx hb dL_law_75 (by decide) ?_
        refine lv_icmp_ne (tgt := 137) hx hb dL_law_76 (by decide) (fun cq => ?_) (fun cq => ?_)
        · have hf := ie cq hf
          exact q_K_law_137 e below hst k hx hb hr hml hown hg hlocks hK hE hN hO hA hX hbl hbA hret _ _ _ _ _ _ _ hf (by omega) hP hD hS (lv_sub hl [1, 0] rfl)
        · have hf := it cq hf
          refine lv_aload_n hx hb dL_law_79 rfl (lv_at hl 0 rfl) ?_
          refine lv_bipush (v := 39) hx hb dL_law_80 (by decide) ?_
          refine lv_iconst (v := 0) hx hb dL_law_82 (by decide) ?_
          obtain ⟨u5, hu5, hf⟩ := bn hf
          refine lk_S (As := [.ref k.1, .int 39, .int 0]) (rest := []) (wr := [(q2, .inl (E.2.1, 6, .inl a2))]) hx hb hml hown hg (c_K_call__ E l hst k u1.2 39 0 u5 hu5) cs_L_call__ ml_L_171 ⟨⟨rfl, rfl⟩, Nat.le_of_ble_eq_true rfl, Nat.le_of_ble_eq_true rfl⟩ hK hE hN hP hD hS hA (W_Ka E k _ _) rfl hl.1 rfl (Nat.le_of_ble_eq_true rfl) dL_law_83 ⟨by show _ ≤ 654810; omega, by show _ ≤ 7137269; omega⟩ [.int u5.1] rfl (fun H locs hP hD hS => ?_)
          refine lv_iconst (v := 2) hx hb dL_law_86 (by decide) ?_
          refine lv_icmp_ne (tgt := 137) hx hb dL_law_87 (by decide) (fun cq => ?_) (fun cq => ?_)
          · have hf := ie cq hf
            exact q_K_law_137 e below hst k hx hb hr hml hown hg hlocks hK hE hN hO hA hX hbl hbA hret _ _ _ _ _ _ _ hf (by omega) hP hD hS (lv_sub hl [1, 0] rfl)
          · have hf := it cq hf
            refine lv_aload_n hx hb dL_law_90 rfl (lv_at hl 0 rfl) ?_
            refine lv_bipush (v := 14) hx hb dL_law_91 (by decide) ?_
            refine lv_iconst (v := 0) hx hb dL_law_93 (by decide) ?_
            obtain ⟨u6, hu6, hf⟩ := bn hf
            refine lk_S (As := [.ref k.1, .int 14, .int 0]) (rest := []) (wr := [(q2, .inl (E.2.1, 6, .inl a2))]) hx hb hml hown hg (c_K_call__ E l hst k u5.2 14 0 u6 hu6) cs_L_call__ ml_L_171 ⟨⟨rfl, rfl⟩, Nat.le_of_ble_eq_true rfl, Nat.le_of_ble_eq_true rfl⟩ hK hE hN hP hD hS hA (W_Ka E k _ _) rfl hl.1 rfl (Nat.le_of_ble_eq_true rfl) dL_law_94 ⟨by show _ ≤ 654810; omega, by show _ ≤ 7137269; omega⟩ [.int u6.1] rfl (fun H locs hP hD hS => ?_)
            refine lv_bipush (v := (-101)) hx hb dL_law_97 (by decide) ?_
            refine lv_icmp_ne (tgt := 137) hx hb dL_law_99 (by decide) (fun cq => ?_) (fun cq => ?_)
            · have hf := ie cq hf
              exact q_K_law_137 e below hst k hx hb hr hml hown hg hlocks hK hE hN hO hA hX hbl hbA hret _ _ _ _ _ _ _ hf (by omega) hP hD hS (lv_sub hl [1, 0] rfl)
            · have hf := it cq hf
              refine lv_aload_n hx hb dL_law_102 rfl (lv_at hl 0 rfl) ?_
              refine lv_bipush (v := 43) hx hb dL_law_103 (by decide) ?_
              refine lv_iconst (v := 0) hx hb dL_law_105 (by decide) ?_
              obtain ⟨u7, hu7, hf⟩ := bn hf
              refine lk_S (As := [.ref k.1, .int 43, .int 0]) (rest := []) (wr := [(q2, .inl (E.2.1, 6, .inl a2))]) hx hb hml hown hg (c_K_call__ E l hst k u6.2 43 0 u7 hu7) cs_L_call__ ml_L_171 ⟨⟨rfl, rfl⟩, Nat.le_of_ble_eq_true rfl, Nat.le_of_ble_eq_true rfl⟩ hK hE hN hP hD hS hA (W_Ka E k _ _) rfl hl.1 rfl (Nat.le_of_ble_eq_true rfl) dL_law_106 ⟨by show _ ≤ 654810; omega, by show _ ≤ 7137269; omega⟩ [.int u7.1] rfl (fun H locs hP hD hS => ?_)
              refine lv_bipush (v := (-104)) hx hb dL_law_109 (by decide) ?_
              refine lv_icmp_ne (tgt := 137) hx hb dL_law_111 (by decide) (fun cq => ?_) (fun cq => ?_)
              · have hf := ie cq hf
                exact q_K_law_137 e below hst k hx hb hr hml hown hg hlocks hK hE hN hO hA hX hbl hbA hret _ _ _ _ _ _ _ hf (by omega) hP hD hS (lv_sub hl [1, 0] rfl)
              · have hf := it cq hf
                refine lv_aload_n hx hb dL_law_114 rfl (lv_at hl 0 rfl) ?_
                refine lv_bipush (v := 10) hx hb dL_law_115 (by decide) ?_
                refine lv_iconst (v := 0) hx hb dL_law_117 (by decide) ?_
                obtain ⟨u8, hu8, hf⟩ := bn hf
                refine lk_S (As := [.ref k.1, .int 10, .int 0]) (rest := []) (wr := [(q2, .inl (E.2.1, 6, .inl a2))]) hx hb hml hown hg (c_K_call__ E l hst k u7.2 10 0 u8 hu8) cs_L_call__ ml_L_171 ⟨⟨rfl, rfl⟩, Nat.le_of_ble_eq_true rfl, Nat.le_of_ble_eq_true rfl⟩ hK hE hN hP hD hS hA (W_Ka E k _ _) rfl hl.1 rfl (Nat.le_of_ble_eq_true rfl) dL_law_118 ⟨by show _ ≤ 654810; omega, by show _ ≤ 7137269; omega⟩ [.int u8.1] rfl (fun H locs hP hD hS => ?_)
                refine lv_bipush (v := (-101)) hx hb dL_law_121 (by decide) ?_
                refine lv_icmp_ne (tgt := 137) hx hb dL_law_123 (by decide) (fun cq => ?_) (fun cq => ?_)
                · have hf := ie cq hf
                  exact q_K_law_137 e below hst k hx hb hr hml hown hg hlocks hK hE hN hO hA hX hbl hbA hret _ _ _ _ _ _ _ hf (by omega) hP hD hS (lv_sub hl [1, 0] rfl)
                · have hf := it cq hf
                  refine lv_aload_n hx hb dL_law_126 rfl (lv_at hl 0 rfl) ?_
                  obtain ⟨u9, hu9, hf⟩ := bn hf
                  refine lk_S (As := [.ref k.1]) (rest := []) (wr := [(q2, .inl (E.2.1, 6, .inl a2))]) hx hb hml hown hg (c_K_register E l hst k u8.2 u9 hu9) cs_L_register ml_L_288 ⟨⟨rfl, rfl⟩, Nat.le_of_ble_eq_true rfl, Nat.le_of_ble_eq_true rfl⟩ hK hE hN hP hD hS hA (W_Ka E k _ _) rfl hl.1 rfl (Nat.le_of_ble_eq_true rfl) dL_law_127 ⟨by show _ ≤ 654810; omega, by show _ ≤ 7137269; omega⟩ [.int u9.1] rfl (fun H locs hP hD hS => ?_)
                  refine lv_if_eq (tgt := 137) hx hb dL_law_130 (by decide) (fun cq => ?_) (fun cq => ?_)
                  · have hf := it cq hf
                    exact q_K_law_137 e below hst k hx hb hr hml hown hg hlocks hK hE hN hO hA hX hbl hbA hret _ _ _ _ _ _ _ hf (by omega) hP hD hS (lv_sub hl [1, 0] rfl)
                  · have hf := ie cq hf
                    refine lv_iconst (v := 1) hx hb dL_law_133 (by decide) ?_
                    refine lv_goto (tgt := 138) hx hb dL_law_134 (by decide) ?_
                    refine lv_istore_n (lv' := [(3, .int 1), (2, .ref k.1), (1, .ref q2)]) hx hb dL_law_138 rfl hl (by decide) rfl (fun ls hl => ?_)
                    refine lv_iconst (v := 0) hx hb dL_law_139 (by decide) ?_
                    refine lv_istore (lv' := [(4, .int 0), (3, .int 1), (2, .ref k.1), (1, .ref q2)]) hx hb dL_law_140 hl (by decide) rfl (fun ls hl => ?_)
                    exact q_K_law_142 e below hst k hx hb hr hml hown hg hlocks hK hE hN hO hA hX hbl hbA hret 4 _ _ _ _ _ _ _ _ _ hf (by omega) hP hD hS (lv_sub hl [3, 2, 1, 0] rfl)
set_option maxHeartbeats 16000000 in
set_option maxRecDepth 100000 in
theorem q_K_law_7 {p : Program} {l : Launch} (e : Env) {s : State} {m : MethodId} (below : List Frame) {meth : Method} {c : Code} {A : Nat → Prop} {E : Ev} {b nL : Nat} {xs : Nat → Int32} {Q : State → Prop} (hst : l.stackTraces = false) (hx : p.tables.exec = Jvm.exec) (hb : c.code = cL_law) (hr : meth.sig.returnType = some .boolean) (hml : c.maxLocals = 7) (hown : s.vm.findClass RL = some m.cls) (hg : ∀ w ∈ GA, w.before ([.ref b] : List Value).toArray s = true) (hlocks : meth.locks = false) (hK : KX E s) (hE : EX E A s s.heap) (hN : NX s) (hO : va_AO "NightPorter$Night" s) (hA : ∀ q : Nat, s.heap.size ≤ q → A q) (hX : va_X b nL xs s s.heap) (hbl : b < s.heap.size) (hbA : ¬ A b) (hret : ∀ (H : Heap) (locs : List Loc) (ls : Array Slot) (cs : Nat), va_S A s.heap H locs → cs ≤ 654810 → W p l e room_1 s m ([.ref b] : List Value).toArray below meth c H locs cs (6 * cs) Q (F0 m 360 ls [.int 1])) : ∀ (n : Nat) (x2 : Int32) (a2 : Nat → Int32) (q2 : Nat) (cs : Nat) (H : Heap) (locs : List Loc) (ls : Array Slot), L_K_law_7 xs nL n x2 a2 = some 1 → cs + n * 0 + 437273 ≤ 654810 → va_P E.1 vwCl (([] : va_W) ++ [(q2, .inl (E.2.1, 6, .inl a2))]) H → va_D A (([] : va_W) ++ [(q2, .inl (E.2.1, 6, .inl a2))]) → va_S A s.heap H locs → lv_has ls 7 [(0, .ref b), (1, .ref q2), (2, .int x2)] → W p l e room_1 s m ([.ref b] : List Value).toArray below meth c H locs cs (6 * cs) Q (F0 m 7 ls []) := by
  intro n_7
  induction n_7 with
  | zero => intro x2 a2 q2 cs H locs ls hf; cases hf
  | succ n_7 ih_7 =>
    intro x2 a2 q2 cs H locs ls hf hc hP hD hS hl
    replace hf : B_K_law_7 (L_K_law_7 xs nL n_7) xs nL x2 a2 = some 1 := hf
    unfold B_K_law_7 at hf
    refine lv_iload_n hx hb dL_law_7 rfl (lv_at hl 2 rfl) ?_
    refine lv_bipush (v := 6) hx hb dL_law_8 (by decide) ?_
    refine lv_icmp_ge (tgt := 35) hx hb dL_law_10 (by decide) (fun cq => ?_) (fun cq => ?_)
    · have hf := it cq hf
      exact q_K_law_35 e below hst hx hb hr hml hown hg hlocks hK hE hN hO hA hX hbl hbA hret _ _ _ _ _ _ hf (by omega) hP hD hS (lv_sub hl [1] rfl)
    · have hf := ie cq hf
      refine lv_iload_n hx hb dL_law_13 rfl (lv_at hl 2 rfl) ?_
      refine lv_aload_n hx hb dL_law_14 rfl (lv_at hl 0 rfl) ?_
      refine va_slen hx hb hX hbl hbA hS dL_law_15 ?_
      refine lv_icmp_ge (tgt := 35) hx hb dL_law_16 (by decide) (fun cq => ?_) (fun cq => ?_)
      · have hf := it cq hf
        exact q_K_law_35 e below hst hx hb hr hml hown hg hlocks hK hE hN hO hA hX hbl hbA hret _ _ _ _ _ _ hf (by omega) hP hD hS (lv_sub hl [1] rfl)
      · have hf := ie cq hf
        refine lv_aload_n hx hb dL_law_19 rfl (lv_at hl 1 rfl) ?_
        refine lv_iload_n hx hb dL_law_20 rfl (lv_at hl 2 rfl) ?_
        refine lv_aload_n hx hb dL_law_21 rfl (lv_at hl 0 rfl) ?_
        refine lv_iload_n hx hb dL_law_22 rfl (lv_at hl 2 rfl) ?_
        obtain ⟨hi, hf⟩ := ck_o hf
        refine va_sld hx hb hX hbl hbA hS hi dL_law_23 ?_
        refine lv_ldcw (v := 2147483647) hx hb hown (hg _ kc_L_292) dL_law_24 ?_
        refine lv_iand hx hb dL_law_27 ?_
        obtain ⟨hi, hf⟩ := ck_o hf
        obtain ⟨b1, hv, hf⟩ := lt_o hf
        refine la_st (y2 := [(q2, .inl (E.2.1, 6, .inl b1))]) hx hb hK hP hD hS 0 rfl hi (by rw [hv]; rfl) dL_law_28 (fun H locs hP hD hS => ?_)
        clear hv
        refine lv_iinc (v := (x2 + 1)) (lv' := [(2, .int (x2 + 1)), (0, .ref b), (1, .ref q2)]) hx hb dL_law_29 hl (k := 2) rfl rfl (by decide) rfl (fun ls hl => ?_)
        refine lv_goto (tgt := 7) hx hb dL_law_32 (by decide) ?_
        exact ih_7 _ _ _ _ _ _ _ hf (by omega) hP hD hS (lv_sub hl [1, 2, 0] rfl)
set_option maxHeartbeats 16000000 in
set_option maxRecDepth 100000 in
theorem q_K_law {p : Program} {l : Launch} (e : Env) {s : State} {m : MethodId} (below : List Frame) {meth : Method} {c : Code} {A : Nat → Prop} {E : Ev} {b nL : Nat} {xs : Nat → Int32} {Q : State → Prop} (hst : l.stackTraces = false) (hx : p.tables.exec = Jvm.exec) (hb : c.code = cL_law) (hr : meth.sig.returnType = some .boolean) (hml : c.maxLocals = 7) (hown : s.vm.findClass RL = some m.cls) (hg : ∀ w ∈ GA, w.before ([.ref b] : List Value).toArray s = true) (hlocks : meth.locks = false) (hK : KX E s) (hE : EX E A s s.heap) (hN : NX s) (hO : va_AO "NightPorter$Night" s) (hA : ∀ q : Nat, s.heap.size ≤ q → A q) (hX : va_X b nL xs s s.heap) (hbl : b < s.heap.size) (hbA : ¬ A b) (hret : ∀ (H : Heap) (locs : List Loc) (ls : Array Slot) (cs : Nat), va_S A s.heap H locs → cs ≤ 654810 → W p l e room_1 s m ([.ref b] : List Value).toArray below meth c H locs cs (6 * cs) Q (F0 m 360 ls [.int 1])) (ls : Array Slot) (hf : F_K_law xs nL = some 1) (hl : lv_has ls 7 [(0, .ref b)]) : W p l e room_1 s m ([.ref b] : List Value).toArray below meth c s.heap [] 0 0 Q (F0 m 0 ls []) := by
  unfold F_K_law at hf
  have hc : 0 ≤ 654810 := Nat.zero_le _
  have hS : va_S A s.heap s.heap [] := va_S.rf
  have hP : va_P E.1 vwCl (([] : va_W) ++ []) s.heap := fun k q h => by simp at h
  have hD : va_D A (([] : va_W) ++ []) := ⟨fun i j p q h => by simp at h, fun k q h => by simp at h⟩
  refine W.eqS (n := 6 * 0) rfl ?_
  refine lv_bipush (v := 6) hx hb dL_law_0 (by decide) ?_
  refine la_new (N := 6) (u := 1) hx hb hg hK hP hD hS hA (by decide) (by decide) (Nat.le_of_ble_eq_true rfl) (by decide) ⟨by show _ ≤ 654810; omega, by show _ ≤ 7137269; omega⟩ dL_law_2 (fun q2 H hP hD hS => ?_)
  have hP : va_P E.1 vwCl (([] : va_W) ++ [(q2, .inl (E.2.1, 6, .inl (fun _ => 0)))]) _ := hP
  have hD : va_D A (([] : va_W) ++ [(q2, .inl (E.2.1, 6, .inl (fun _ => 0)))]) := hD
  refine lv_astore_n (lv' := [(1, .ref q2), (0, .ref b)]) hx hb dL_law_4 rfl hl (by decide) rfl (fun ls hl => ?_)
  refine lv_iconst (v := 0) hx hb dL_law_5 (by decide) ?_
  refine lv_istore_n (lv' := [(2, .int 0), (1, .ref q2), (0, .ref b)]) hx hb dL_law_6 rfl hl (by decide) rfl (fun ls hl => ?_)
  exact q_K_law_7 e below hst hx hb hr hml hown hg hlocks hK hE hN hO hA hX hbl hbA hret 7 _ _ _ _ _ _ _ hf (by omega) hP hD hS (lv_sub hl [2, 1, 0] rfl)
