def J_K_does_266 (x3 : Int64) (x6 : Int32) (vK : KV) : Option (Int32 × KV) := (if 0 ≤ x6 then (some (1, vK)) else (F_K_state vK).bind (fun u1 => (if (lg_cmp u1.1 x3) = 0 then (some (1, u1.2)) else (some (0, u1.2)))))
def J_K_does_92 (x2 : Int32) (x3 : Int64) (x5 : Int32) (vK : KV) : Option (Int32 × KV) := cn (¬ x5 = 0) ((F_K_call__ vK 2 ((x2 &&& 255) - (x2 &&& 255) / x5 * x5)).bind (fun u1 => (J_K_does_266 x3 u1.1 u1.2)))
def J_K_does_110 (x2 : Int32) (x3 : Int64) (x5 : Int32) (vK : KV) : Option (Int32 × KV) := cn (¬ x5 = 0) ((F_K_call__ vK 3 ((x2 &&& 255) - (x2 &&& 255) / x5 * x5)).bind (fun u1 => (J_K_does_266 x3 u1.1 u1.2)))
def J_K_does_128 (x2 : Int32) (x3 : Int64) (vK : KV) : Option (Int32 × KV) := (F_K_call__ vK 4 (1 + (x2 &&& 31))).bind (fun u1 => (J_K_does_266 x3 u1.1 u1.2))
def J_K_does_162 (x2 : Int32) (x3 : Int64) (vK : KV) : Option (Int32 × KV) := (F_K_call__ vK 6 ((x2 &&& 255) - (x2 &&& 255) / 11 * 11)).bind (fun u1 => (J_K_does_266 x3 u1.1 u1.2))
def J_K_does_235 (x2 : Int32) (x3 : Int64) (t1 : Int32) (vK : KV) : Option (Int32 × KV) := (F_K_call__ vK t1 ((x2 >>> (1 &&& 31)) &&& 1)).bind (fun u1 => (J_K_does_266 x3 u1.1 u1.2))
def F_K_does (v0 : KV) (p1 : Int32) (p2 : Int32) : Option (Int32 × KV) := (F_K_state v0).bind (fun u1 => (F_X8_guestCount (u1.2.1) (u1.2.2.2.1) (u1.2.2.2.2.1)).bind (fun u2 => (if (p1 &&& 15) = 0 then (J_K_does_92 p2 u1.1 (if 1 < u2 then u2 else 1) u1.2) else (if (p1 &&& 15) = 1 then (J_K_does_92 p2 u1.1 (if 1 < u2 then u2 else 1) u1.2) else (if (p1 &&& 15) = 2 then (J_K_does_92 p2 u1.1 (if 1 < u2 then u2 else 1) u1.2) else (if (p1 &&& 15) = 3 then (J_K_does_110 p2 u1.1 (if 1 < u2 then u2 else 1) u1.2) else (if (p1 &&& 15) = 4 then (J_K_does_110 p2 u1.1 (if 1 < u2 then u2 else 1) u1.2) else (if (p1 &&& 15) = 5 then (J_K_does_128 p2 u1.1 u1.2) else (if (p1 &&& 15) = 6 then (J_K_does_128 p2 u1.1 u1.2) else (if (p1 &&& 15) = 7 then (J_K_does_128 p2 u1.1 u1.2) else (if (p1 &&& 15) = 8 then (J_K_does_128 p2 u1.1 u1.2) else (if (p1 &&& 15) = 9 then cn (¬ (if 1 < u2 then u2 else 1) = 0) ((F_K_call__ u1.2 5 ((p2 &&& 255) - (p2 &&& 255) / (if 1 < u2 then u2 else 1) * (if 1 < u2 then u2 else 1))).bind (fun u3 => (J_K_does_266 u1.1 u3.1 u3.2))) else (if (p1 &&& 15) = 10 then (J_K_does_162 p2 u1.1 u1.2) else (if (p1 &&& 15) = 11 then (J_K_does_162 p2 u1.1 u1.2) else (if (p1 &&& 15) = 12 then (F_K_call__ u1.2 7 (p2 &&& 1023)).bind (fun u4 => (J_K_does_266 u1.1 u4.1 u4.2)) else (if (p1 &&& 15) = 13 then cn (¬ (if 1 < u2 then u2 else 1) = 0) ((F_K_call_ u1.2 1 ((p2 &&& 255) - (p2 &&& 255) / (if 1 < u2 then u2 else 1) * (if 1 < u2 then u2 else 1)) ((p2 >>> (3 &&& 31)) &&& 127)).bind (fun u5 => (J_K_does_266 u1.1 u5.1 u5.2))) else (if (p1 &&& 15) = 14 then (if (p2 &&& 1) = 0 then (J_K_does_235 p2 u1.1 9 u1.2) else (J_K_does_235 p2 u1.1 10 u1.2)) else ((F_K_call__ u1.2 8 0).bind (fun u6 => (if u6.1 = (-104) then (some (0, u6.2)) else (some (1, u6.2))))))))))))))))))))))
abbrev rm_L_does : Room := { frames := 12, cells := 2397, slots := 6 * 2397, locals := 268 }
set_option maxHeartbeats 16000000 in
set_option maxRecDepth 100000 in
theorem q_K_does_266 {p : Program} {l : Launch} (e : Env) {s : State} {m : MethodId} (below : List Frame) {meth : Method} {c : Code} {A : Nat → Prop} {E : Ev} (hst : l.stackTraces = false) (k : KA) (v0 : KV) (p1 : Int32) (p2 : Int32) (r : Int32 × KV) (hx : p.tables.exec = Jvm.exec) (hb : c.code = cL_does) (hr : meth.sig.returnType = some .boolean) (hml : c.maxLocals = 7) (hown : s.vm.findClass RL = some m.cls) (hg : ∀ w ∈ GA, w.before ([.ref k.1, .int p1, .int p2] : List Value).toArray s = true) (hlocks : meth.locks = false) (hK : KX E s) (hE : EX E A s s.heap) (hN : NX s) (hA : ∀ q : Nat, s.heap.size ≤ q → A q) : ∀ (x3 : Int64) (x6 : Int32) (vK : KV) (cs : Nat) (H : Heap) (locs : List Loc) (ls : Array Slot), J_K_does_266 x3 x6 vK = some r → cs + 1197 ≤ 2397 → va_P E.1 vwCl (W_K E k vK ++ []) H → va_D A (W_K E k vK ++ []) → va_S A s.heap H locs → lv_has ls 7 [(0, .ref k.1), (3, .long x3), (6, .int x6)] → W p l e rm_L_does s m ([.ref k.1, .int p1, .int p2] : List Value).toArray below meth c H locs cs (6 * cs) (vx_MQ below (QW E (some (.int r.1)) (W_K E k r.2) A) (fun _ _ _ => False) ([.ref k.1, .int p1, .int p2] : List Value).toArray s 2397 (6 * 2397) A) (F0 m 266 ls []) := by
  intro x3 x6 vK cs H locs ls hf hc hP hD hS hl
  unfold J_K_does_266 at hf
  refine lv_iload hx hb dL_does_266 (lv_at hl 2 rfl) ?_
  refine lv_if_ge (tgt := 280) hx hb dL_does_268 (by decide) (fun cq => ?_) (fun cq => ?_)
  · have hf := it cq hf
    refine lv_iconst (v := 1) hx hb dL_does_280 (by decide) ?_
    refine lv_goto (tgt := 285) hx hb dL_does_281 (by decide) ?_
    obtain rfl := Option.some.inj hf
    exact lm_yret (v := 1) hx hb hr rfl hlocks (lk_P1 hP) hS dL_does_285 (by omega) (by omega)
  · have hf := ie cq hf
    refine lv_aload_n hx hb dL_does_271 rfl (lv_at hl 0 rfl) ?_
    obtain ⟨u1, hu1, hf⟩ := bn hf
    refine lk_S (As := [.ref k.1]) (rest := []) (wr := []) hx hb hml hown hg (c_K_state E l hst k vK u1 hu1) cs_L_state ml_L_284 ⟨⟨rfl, rfl⟩, Nat.le_of_ble_eq_true rfl, Nat.le_of_ble_eq_true rfl⟩ hK hE hN hP hD hS hA (W_Ka E k _ _) rfl hl.1 rfl (Nat.le_of_ble_eq_true rfl) dL_does_272 ⟨by show _ ≤ 2397; omega, by show _ ≤ 6 * 2397; omega⟩ [.long u1.1] rfl (fun H locs hP hD hS => ?_)
    refine lv_lload_n hx hb dL_does_275 rfl (lv_at hl 1 rfl) ?_
    refine W.lcmp hx hb dL_does_276 ?_
    refine lv_if_ne (tgt := 284) hx hb dL_does_277 (by decide) (fun cq => ?_) (fun cq => ?_)
    · have hf := ie cq hf
      refine lv_iconst (v := 0) hx hb dL_does_284 (by decide) ?_
      obtain rfl := Option.some.inj hf
      exact lm_yret (v := 0) hx hb hr rfl hlocks (lk_P1 hP) hS dL_does_285 (by omega) (by omega)
    · have hf := it cq hf
      refine lv_iconst (v := 1) hx hb dL_does_280 (by decide) ?_
      refine lv_goto (tgt := 285) hx hb dL_does_281 (by decide) ?_
      obtain rfl := Option.some.inj hf
      exact lm_yret (v := 1) hx hb hr rfl hlocks (lk_P1 hP) hS dL_does_285 (by omega) (by omega)
set_option maxHeartbeats 16000000 in
set_option maxRecDepth 100000 in
theorem q_K_does_92 {p : Program} {l : Launch} (e : Env) {s : State} {m : MethodId} (below : List Frame) {meth : Method} {c : Code} {A : Nat → Prop} {E : Ev} (hst : l.stackTraces = false) (k : KA) (v0 : KV) (p1 : Int32) (p2 : Int32) (r : Int32 × KV) (hx : p.tables.exec = Jvm.exec) (hb : c.code = cL_does) (hr : meth.sig.returnType = some .boolean) (hml : c.maxLocals = 7) (hown : s.vm.findClass RL = some m.cls) (hg : ∀ w ∈ GA, w.before ([.ref k.1, .int p1, .int p2] : List Value).toArray s = true) (hlocks : meth.locks = false) (hK : KX E s) (hE : EX E A s s.heap) (hN : NX s) (hA : ∀ q : Nat, s.heap.size ≤ q → A q) : ∀ (x2 : Int32) (x3 : Int64) (x5 : Int32) (vK : KV) (cs : Nat) (H : Heap) (locs : List Loc) (ls : Array Slot), J_K_does_92 x2 x3 x5 vK = some r → cs + 1200 ≤ 2397 → va_P E.1 vwCl (W_K E k vK ++ []) H → va_D A (W_K E k vK ++ []) → va_S A s.heap H locs → lv_has ls 7 [(0, .ref k.1), (2, .int x2), (3, .long x3), (5, .int x5)] → W p l e rm_L_does s m ([.ref k.1, .int p1, .int p2] : List Value).toArray below meth c H locs cs (6 * cs) (vx_MQ below (QW E (some (.int r.1)) (W_K E k r.2) A) (fun _ _ _ => False) ([.ref k.1, .int p1, .int p2] : List Value).toArray s 2397 (6 * 2397) A) (F0 m 92 ls []) := by
  have jp_266 := q_K_does_266 e below hst k v0 p1 p2 r hx hb hr hml hown hg hlocks hK hE hN hA
  intro x2 x3 x5 vK cs H locs ls hf hc hP hD hS hl
  unfold J_K_does_92 at hf
  refine lv_aload_n hx hb dL_does_92 rfl (lv_at hl 0 rfl) ?_
  refine lv_iconst (v := 2) hx hb dL_does_93 (by decide) ?_
  refine lv_iload_n hx hb dL_does_94 rfl (lv_at hl 1 rfl) ?_
  refine lv_sipush (v := 255) hx hb dL_does_95 (by decide) ?_
  refine lv_iand hx hb dL_does_98 ?_
  refine lv_iload hx hb dL_does_99 (lv_at hl 3 rfl) ?_
  obtain ⟨h0, hf⟩ := cn_o hf
  refine lv_irem hx hb dL_does_101 h0 ?_
  obtain ⟨u1, hu1, hf⟩ := bn hf
  refine lk_S (As := [.ref k.1, .int 2, .int ((x2 &&& 255) - (x2 &&& 255) / x5 * x5)]) (rest := []) (wr := []) hx hb hml hown hg (c_K_call__ E l hst k vK 2 ((x2 &&& 255) - (x2 &&& 255) / x5 * x5) u1 hu1) cs_L_call__ ml_L_171 ⟨⟨rfl, rfl⟩, Nat.le_of_ble_eq_true rfl, Nat.le_of_ble_eq_true rfl⟩ hK hE hN hP hD hS hA (W_Ka E k _ _) rfl hl.1 rfl (Nat.le_of_ble_eq_true rfl) dL_does_102 ⟨by show _ ≤ 2397; omega, by show _ ≤ 6 * 2397; omega⟩ [.int u1.1] rfl (fun H locs hP hD hS => ?_)
  refine lv_istore (lv' := [(6, .int u1.1), (0, .ref k.1), (2, .int x2), (3, .long x3), (5, .int x5)]) hx hb dL_does_105 hl (by decide) rfl (fun ls hl => ?_)
  refine lv_goto (tgt := 266) hx hb dL_does_107 (by decide) ?_
  exact jp_266 _ _ _ _ _ _ _ hf (by omega) hP hD hS (lv_sub hl [1, 3, 0] rfl)
set_option maxHeartbeats 16000000 in
set_option maxRecDepth 100000 in
theorem q_K_does_110 {p : Program} {l : Launch} (e : Env) {s : State} {m : MethodId} (below : List Frame) {meth : Method} {c : Code} {A : Nat → Prop} {E : Ev} (hst : l.stackTraces = false) (k : KA) (v0 : KV) (p1 : Int32) (p2 : Int32) (r : Int32 × KV) (hx : p.tables.exec = Jvm.exec) (hb : c.code = cL_does) (hr : meth.sig.returnType = some .boolean) (hml : c.maxLocals = 7) (hown : s.vm.findClass RL = some m.cls) (hg : ∀ w ∈ GA, w.before ([.ref k.1, .int p1, .int p2] : List Value).toArray s = true) (hlocks : meth.locks = false) (hK : KX E s) (hE : EX E A s s.heap) (hN : NX s) (hA : ∀ q : Nat, s.heap.size ≤ q → A q) : ∀ (x2 : Int32) (x3 : Int64) (x5 : Int32) (vK : KV) (cs : Nat) (H : Heap) (locs : List Loc) (ls : Array Slot), J_K_does_110 x2 x3 x5 vK = some r → cs + 1200 ≤ 2397 → va_P E.1 vwCl (W_K E k vK ++ []) H → va_D A (W_K E k vK ++ []) → va_S A s.heap H locs → lv_has ls 7 [(0, .ref k.1), (2, .int x2), (3, .long x3), (5, .int x5)] → W p l e rm_L_does s m ([.ref k.1, .int p1, .int p2] : List Value).toArray below meth c H locs cs (6 * cs) (vx_MQ below (QW E (some (.int r.1)) (W_K E k r.2) A) (fun _ _ _ => False) ([.ref k.1, .int p1, .int p2] : List Value).toArray s 2397 (6 * 2397) A) (F0 m 110 ls []) := by
  have jp_266 := q_K_does_266 e below hst k v0 p1 p2 r hx hb hr hml hown hg hlocks hK hE hN hA
  intro x2 x3 x5 vK cs H locs ls hf hc hP hD hS hl
  unfold J_K_does_110 at hf
  refine lv_aload_n hx hb dL_does_110 rfl (lv_at hl 0 rfl) ?_
  refine lv_iconst (v := 3) hx hb dL_does_111 (by decide) ?_
  refine lv_iload_n hx hb dL_does_112 rfl (lv_at hl 1 rfl) ?_
  refine lv_sipush (v := 255) hx hb dL_does_113 (by decide) ?_
  refine lv_iand hx hb dL_does_116 ?_
  refine lv_iload hx hb dL_does_117 (lv_at hl 3 rfl) ?_
  obtain ⟨h0, hf⟩ := cn_o hf
  refine lv_irem hx hb dL_does_119 h0 ?_
  obtain ⟨u1, hu1, hf⟩ := bn hf
  refine lk_S (As := [.ref k.1, .int 3, .int ((x2 &&& 255) - (x2 &&& 255) / x5 * x5)]) (rest := []) (wr := []) hx hb hml hown hg (c_K_call__ E l hst k vK 3 ((x2 &&& 255) - (x2 &&& 255) / x5 * x5) u1 hu1) cs_L_call__ ml_L_171 ⟨⟨rfl, rfl⟩, Nat.le_of_ble_eq_true rfl, Nat.le_of_ble_eq_true rfl⟩ hK hE hN hP hD hS hA (W_Ka E k _ _) rfl hl.1 rfl (Nat.le_of_ble_eq_true rfl) dL_does_120 ⟨by show _ ≤ 2397; omega, by show _ ≤ 6 * 2397; omega⟩ [.int u1.1] rfl (fun H locs hP hD hS => ?_)
  refine lv_istore (lv' := [(6, .int u1.1), (0, .ref k.1), (2, .int x2), (3, .long x3), (5, .int x5)]) hx hb dL_does_123 hl (by decide) rfl (fun ls hl => ?_)
  refine lv_goto (tgt := 266) hx hb dL_does_125 (by decide) ?_
  exact jp_266 _ _ _ _ _ _ _ hf (by omega) hP hD hS (lv_sub hl [1, 3, 0] rfl)
set_option maxHeartbeats 16000000 in
set_option maxRecDepth 100000 in
theorem q_K_does_128 {p : Program} {l : Launch} (e : Env) {s : State} {m : MethodId} (below : List Frame) {meth : Method} {c : Code} {A : Nat → Prop} {E : Ev} (hst : l.stackTraces = false) (k : KA) (v0 : KV) (p1 : Int32) (p2 : Int32) (r : Int32 × KV) (hx : p.tables.exec = Jvm.exec) (hb : c.code = cL_does) (hr : meth.sig.returnType = some .boolean) (hml : c.maxLocals = 7) (hown : s.vm.findClass RL = some m.cls) (hg : ∀ w ∈ GA, w.before ([.ref k.1, .int p1, .int p2] : List Value).toArray s = true) (hlocks : meth.locks = false) (hK : KX E s) (hE : EX E A s s.heap) (hN : NX s) (hA : ∀ q : Nat, s.heap.size ≤ q → A q) : ∀ (x2 : Int32) (x3 : Int64) (vK : KV) (cs : Nat) (H : Heap) (locs : List Loc) (ls : Array Slot), J_K_does_128 x2 x3 vK = some r → cs + 1200 ≤ 2397 → va_P E.1 vwCl (W_K E k vK ++ []) H → va_D A (W_K E k vK ++ []) → va_S A s.heap H locs → lv_has ls 7 [(0, .ref k.1), (2, .int x2), (3, .long x3)] → W p l e rm_L_does s m ([.ref k.1, .int p1, .int p2] : List Value).toArray below meth c H locs cs (6 * cs) (vx_MQ below (QW E (some (.int r.1)) (W_K E k r.2) A) (fun _ _ _ => False) ([.ref k.1, .int p1, .int p2] : List Value).toArray s 2397 (6 * 2397) A) (F0 m 128 ls []) := by
  have jp_266 := q_K_does_266 e below hst k v0 p1 p2 r hx hb hr hml hown hg hlocks hK hE hN hA
  intro x2 x3 vK cs H locs ls hf hc hP hD hS hl
  unfold J_K_does_128 at hf
  refine lv_aload_n hx hb dL_does_128 rfl (lv_at hl 0 rfl) ?_
  refine lv_iconst (v := 4) hx hb dL_does_129 (by decide) ?_
  refine lv_iconst (v := 1) hx hb dL_does_130 (by decide) ?_
  refine lv_iload_n hx hb dL_does_131 rfl (lv_at hl 1 rfl) ?_
  refine lv_bipush (v := 31) hx hb dL_does_132 (by decide) ?_
  refine lv_iand hx hb dL_does_134 ?_
  refine lv_iadd hx hb dL_does_135 ?_
  obtain ⟨u1, hu1, hf⟩ := bn hf
  refine lk_S (As := [.ref k.1, .int 4, .int (1 + (x2 &&& 31))]) (rest := []) (wr := []) hx hb hml hown hg (c_K_call__ E l hst k vK 4 (1 + (x2 &&& 31)) u1 hu1) cs_L_call__ ml_L_171 ⟨⟨rfl, rfl⟩, Nat.le_of_ble_eq_true rfl, Nat.le_of_ble_eq_true rfl⟩ hK hE hN hP hD hS hA (W_Ka E k _ _) rfl hl.1 rfl (Nat.le_of_ble_eq_true rfl) dL_does_136 ⟨by show _ ≤ 2397; omega, by show _ ≤ 6 * 2397; omega⟩ [.int u1.1] rfl (fun H locs hP hD hS => ?_)
  refine lv_istore (lv' := [(6, .int u1.1), (0, .ref k.1), (2, .int x2), (3, .long x3)]) hx hb dL_does_139 hl (by decide) rfl (fun ls hl => ?_)
  refine lv_goto (tgt := 266) hx hb dL_does_141 (by decide) ?_
  exact jp_266 _ _ _ _ _ _ _ hf (by omega) hP hD hS (lv_sub hl [1, 3, 0] rfl)
set_option maxHeartbeats 16000000 in
set_option maxRecDepth 100000 in
theorem q_K_does_162 {p : Program} {l : Launch} (e : Env) {s : State} {m : MethodId} (below : List Frame) {meth : Method} {c : Code} {A : Nat → Prop} {E : Ev} (hst : l.stackTraces = false) (k : KA) (v0 : KV) (p1 : Int32) (p2 : Int32) (r : Int32 × KV) (hx : p.tables.exec = Jvm.exec) (hb : c.code = cL_does) (hr : meth.sig.returnType = some .boolean) (hml : c.maxLocals = 7) (hown : s.vm.findClass RL = some m.cls) (hg : ∀ w ∈ GA, w.before ([.ref k.1, .int p1, .int p2] : List Value).toArray s = true) (hlocks : meth.locks = false) (hK : KX E s) (hE : EX E A s s.heap) (hN : NX s) (hA : ∀ q : Nat, s.heap.size ≤ q → A q) : ∀ (x2 : Int32) (x3 : Int64) (vK : KV) (cs : Nat) (H : Heap) (locs : List Loc) (ls : Array Slot), J_K_does_162 x2 x3 vK = some r → cs + 1200 ≤ 2397 → va_P E.1 vwCl (W_K E k vK ++ []) H → va_D A (W_K E k vK ++ []) → va_S A s.heap H locs → lv_has ls 7 [(0, .ref k.1), (2, .int x2), (3, .long x3)] → W p l e rm_L_does s m ([.ref k.1, .int p1, .int p2] : List Value).toArray below meth c H locs cs (6 * cs) (vx_MQ below (QW E (some (.int r.1)) (W_K E k r.2) A) (fun _ _ _ => False) ([.ref k.1, .int p1, .int p2] : List Value).toArray s 2397 (6 * 2397) A) (F0 m 162 ls []) := by
  have jp_266 := q_K_does_266 e below hst k v0 p1 p2 r hx hb hr hml hown hg hlocks hK hE hN hA
  intro x2 x3 vK cs H locs ls hf hc hP hD hS hl
  unfold J_K_does_162 at hf
  refine lv_aload_n hx hb dL_does_162 rfl (lv_at hl 0 rfl) ?_
  refine lv_bipush (v := 6) hx hb dL_does_163 (by decide) ?_
  refine lv_iload_n hx hb dL_does_165 rfl (lv_at hl 1 rfl) ?_
  refine lv_sipush (v := 255) hx hb dL_does_166 (by decide) ?_
  refine lv_iand hx hb dL_does_169 ?_
  refine lv_bipush (v := 11) hx hb dL_does_170 (by decide) ?_
  refine lv_irem hx hb dL_does_172 (by decide) ?_
  obtain ⟨u1, hu1, hf⟩ := bn hf
  refine lk_S (As := [.ref k.1, .int 6, .int ((x2 &&& 255) - (x2 &&& 255) / 11 * 11)]) (rest := []) (wr := []) hx hb hml hown hg (c_K_call__ E l hst k vK 6 ((x2 &&& 255) - (x2 &&& 255) / 11 * 11) u1 hu1) cs_L_call__ ml_L_171 ⟨⟨rfl, rfl⟩, Nat.le_of_ble_eq_true rfl, Nat.le_of_ble_eq_true rfl⟩ hK hE hN hP hD hS hA (W_Ka E k _ _) rfl hl.1 rfl (Nat.le_of_ble_eq_true rfl) dL_does_173 ⟨by show _ ≤ 2397; omega, by show _ ≤ 6 * 2397; omega⟩ [.int u1.1] rfl (fun H locs hP hD hS => ?_)
  refine lv_istore (lv' := [(6, .int u1.1), (0, .ref k.1), (2, .int x2), (3, .long x3)]) hx hb dL_does_176 hl (by decide) rfl (fun ls hl => ?_)
  refine lv_goto (tgt := 266) hx hb dL_does_178 (by decide) ?_
  exact jp_266 _ _ _ _ _ _ _ hf (by omega) hP hD hS (lv_sub hl [1, 3, 0] rfl)
set_option maxHeartbeats 16000000 in
set_option maxRecDepth 100000 in
theorem q_K_does_235 {p : Program} {l : Launch} (e : Env) {s : State} {m : MethodId} (below : List Frame) {meth : Method} {c : Code} {A : Nat → Prop} {E : Ev} (hst : l.stackTraces = false) (k : KA) (v0 : KV) (p1 : Int32) (p2 : Int32) (r : Int32 × KV) (hx : p.tables.exec = Jvm.exec) (hb : c.code = cL_does) (hr : meth.sig.returnType = some .boolean) (hml : c.maxLocals = 7) (hown : s.vm.findClass RL = some m.cls) (hg : ∀ w ∈ GA, w.before ([.ref k.1, .int p1, .int p2] : List Value).toArray s = true) (hlocks : meth.locks = false) (hK : KX E s) (hE : EX E A s s.heap) (hN : NX s) (hA : ∀ q : Nat, s.heap.size ≤ q → A q) : ∀ (x2 : Int32) (x3 : Int64) (t1 : Int32) (vK : KV) (cs : Nat) (H : Heap) (locs : List Loc) (ls : Array Slot), J_K_does_235 x2 x3 t1 vK = some r → cs + 1200 ≤ 2397 → va_P E.1 vwCl (W_K E k vK ++ []) H → va_D A (W_K E k vK ++ []) → va_S A s.heap H locs → lv_has ls 7 [(0, .ref k.1), (2, .int x2), (3, .long x3)] → W p l e rm_L_does s m ([.ref k.1, .int p1, .int p2] : List Value).toArray below meth c H locs cs (6 * cs) (vx_MQ below (QW E (some (.int r.1)) (W_K E k r.2) A) (fun _ _ _ => False) ([.ref k.1, .int p1, .int p2] : List Value).toArray s 2397 (6 * 2397) A) (F0 m 235 ls [.int t1, .ref k.1]) := by
  have jp_266 := q_K_does_266 e below hst k v0 p1 p2 r hx hb hr hml hown hg hlocks hK hE hN hA
  intro x2 x3 t1 vK cs H locs ls hf hc hP hD hS hl
  unfold J_K_does_235 at hf
  refine lv_iload_n hx hb dL_does_235 rfl (lv_at hl 1 rfl) ?_
  refine lv_iconst (v := 1) hx hb dL_does_236 (by decide) ?_
  refine lv_ishr hx hb dL_does_237 ?_
  refine lv_iconst (v := 1) hx hb dL_does_238 (by decide) ?_
  refine lv_iand hx hb dL_does_239 ?_
  obtain ⟨u1, hu1, hf⟩ := bn hf
  refine lk_S (As := [.ref k.1, .int t1, .int ((x2 >>> (1 &&& 31)) &&& 1)]) (rest := []) (wr := []) hx hb hml hown hg (c_K_call__ E l hst k vK t1 ((x2 >>> (1 &&& 31)) &&& 1) u1 hu1) cs_L_call__ ml_L_171 ⟨⟨rfl, rfl⟩, Nat.le_of_ble_eq_true rfl, Nat.le_of_ble_eq_true rfl⟩ hK hE hN hP hD hS hA (W_Ka E k _ _) rfl hl.1 rfl (Nat.le_of_ble_eq_true rfl) dL_does_240 ⟨by show _ ≤ 2397; omega, by show _ ≤ 6 * 2397; omega⟩ [.int u1.1] rfl (fun H locs hP hD hS => ?_)
  refine lv_istore (lv' := [(6, .int u1.1), (0, .ref k.1), (2, .int x2), (3, .long x3)]) hx hb dL_does_243 hl (by decide) rfl (fun ls hl => ?_)
  refine lv_goto (tgt := 266) hx hb dL_does_245 (by decide) ?_
  exact jp_266 _ _ _ _ _ _ _ hf (by omega) hP hD hS (lv_sub hl [1, 3, 0] rfl)
set_option maxHeartbeats 16000000 in
set_option maxRecDepth 100000 in
theorem c_K_does (E : Ev) (l : Launch) (hst : l.stackTraces = false) (k : KA) (v0 : KV) (p1 : Int32) (p2 : Int32) (r : Int32 × KV) (hf : F_K_does v0 p1 p2 = some r) : LM E l yL_does (.code yL_does cL_does 7 (some .boolean) :: GA) rm_L_does [.ref k.1, .int p1, .int p2] (W_K E k v0) (some (.int r.1)) (W_K E k r.2) 2397 := by
  refine LM.of0 (own := RL) rfl (by decide) (Nat.le_of_ble_eq_true rfl) ?_
  intro p e s m below meth c A ls hx hb hr hml hown hg hlocks hK hE hN hA hP hD hS hl
  have hl : lv_has ls 7 [(0, .ref k.1), (1, .int p1), (2, .int p2)] := hl
  have jp_266 := q_K_does_266 e below hst k v0 p1 p2 r hx hb hr hml hown hg hlocks hK hE hN hA
  have jp_92 := q_K_does_92 e below hst k v0 p1 p2 r hx hb hr hml hown hg hlocks hK hE hN hA
  have jp_110 := q_K_does_110 e below hst k v0 p1 p2 r hx hb hr hml hown hg hlocks hK hE hN hA
  have jp_128 := q_K_does_128 e below hst k v0 p1 p2 r hx hb hr hml hown hg hlocks hK hE hN hA
  have jp_162 := q_K_does_162 e below hst k v0 p1 p2 r hx hb hr hml hown hg hlocks hK hE hN hA
  have jp_235 := q_K_does_235 e below hst k v0 p1 p2 r hx hb hr hml hown hg hlocks hK hE hN hA
  unfold F_K_does at hf
  have hc : 0 ≤ 2397 := Nat.zero_le _
  have hP : va_P E.1 vwCl (W_K E k v0 ++ []) s.heap := by rw [List.append_nil]; exact hP
  have hD : va_D A (W_K E k v0 ++ []) := by rw [List.append_nil]; exact hD
  refine W.eqS (n := 6 * 0) rfl ?_
  refine lv_aload_n hx hb dL_does_0 rfl (lv_at hl 0 rfl) ?_
  obtain ⟨u1, hu1, hf⟩ := bn hf
  refine lk_S (As := [.ref k.1]) (rest := []) (wr := []) hx hb hml hown hg (c_K_state E l hst k v0 u1 hu1) cs_L_state ml_L_284 ⟨⟨rfl, rfl⟩, Nat.le_of_ble_eq_true rfl, Nat.le_of_ble_eq_true rfl⟩ hK hE hN hP hD hS hA (W_Ka E k _ _) rfl hl.1 rfl (Nat.le_of_ble_eq_true rfl) dL_does_1 ⟨by show _ ≤ 2397; omega, by show _ ≤ 6 * 2397; omega⟩ [.long u1.1] rfl (fun H locs hP hD hS => ?_)
  refine lv_lstore_n (lv' := [(3, .long u1.1), (0, .ref k.1), (1, .int p1), (2, .int p2)]) hx hb dL_does_4 rfl hl (by decide) rfl (fun ls hl => ?_)
  refine lv_iconst (v := 1) hx hb dL_does_5 (by decide) ?_
  refine lv_aload_n hx hb dL_does_6 rfl (lv_at hl 1 rfl) ?_
  obtain ⟨u2, hu2, hf⟩ := bn hf
  refine lk_V (As := []) (rest := [.int 1]) (wr := []) hx hb hml hown hg (k_X8_guestCount E l k u1.2 u2 hu2) cy_X8_guestCount ml_L_243 ⟨⟨rfl, rfl⟩, Nat.le_of_ble_eq_true rfl, Nat.le_of_ble_eq_true rfl⟩ hK hE hP hD hS hA (W_Ka E k _ _) rfl rfl rfl hl.1 rfl (Nat.le_of_ble_eq_true rfl) dL_does_7 ⟨by show _ ≤ 2397; omega, by show _ ≤ 6 * 2397; omega⟩ [.int u2, .int 1] rfl (fun H locs hP hD hS => ?_)
  refine cm_max hx hb hml hl.1 hown hg ml_L_258 (Nat.le_of_ble_eq_true rfl) (Nat.le_of_ble_eq_true rfl) ⟨by show _ ≤ 2397; omega, by show _ ≤ 6 * 2397; omega⟩ dL_does_10 ?_
  refine lv_istore (lv' := [(5, .int (if 1 < u2 then u2 else 1)), (3, .long u1.1), (0, .ref k.1), (1, .int p1), (2, .int p2)]) hx hb dL_does_13 hl (by decide) rfl (fun ls hl => ?_)
  refine lv_iload_n hx hb dL_does_15 rfl (lv_at hl 3 rfl) ?_
  refine lv_bipush (v := 15) hx hb dL_does_16 (by decide) ?_
  refine lv_iand hx hb dL_does_18 ?_
  by_cases h0 : (p1 &&& 15) = 0
  · have hf := it h0 hf
    refine lv_tableIn (tgt := 92) hx hb dL_does_19 (by rw [h0]; decide) (by rw [h0]; decide) (off := 73) (by rw [h0]; rfl) (by decide) ?_
    exact jp_92 _ _ _ _ _ _ _ _ hf (by omega) hP hD hS (lv_sub hl [2, 4, 1, 0] rfl)
  have hf := ie h0 hf
  by_cases h1 : (p1 &&& 15) = 1
  · have hf := it h1 hf
    refine lv_tableIn (tgt := 92) hx hb dL_does_19 (by rw [h1]; decide) (by rw [h1]; decide) (off := 73) (by rw [h1]; rfl) (by decide) ?_
    exact jp_92 _ _ _ _ _ _ _ _ hf (by omega) hP hD hS (lv_sub hl [2, 4, 1, 0] rfl)
  have hf := ie h1 hf
  by_cases h2 : (p1 &&& 15) = 2
  · have hf := it h2 hf
    refine lv_tableIn (tgt := 92) hx hb dL_does_19 (by rw [h2]; decide) (by rw [h2]; decide) (off := 73) (by rw [h2]; rfl) (by decide) ?_
    exact jp_92 _ _ _ _ _ _ _ _ hf (by omega) hP hD hS (lv_sub hl [2, 4, 1, 0] rfl)
  have hf := ie h2 hf
  by_cases h3 : (p1 &&& 15) = 3
  · have hf := it h3 hf
    refine lv_tableIn (tgt := 110) hx hb dL_does_19 (by rw [h3]; decide) (by rw [h3]; decide) (off := 91) (by rw [h3]; rfl) (by decide) ?_
    exact jp_110 _ _ _ _ _ _ _ _ hf (by omega) hP hD hS (lv_sub hl [2, 4, 1, 0] rfl)
  have hf := ie h3 hf
  by_cases h4 : (p1 &&& 15) = 4
  · have hf := it h4 hf
    refine lv_tableIn (tgt := 110) hx hb dL_does_19 (by rw [h4]; decide) (by rw [h4]; decide) (off := 91) (by rw [h4]; rfl) (by decide) ?_
    exact jp_110 _ _ _ _ _ _ _ _ hf (by omega) hP hD hS (lv_sub hl [2, 4, 1, 0] rfl)
  have hf := ie h4 hf
  by_cases h5 : (p1 &&& 15) = 5
  · have hf := it h5 hf
    refine lv_tableIn (tgt := 128) hx hb dL_does_19 (by rw [h5]; decide) (by rw [h5]; decide) (off := 109) (by rw [h5]; rfl) (by decide) ?_
    exact jp_128 _ _ _ _ _ _ _ hf (by omega) hP hD hS (lv_sub hl [2, 4, 1] rfl)
  have hf := ie h5 hf
  by_cases h6 : (p1 &&& 15) = 6
  · have hf := it h6 hf
    refine lv_tableIn (tgt := 128) hx hb dL_does_19 (by rw [h6]; decide) (by rw [h6]; decide) (off := 109) (by rw [h6]; rfl) (by decide) ?_
    exact jp_128 _ _ _ _ _ _ _ hf (by omega) hP hD hS (lv_sub hl [2, 4, 1] rfl)
  have hf := ie h6 hf
  by_cases h7 : (p1 &&& 15) = 7
  · have hf := it h7 hf
    refine lv_tableIn (tgt := 128) hx hb dL_does_19 (by rw [h7]; decide) (by rw [h7]; decide) (off := 109) (by rw [h7]; rfl) (by decide) ?_
    exact jp_128 _ _ _ _ _ _ _ hf (by omega) hP hD hS (lv_sub hl [2, 4, 1] rfl)
  have hf := ie h7 hf
  by_cases h8 : (p1 &&& 15) = 8
  · have hf := it h8 hf
    refine lv_tableIn (tgt := 128) hx hb dL_does_19 (by rw [h8]; decide) (by rw [h8]; decide) (off := 109) (by rw [h8]; rfl) (by decide) ?_
    exact jp_128 _ _ _ _ _ _ _ hf (by omega) hP hD hS (lv_sub hl [2, 4, 1] rfl)
  have hf := ie h8 hf
  by_cases h9 : (p1 &&& 15) = 9
  · have hf := it h9 hf
    refine lv_tableIn (tgt := 144) hx hb dL_does_19 (by rw [h9]; decide) (by rw [h9]; decide) (off := 125) (by rw [h9]; rfl) (by decide) ?_
    refine lv_aload_n hx hb dL_does_144 rfl (lv_at hl 2 rfl) ?_
    refine lv_iconst (v := 5) hx hb dL_does_145 (by decide) ?_
    refine lv_iload_n hx hb dL_does_146 rfl (lv_at hl 4 rfl) ?_
    refine lv_sipush (v := 255) hx hb dL_does_147 (by decide) ?_
    refine lv_iand hx hb dL_does_150 ?_
    refine lv_iload hx hb dL_does_151 (lv_at hl 0 rfl) ?_
    obtain ⟨h0, hf⟩ := cn_o hf
    refine lv_irem hx hb dL_does_153 h0 ?_
    obtain ⟨u3, hu3, hf⟩ := bn hf
    refine lk_S (As := [.ref k.1, .int 5, .int ((p2 &&& 255) - (p2 &&& 255) / (if 1 < u2 then u2 else 1) * (if 1 < u2 then u2 else 1))]) (rest := []) (wr := []) hx hb hml hown hg (c_K_call__ E l hst k u1.2 5 ((p2 &&& 255) - (p2 &&& 255) / (if 1 < u2 then u2 else 1) * (if 1 < u2 then u2 else 1)) u3 hu3) cs_L_call__ ml_L_171 ⟨⟨rfl, rfl⟩, Nat.le_of_ble_eq_true rfl, Nat.le_of_ble_eq_true rfl⟩ hK hE hN hP hD hS hA (W_Ka E k _ _) rfl hl.1 rfl (Nat.le_of_ble_eq_true rfl) dL_does_154 ⟨by show _ ≤ 2397; omega, by show _ ≤ 6 * 2397; omega⟩ [.int u3.1] rfl (fun H locs hP hD hS => ?_)
    refine lv_istore (lv' := [(6, .int u3.1), (5, .int (if 1 < u2 then u2 else 1)), (3, .long u1.1), (0, .ref k.1), (1, .int p1), (2, .int p2)]) hx hb dL_does_157 hl (by decide) rfl (fun ls hl => ?_)
    refine lv_goto (tgt := 266) hx hb dL_does_159 (by decide) ?_
    exact jp_266 _ _ _ _ _ _ _ hf (by omega) hP hD hS (lv_sub hl [3, 2, 0] rfl)
  have hf := ie h9 hf
  by_cases h10 : (p1 &&& 15) = 10
  · have hf := it h10 hf
    refine lv_tableIn (tgt := 162) hx hb dL_does_19 (by rw [h10]; decide) (by rw [h10]; decide) (off := 143) (by rw [h10]; rfl) (by decide) ?_
    exact jp_162 _ _ _ _ _ _ _ hf (by omega) hP hD hS (lv_sub hl [2, 4, 1] rfl)
  have hf := ie h10 hf
  by_cases h11 : (p1 &&& 15) = 11
  · have hf := it h11 hf
    refine lv_tableIn (tgt := 162) hx hb dL_does_19 (by rw [h11]; decide) (by rw [h11]; decide) (off := 143) (by rw [h11]; rfl) (by decide) ?_
    exact jp_162 _ _ _ _ _ _ _ hf (by omega) hP hD hS (lv_sub hl [2, 4, 1] rfl)
  have hf := ie h11 hf
  by_cases h12 : (p1 &&& 15) = 12
  · have hf := it h12 hf
    refine lv_tableIn (tgt := 181) hx hb dL_does_19 (by rw [h12]; decide) (by rw [h12]; decide) (off := 162) (by rw [h12]; rfl) (by decide) ?_
    refine lv_aload_n hx hb dL_does_181 rfl (lv_at hl 2 rfl) ?_
    refine lv_bipush (v := 7) hx hb dL_does_182 (by decide) ?_
    refine lv_iload_n hx hb dL_does_184 rfl (lv_at hl 4 rfl) ?_
    refine lv_sipush (v := 1023) hx hb dL_does_185 (by decide) ?_
    refine lv_iand hx hb dL_does_188 ?_
    obtain ⟨u4, hu4, hf⟩ := bn hf
    refine lk_S (As := [.ref k.1, .int 7, .int (p2 &&& 1023)]) (rest := []) (wr := []) hx hb hml hown hg (c_K_call__ E l hst k u1.2 7 (p2 &&& 1023) u4 hu4) cs_L_call__ ml_L_171 ⟨⟨rfl, rfl⟩, Nat.le_of_ble_eq_true rfl, Nat.le_of_ble_eq_true rfl⟩ hK hE hN hP hD hS hA (W_Ka E k _ _) rfl hl.1 rfl (Nat.le_of_ble_eq_true rfl) dL_does_189 ⟨by show _ ≤ 2397; omega, by show _ ≤ 6 * 2397; omega⟩ [.int u4.1] rfl (fun H locs hP hD hS => ?_)
    refine lv_istore (lv' := [(6, .int u4.1), (5, .int (if 1 < u2 then u2 else 1)), (3, .long u1.1), (0, .ref k.1), (1, .int p1), (2, .int p2)]) hx hb dL_does_192 hl (by decide) rfl (fun ls hl => ?_)
    refine lv_goto (tgt := 266) hx hb dL_does_194 (by decide) ?_
    exact jp_266 _ _ _ _ _ _ _ hf (by omega) hP hD hS (lv_sub hl [3, 2, 0] rfl)
  have hf := ie h12 hf
  by_cases h13 : (p1 &&& 15) = 13
  · have hf := it h13 hf
    refine lv_tableIn (tgt := 197) hx hb dL_does_19 (by rw [h13]; decide) (by rw [h13]; decide) (off := 178) (by rw [h13]; rfl) (by decide) ?_
    refine lv_aload_n hx hb dL_does_197 rfl (lv_at hl 2 rfl) ?_
    refine lv_iconst (v := 1) hx hb dL_does_198 (by decide) ?_
    refine lv_iload_n hx hb dL_does_199 rfl (lv_at hl 4 rfl) ?_
    refine lv_sipush (v := 255) hx hb dL_does_200 (by decide) ?_
    refine lv_iand hx hb dL_does_203 ?_
    refine lv_iload hx hb dL_does_204 (lv_at hl 0 rfl) ?_
    obtain ⟨h0, hf⟩ := cn_o hf
    refine lv_irem hx hb dL_does_206 h0 ?_
    refine lv_iload_n hx hb dL_does_207 rfl (lv_at hl 4 rfl) ?_
    refine lv_iconst (v := 3) hx hb dL_does_208 (by decide) ?_
    refine lv_ishr hx hb dL_does_209 ?_
    refine lv_bipush (v := 127) hx hb dL_does_210 (by decide) ?_
    refine lv_iand hx hb dL_does_212 ?_
    obtain ⟨u5, hu5, hf⟩ := bn hf
    refine lk_S (As := [.ref k.1, .int 1, .int ((p2 &&& 255) - (p2 &&& 255) / (if 1 < u2 then u2 else 1) * (if 1 < u2 then u2 else 1)), .int ((p2 >>> (3 &&& 31)) &&& 127)]) (rest := []) (wr := []) hx hb hml hown hg (c_K_call_ E l hst k u1.2 1 ((p2 &&& 255) - (p2 &&& 255) / (if 1 < u2 then u2 else 1) * (if 1 < u2 then u2 else 1)) ((p2 >>> (3 &&& 31)) &&& 127) u5 hu5) cs_L_call_ ml_L_252 ⟨⟨rfl, rfl⟩, Nat.le_of_ble_eq_true rfl, Nat.le_of_ble_eq_true rfl⟩ hK hE hN hP hD hS hA (W_Ka E k _ _) rfl hl.1 rfl (Nat.le_of_ble_eq_true rfl) dL_does_213 ⟨by show _ ≤ 2397; omega, by show _ ≤ 6 * 2397; omega⟩ [.int u5.1] rfl (fun H locs hP hD hS => ?_)
    refine lv_istore (lv' := [(6, .int u5.1), (5, .int (if 1 < u2 then u2 else 1)), (3, .long u1.1), (0, .ref k.1), (1, .int p1), (2, .int p2)]) hx hb dL_does_216 hl (by decide) rfl (fun ls hl => ?_)
    refine lv_goto (tgt := 266) hx hb dL_does_218 (by decide) ?_
    exact jp_266 _ _ _ _ _ _ _ hf (by omega) hP hD hS (lv_sub hl [3, 2, 0] rfl)
  have hf := ie h13 hf
  by_cases h14 : (p1 &&& 15) = 14
  · have hf := it h14 hf
    refine lv_tableIn (tgt := 221) hx hb dL_does_19 (by rw [h14]; decide) (by rw [h14]; decide) (off := 202) (by rw [h14]; rfl) (by decide) ?_
    refine lv_aload_n hx hb dL_does_221 rfl (lv_at hl 2 rfl) ?_
    refine lv_iload_n hx hb dL_does_222 rfl (lv_at hl 4 rfl) ?_
    refine lv_iconst (v := 1) hx hb dL_does_223 (by decide) ?_
    refine lv_iand hx hb dL_does_224 ?_
    refine lv_if_ne (tgt := 233) hx hb dL_does_225 (by decide) (fun cq => ?_) (fun cq => ?_)
    · have hf := ie cq hf
      refine lv_bipush (v := 10) hx hb dL_does_233 (by decide) ?_
      exact jp_235 _ _ _ _ _ _ _ _ hf (by omega) hP hD hS (lv_sub hl [2, 4, 1] rfl)
    · have hf := it cq hf
      refine lv_bipush (v := 9) hx hb dL_does_228 (by decide) ?_
      refine lv_goto (tgt := 235) hx hb dL_does_230 (by decide) ?_
      exact jp_235 _ _ _ _ _ _ _ _ hf (by omega) hP hD hS (lv_sub hl [2, 4, 1] rfl)
  have hf := ie h14 hf
  refine lv_tableOut (tgt := 248) hx hb dL_does_19 (sw_out (n := 15) fun j hj => ?_) (by decide) ?_
  · match j, hj with
    | 0, _ => exact h0
    | 1, _ => exact h1
    | 2, _ => exact h2
    | 3, _ => exact h3
    | 4, _ => exact h4
    | 5, _ => exact h5
    | 6, _ => exact h6
    | 7, _ => exact h7
    | 8, _ => exact h8
    | 9, _ => exact h9
    | 10, _ => exact h10
    | 11, _ => exact h11
    | 12, _ => exact h12
    | 13, _ => exact h13
    | 14, _ => exact h14
    | j + 15, hj => exact absurd hj (by omega)
  · skip
    refine lv_aload_n hx hb dL_does_248 rfl (lv_at hl 2 rfl) ?_
    refine lv_bipush (v := 8) hx hb dL_does_249 (by decide) ?_
    refine lv_iconst (v := 0) hx hb dL_does_251 (by decide) ?_
    obtain ⟨u6, hu6, hf⟩ := bn hf
    refine lk_S (As := [.ref k.1, .int 8, .int 0]) (rest := []) (wr := []) hx hb hml hown hg (c_K_call__ E l hst k u1.2 8 0 u6 hu6) cs_L_call__ ml_L_171 ⟨⟨rfl, rfl⟩, Nat.le_of_ble_eq_true rfl, Nat.le_of_ble_eq_true rfl⟩ hK hE hN hP hD hS hA (W_Ka E k _ _) rfl hl.1 rfl (Nat.le_of_ble_eq_true rfl) dL_does_252 ⟨by show _ ≤ 2397; omega, by show _ ≤ 6 * 2397; omega⟩ [.int u6.1] rfl (fun H locs hP hD hS => ?_)
    refine lv_bipush (v := (-104)) hx hb dL_does_255 (by decide) ?_
    refine lv_icmp_eq (tgt := 264) hx hb dL_does_257 (by decide) (fun cq => ?_) (fun cq => ?_)
    · have hf := it cq hf
      refine lv_iconst (v := 0) hx hb dL_does_264 (by decide) ?_
      obtain rfl := Option.some.inj hf
      exact lm_yret (v := 0) hx hb hr rfl hlocks (lk_P1 hP) hS dL_does_265 (by omega) (by omega)
    · have hf := ie cq hf
      refine lv_iconst (v := 1) hx hb dL_does_260 (by decide) ?_
      refine lv_goto (tgt := 265) hx hb dL_does_261 (by decide) ?_
      obtain rfl := Option.some.inj hf
      exact lm_yret (v := 1) hx hb hr rfl hlocks (lk_P1 hP) hS dL_does_265 (by omega) (by omega)
