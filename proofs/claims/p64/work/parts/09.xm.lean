/-! methods that may throw: contract XM (o: 0 it returns, else which exception), calls, ends, throws-/
def XK (o : Nat) : String := castX.getD (o - 1) ""
def QX (E : Ev) (o : Nat) (v : Option Value) (bs' : va_W) (A : Nat → Prop) : Array Value → State → Outcome → State → Prop := fun a st oc t => o = 0 ∧ QW E v bs' A a st oc t
def XX (E : Ev) (o : Nat) (bs' : va_W) (A : Nat → Prop) : String → State → State → Prop := fun En st t => 0 < o ∧ En = XK o ∧ va_P E.1 vwCl bs' t.heap ∧ va_F A st t
def XM (E : Ev) (l : Launch) (y : MethodName) (ws : List Cond) (rm : Room) (as : List Value) (bs : va_W) (o : Nat) (v : Option Value) (bs' : va_W) (n : Nat) : Prop :=
  ∀ sz : Nat, vx_Met l y ws rm (va_Pc as (PW E bs sz)) (QX E o v bs' (va_A bs sz)) (XX E o bs' (va_A bs sz)) n (6 * n) (va_A bs sz)
section
variable {p : Program} {l : Launch} {e : Env} {R : Room} {s : State} {m : MethodId} {args : Array Value} {below : List Frame} {meth : Method} {c : Code} {H : Heap} {locs : List Loc} {cells slots : Nat} {Q : State → Prop}
variable {pc : Nat} {ls : Array Slot} {rest st0 : List Value} {a : Array Value} {A : Nat → Prop} {E : Ev} {cc : ByteArray} {mc ms : Nat}
theorem xm_go {o : Nat} {v : Option Value} {bs' : va_W} {A1 : Nat → Prop} {free : Addr → Prop} (hr : vx_Run p l e R s m args below meth c H locs cells slots mc ms (F0 m pc ls st0) rest (QX E o v bs' A1 a) (XX E o bs' A1) free) (hS : va_S A s.heap H locs) (hA : ∀ q, q < H.size → A1 q → A q) (hf : ∀ q, free q → A q)
    (kk : o = 0 → ∀ (H1 : Heap) (locs1 : List Loc), va_P E.1 vwCl bs' H1 → (∀ q : Nat, q < H.size → ¬ A1 q → H1[q]? = H[q]?) → va_S A s.heap H1 locs1 → W p l e R s m args below meth c H1 locs1 (cells + mc) (slots + ms) Q (F0 m (pc + 3) ls (v.toList ++ rest)))
    (kx : 0 < o → ∀ (H1 : Heap) (locs1 : List Loc) (ce : Cell) (q9 : Addr), va_P E.1 vwCl bs' H1 → (∀ q : Nat, q < H.size → ¬ A1 q → H1[q]? = H[q]?) → va_S A s.heap H1 locs1 → H1[q9]? = some ce → ce.vm = .none → s.vm.findClass (XK o) = some ce.cls → vx_W p l e R s m args below meth c H1 locs1 (cells + mc) (slots + ms) Q (F0 m pc ls rest) q9) : W p l e R s m args below meth c H locs cells slots Q (F0 m pc ls st0) := by
  intro T hT X
  rcases hr T hT X with ⟨v9, st₀, t, T', L, h0, X', hL, e1, e2, ⟨ho, hv, hb, hF⟩, st⟩ | ⟨q, st₀, t, T', L, E9, ce, h0, X', hL, e1, e2, ⟨ho, hE9, hb, hF⟩, hce, hcv, hcl, st⟩
  · cases hv
    obtain ⟨k1, k2, k3⟩ := vx_keep h0 e1 hS hA hf hL hF
    obtain ⟨t2, a1, b1⟩ := kk ho T'.heap (locs ++ L) (by rw [e1]; exact hb) k2 k3 T' rfl X'
    exact ⟨t2, st t2 a1, b1⟩
  · obtain ⟨k1, k2, k3⟩ := vx_keep h0 e1 hS hA hf hL hF
    obtain ⟨t2, a1, b1⟩ := kx ho T'.heap (locs ++ L) ce q (by rw [e1]; exact hb) k2 k3 (by rw [e1]; exact hce) hcv (by rw [← hE9]; exact hcl) T' rfl X'
    exact ⟨t2, st.trans a1, b1⟩
/-- a method that may throw is called -/
theorem xm_V {own C : String} {index n maxL nL k o : Nat} {y : MethodName} {bytes : ByteArray} {ret : Option FieldType} {rm : Room} {b : Nat} {As : List Value} {w1 w2 bs bs' : va_W} {v : Option Value}
    (hx : p.tables.exec = Jvm.exec) (hb : c.code = cc) (hml : c.maxLocals = nL) (hown : s.vm.findClass own = some m.cls) (hg : ∀ w ∈ GA, w.before args s = true)
    (hM : XM E l y (.code y bytes maxL ret :: GA) rm (.ref b :: As) bs o v bs' k) (cy : CY y C bytes maxL ret n) (hlk : Cond.methodLink own index y ∈ GA)
    (hrm : (rm.cells = k ∧ rm.slots = 6 * k) ∧ rm.frames + 1 ≤ R.frames ∧ 8 + (maxL + 11) + rm.locals ≤ R.locals)
    (hK : KX E s) (hE : EX E A s s.heap) (hP : va_P E.1 vwCl w1 H) (hD : va_D A w1) (hS : va_S A s.heap H locs) (hA : ∀ q, s.heap.size ≤ q → A q)
    (mk : List Bool) (hpk : bk_pick mk w1 = bs) (hmx : bk_mix mk w1 bs' = w2) (hadr : bs'.map Prod.fst = bs.map Prod.fst)
    (q0 : Nat) {ci : Nat} {fs : List Value} {T : u_T} {N : Nat} (hq : w1[q0]? = some (b, .inr (ci, fs))) (hci : vwCl[ci]? = some (C, T, N))
    (hn : As.length = n) (hsize : ls.size = nL) (hst : st0 = As.reverse ++ .ref b :: rest) (hW : (rest.map fun v => v.category).sum ≤ 8) (hdg : decode cc pc = .ok (.invokevirtual index, 3)) (hc : cells + k ≤ R.cells ∧ slots + 6 * k ≤ R.slots)
    (st1 : List Value) (hs1 : v.toList ++ rest = st1) (kk : o = 0 → ∀ (H1 : Heap) (locs1 : List Loc), va_P E.1 vwCl w2 H1 → va_D A w2 → va_S A s.heap H1 locs1 → W p l e R s m args below meth c H1 locs1 (cells + k) (slots + 6 * k) Q (F0 m (pc + 3) ls st1))
    (kx : 0 < o → ∀ (H1 : Heap) (locs1 : List Loc) (ce : Cell) (q9 : Addr), va_P E.1 vwCl w2 H1 → va_D A w2 → va_S A s.heap H1 locs1 → H1[q9]? = some ce → ce.vm = .none → s.vm.findClass (XK o) = some ce.cls → vx_W p l e R s m args below meth c H1 locs1 (cells + k) (slots + 6 * k) Q (F0 m pc ls rest) q9) : W p l e R s m args below meth c H locs cells slots Q (F0 m pc ls st0) := by
  obtain ⟨y1, ⟨y2, y3⟩, y4, y5, y6⟩ := cy
  have hFc := bk_free mk hD hS hA hpk
  have hG : GoodIn GA (wsV own index C y (.code y bytes maxL ret :: GA)) := by
    intro w hw
    simp only [wsV, List.cons_append, List.nil_append, List.mem_cons] at hw
    rcases hw with rfl | rfl | rfl | rfl | rfl | hw
    · exact GA_good _ hlk
    · exact GA_good _ y2
    · exact GA_good _ y3
    · exact GA_good _ y4
    · exact GA_good _ y1
    · exact GA_good _ hw
  refine xm_go (vx_runV (As := As) (rest := rest) (n := n) ⟨hx, hb, hml, hown, hg⟩ (hM H.size) (cwV (C := C) n hg hG rfl hrm.1.1 hrm.1.2 ⟨y5, y6⟩ hrm.2) ⟨PW.blind, va_recv hK.1 hP hci hq, fun U hU hW => ⟨rfl, PW.of mk hK hE hP hD hS hA hpk hU hW⟩⟩ rfl hn hsize hst (lv_room hW) hdg hc) hS (fun q _ h => hFc q h) hFc (fun h0 H1 locs1 hP1 hk1 hS1 => ?_) (fun h0 H1 locs1 ce q9 hP1 hk1 hS1 hce hcv hcl => ?_)
  · obtain ⟨hP2, hD2⟩ := bk_join mk hP hD hpk hmx hadr hk1 hP1
    rw [hs1]
    exact kk h0 H1 locs1 hP2 hD2 hS1
  · obtain ⟨hP2, hD2⟩ := bk_join mk hP hD hpk hmx hadr hk1 hP1
    exact kx h0 H1 locs1 ce q9 hP2 hD2 hS1 hce hcv hcl
theorem xm_out {o : Nat} {v : Option Value} {bs' : va_W} {ce : Cell} {q : Addr} (hout : ∀ x ∈ c.exceptionTable.toList, False) (hlocks : meth.locks = false) (ho : 0 < o) (hce : H[q]? = some ce) (hcv : ce.vm = .none) (hcl : s.vm.findClass (XK o) = some ce.cls) (hP : va_P E.1 vwCl bs' H) (hS : va_S A s.heap H locs) (hc : cells ≤ mc) (hs : slots ≤ ms) :
    vx_W p l e R s m args below meth c H locs cells slots (vx_MQ below (QX E o v bs' A) (XX E o bs' A) args s mc ms A) (F0 m pc ls rest) q :=
  vx_out (fun x hx => (hout x hx).elim) hlocks hce hcv hcl (fun t ht _ => ⟨ho, rfl, by rw [ht]; exact hP, hS.F ht⟩) hS.2.2 hc hs
theorem xm_yret {o : Nat} {ty : FieldType} {v : Int32} {bs' : va_W} {XC : String → State → State → Prop} (ho : o = 0) (hx : p.tables.exec = Jvm.exec) (hb : c.code = cc) (hr : meth.sig.returnType = some ty) (hlocks : meth.locks = false) (hP : va_P E.1 vwCl bs' H) (hS : va_S A s.heap H locs) (hn : narrow ty (.int v) = .int v) (hdg : decode cc pc = .ok (.ireturn, 1)) (hc : cells ≤ mc) (hs : slots ≤ ms) : W p l e R s m args below meth c H locs cells slots (vx_MQ below (QX E o (some (.int v)) bs' A) XC args s mc ms A) (F0 m pc ls [.int v]) :=
  W.widen hc hs (vx_ret (W.zret hx hb hr hn (fun t ht _ => ⟨ho, rfl, by rw [ht]; exact hP, hS.F ht⟩) hS.2.2 hdg hlocks))
theorem xm_vret {o : Nat} {bs' : va_W} {XC : String → State → State → Prop} (ho : o = 0) (hx : p.tables.exec = Jvm.exec) (hb : c.code = cc) (hr : meth.sig.returnType = none) (hlocks : meth.locks = false) (hP : va_P E.1 vwCl bs' H) (hS : va_S A s.heap H locs) (hdg : decode cc pc = .ok (.return_, 1)) (hc : cells ≤ mc) (hs : slots ≤ ms) : W p l e R s m args below meth c H locs cells slots (vx_MQ below (QX E o none bs' A) XC args s mc ms A) (F0 m pc ls []) :=
  W.widen hc hs (vx_ret (W.vret hx hb hr (fun t ht _ => ⟨ho, rfl, by rw [ht]; exact hP, hS.F ht⟩) hS.2.2 hdg hlocks))
end
/-- the words of a throw: in GA, or among those that EX keeps -/
def exq (w : Cond) : Bool := goodWord w || castX.any (fun C => decide (w = .castable C C)) || declX.any (fun x => decide (w = .declares x))
theorem exq_at {E : Ev} {A : Nat → Prop} {s : State} {args : Array Value} {L : List Cond} (hE : EX E A s s.heap) (hg : ∀ w ∈ GA, w.before args s = true) (h1 : L.all exq = true) (ps : List Nat) (h2 : L.filter goodWord = ps.filterMap (fun i => lw_tbl[i]?)) : ∀ w ∈ L, w.before args s = true := by
  intro w hw
  by_cases g : goodWord w = true
  · have h3 : w ∈ L.filter goodWord := List.mem_filter.mpr ⟨hw, g⟩
    rw [h2] at h3
    obtain ⟨i, -, hi⟩ := List.mem_filterMap.mp h3
    exact hg w (GA_of (List.mem_of_getElem? hi) g)
  · have h4 := List.all_eq_true.mp h1 w hw
    simp only [exq, Bool.or_eq_true, List.any_eq_true, decide_eq_true_eq] at h4
    rcases h4 with (h4 | ⟨C, hC, rfl⟩) | ⟨x, hx, rfl⟩
    · exact absurd h4 g
    · exact va_Nw.use rfl (hE.2.2.2.2.2.2.1 C hC)
    · exact va_Nw.use rfl (hE.2.2.2.2.2.2.2.1 x hx)
set_option maxRecDepth 100000 in
theorem at1_1 : (vx_atS RX8 72 "java/lang/IllegalStateException" ["java/lang/RuntimeException", "java/lang/Exception"]).all exq = true := by decide +kernel
set_option maxRecDepth 100000 in
theorem at2_1 : (vx_atS RX8 72 "java/lang/IllegalStateException" ["java/lang/RuntimeException", "java/lang/Exception"]).filter goodWord = ([35, 527, 536, 541, 544, 546, 528, 529, 55, 56, 530, 535, 542, 562, 517, 563, 519, 564, 521, 531, 533, 523, 558, 559, 561, 523, 590, 591, 592, 552, 552, 553, 554, 555, 555, 556, 557, 558, 589, 580, 582, 538, 583, 584, 585, 586, 560, 525, 587] : List Nat).filterMap (fun i => lw_tbl[i]?) := by decide +kernel
theorem at3_1 : Cond.classLink RX8 68 "java/lang/IllegalStateException" ∈ GA := GA_of (tb3 (List.mem_of_getElem? (i := 79) (by decide +kernel))) (by decide +kernel)
theorem at4_1 : Cond.initialized "java/lang/IllegalStateException" ∈ GA := GA_of (tb1 (List.mem_of_getElem? (i := 19) (by decide +kernel))) (by decide +kernel)
set_option maxRecDepth 100000 in
theorem at5_1 : ∀ w ∈ Cond.classLink RX8 68 "java/lang/IllegalStateException" :: Cond.initialized "java/lang/IllegalStateException" :: (vx_atS RX8 72 "java/lang/IllegalStateException" ["java/lang/RuntimeException", "java/lang/Exception"]), vx_ot w = true := List.all_eq_true.mp (by decide +kernel)
theorem xm_throw1 {p : Program} {l : Launch} {e : Env} {R : Room} {s : State} {m : MethodId} {args : Array Value} {below : List Frame} {meth : Method} {c : Code} {H : Heap} {locs : List Loc} {cells slots : Nat} {pc : Nat} {ls : Array Slot} {rest : List Value} {A : Nat → Prop} {E : Ev} {cc : ByteArray} {mc ms o is i nL : Nat} {text : String} {v : Option Value} {bs' : va_W}
    (ho : o = 1) (hx : p.tables.exec = Jvm.exec) (hb : c.code = cc) (hml : c.maxLocals = nL) (hsize : ls.size = nL) (hst : l.stackTraces = false) (hown : s.vm.findClass RX8 = some m.cls) (hg : ∀ w ∈ GA, w.before args s = true) (hE : EX E A s s.heap) (hs : ("NightPorter", is, text, i) ∈ SRl) (hout : ∀ x ∈ c.exceptionTable.toList, False) (hlocks : meth.locks = false) (hP : va_P E.1 vwCl bs' H) (hS : va_S A s.heap H locs)
    (d0 : decode cc pc = .ok (.new 68, 3)) (d3 : decode cc (pc + 3) = .ok (.dup, 1)) (d4 : decode cc (pc + 4) = .ok (.ldc is, 2)) (d6 : decode cc (pc + 6) = .ok (.invokespecial 72, 3)) (d9 : decode cc (pc + 9) = .ok (.athrow, 1))
    (hfr : 5 < R.frames) (hlo : (rest.map fun v => v.category).sum + 82 ≤ R.locals) (hRc : cells + 1 ≤ R.cells) (hRs : slots + 6 ≤ R.slots) (hc : cells + 1 ≤ mc) (hs2 : slots + 6 ≤ ms) : W p l e R s m args below meth c H locs cells slots (vx_MQ below (QX E o v bs' A) (XX E o bs' A) args s mc ms A) (F0 m pc ls rest) := by
  subst ho
  exact vx_throwS hx hb hst (A := A) (cls := "java/lang/IllegalStateException") (text := text) (names := ["java/lang/RuntimeException", "java/lang/Exception"]) (own := RX8) (ik := 68) (is := is) (ic := 72) (sa := E.2.2.2.2.2.1 i) hown (by decide +kernel) (by decide +kernel) (hg _ at3_1) (hg _ at4_1) (hE.2.2.2.2.2.1 _ hs) (exq_at hE hg at1_1 _ at2_1) at5_1 hE.2.2.2.1 hE.2.2.2.2.1 hS (hsize.trans hml.symm) d0 d3 d4 d6 d9 (fun x hx => (hout x hx).elim) hfr hlo hRc hRs hlocks
    (fun t hW hz hq => ⟨by decide, rfl, hP.kept (fun k q hk => hq q.1 (hP k q hk).lt), ⟨Nat.le_trans hS.1 hz, fun q h1 h2 => by rw [hq q (Nat.lt_of_lt_of_le h1 hS.1)]; exact hS.2.1 q h1 h2⟩⟩) hS.2.2 hc hs2
set_option maxRecDepth 100000 in
theorem at1_2 : (vx_atS RX8 82 "java/lang/IllegalArgumentException" ["java/lang/RuntimeException", "java/lang/Exception"]).all exq = true := by decide +kernel
set_option maxRecDepth 100000 in
theorem at2_2 : (vx_atS RX8 82 "java/lang/IllegalArgumentException" ["java/lang/RuntimeException", "java/lang/Exception"]).filter goodWord = ([35, 527, 536, 541, 544, 546, 528, 529, 55, 56, 530, 535, 542, 562, 517, 563, 519, 564, 521, 531, 533, 523, 558, 559, 561, 523, 549, 550, 551, 552, 552, 553, 554, 555, 555, 556, 557, 558, 548, 506, 514, 515, 516, 518, 520, 522, 560, 525, 524] : List Nat).filterMap (fun i => lw_tbl[i]?) := by decide +kernel
theorem at3_2 : Cond.classLink RX8 78 "java/lang/IllegalArgumentException" ∈ GA := GA_of (tb3 (List.mem_of_getElem? (i := 5) (by decide +kernel))) (by decide +kernel)
theorem at4_2 : Cond.initialized "java/lang/IllegalArgumentException" ∈ GA := GA_of (tb1 (List.mem_of_getElem? (i := 18) (by decide +kernel))) (by decide +kernel)
set_option maxRecDepth 100000 in
theorem at5_2 : ∀ w ∈ Cond.classLink RX8 78 "java/lang/IllegalArgumentException" :: Cond.initialized "java/lang/IllegalArgumentException" :: (vx_atS RX8 82 "java/lang/IllegalArgumentException" ["java/lang/RuntimeException", "java/lang/Exception"]), vx_ot w = true := List.all_eq_true.mp (by decide +kernel)
theorem xm_throw2 {p : Program} {l : Launch} {e : Env} {R : Room} {s : State} {m : MethodId} {args : Array Value} {below : List Frame} {meth : Method} {c : Code} {H : Heap} {locs : List Loc} {cells slots : Nat} {pc : Nat} {ls : Array Slot} {rest : List Value} {A : Nat → Prop} {E : Ev} {cc : ByteArray} {mc ms o is i nL : Nat} {text : String} {v : Option Value} {bs' : va_W}
    (ho : o = 2) (hx : p.tables.exec = Jvm.exec) (hb : c.code = cc) (hml : c.maxLocals = nL) (hsize : ls.size = nL) (hst : l.stackTraces = false) (hown : s.vm.findClass RX8 = some m.cls) (hg : ∀ w ∈ GA, w.before args s = true) (hE : EX E A s s.heap) (hs : ("NightPorter", is, text, i) ∈ SRl) (hout : ∀ x ∈ c.exceptionTable.toList, False) (hlocks : meth.locks = false) (hP : va_P E.1 vwCl bs' H) (hS : va_S A s.heap H locs)
    (d0 : decode cc pc = .ok (.new 78, 3)) (d3 : decode cc (pc + 3) = .ok (.dup, 1)) (d4 : decode cc (pc + 4) = .ok (.ldc is, 2)) (d6 : decode cc (pc + 6) = .ok (.invokespecial 82, 3)) (d9 : decode cc (pc + 9) = .ok (.athrow, 1))
    (hfr : 5 < R.frames) (hlo : (rest.map fun v => v.category).sum + 82 ≤ R.locals) (hRc : cells + 1 ≤ R.cells) (hRs : slots + 6 ≤ R.slots) (hc : cells + 1 ≤ mc) (hs2 : slots + 6 ≤ ms) : W p l e R s m args below meth c H locs cells slots (vx_MQ below (QX E o v bs' A) (XX E o bs' A) args s mc ms A) (F0 m pc ls rest) := by
  subst ho
  exact vx_throwS hx hb hst (A := A) (cls := "java/lang/IllegalArgumentException") (text := text) (names := ["java/lang/RuntimeException", "java/lang/Exception"]) (own := RX8) (ik := 78) (is := is) (ic := 82) (sa := E.2.2.2.2.2.1 i) hown (by decide +kernel) (by decide +kernel) (hg _ at3_2) (hg _ at4_2) (hE.2.2.2.2.2.1 _ hs) (exq_at hE hg at1_2 _ at2_2) at5_2 hE.2.2.2.1 hE.2.2.2.2.1 hS (hsize.trans hml.symm) d0 d3 d4 d6 d9 (fun x hx => (hout x hx).elim) hfr hlo hRc hRs hlocks
    (fun t hW hz hq => ⟨by decide, rfl, hP.kept (fun k q hk => hq q.1 (hP k q hk).lt), ⟨Nat.le_trans hS.1 hz, fun q h1 h2 => by rw [hq q (Nat.lt_of_lt_of_le h1 hS.1)]; exact hS.2.1 q h1 h2⟩⟩) hS.2.2 hc hs2
set_option maxRecDepth 100000 in
theorem at1_3 : ((nx_at RX8 98 "java/util/NoSuchElementException" 13 prog_35_method_4_code "java/lang/RuntimeException" ["java/lang/Exception"]).filter vx_no).all exq = true := by decide +kernel
set_option maxRecDepth 100000 in
theorem at2_3 : ((nx_at RX8 98 "java/util/NoSuchElementException" 13 prog_35_method_4_code "java/lang/RuntimeException" ["java/lang/Exception"]).filter vx_no).filter goodWord = ([35, 527, 536, 541, 544, 546, 528, 529, 55, 56, 530, 535, 542, 562, 517, 563, 519, 564, 521, 531, 533, 523, 558, 559, 561, 523, 795, 796, 797, 552, 552, 553, 554, 555, 555, 556, 557, 558, 794, 785, 787, 540, 788, 789, 790, 791, 560, 525, 792] : List Nat).filterMap (fun i => lw_tbl[i]?) := by decide +kernel
theorem at3_3 : Cond.classLink RX8 94 "java/util/NoSuchElementException" ∈ GA := GA_of (tb4 (List.mem_of_getElem? (i := 44) (by decide +kernel))) (by decide +kernel)
theorem at4_3 : Cond.initialized "java/util/NoSuchElementException" ∈ GA := GA_of (tb1 (List.mem_of_getElem? (i := 22) (by decide +kernel))) (by decide +kernel)
set_option maxRecDepth 100000 in
theorem at5_3 : ∀ w ∈ Cond.classLink RX8 94 "java/util/NoSuchElementException" :: Cond.initialized "java/util/NoSuchElementException" :: ((nx_at RX8 98 "java/util/NoSuchElementException" 13 prog_35_method_4_code "java/lang/RuntimeException" ["java/lang/Exception"]).filter vx_no), vx_ot w = true := List.all_eq_true.mp (by decide +kernel)
theorem xm_throw3 {p : Program} {l : Launch} {e : Env} {R : Room} {s : State} {m : MethodId} {args : Array Value} {below : List Frame} {meth : Method} {c : Code} {H : Heap} {locs : List Loc} {cells slots : Nat} {pc : Nat} {ls : Array Slot} {rest : List Value} {A : Nat → Prop} {E : Ev} {cc : ByteArray} {mc ms o is i nL : Nat} {text : String} {v : Option Value} {bs' : va_W}
    (ho : o = 3) (hx : p.tables.exec = Jvm.exec) (hb : c.code = cc) (hml : c.maxLocals = nL) (hsize : ls.size = nL) (hst : l.stackTraces = false) (hown : s.vm.findClass RX8 = some m.cls) (hg : ∀ w ∈ GA, w.before args s = true) (hE : EX E A s s.heap) (hs : ("NightPorter", is, text, i) ∈ SRl) (hout : ∀ x ∈ c.exceptionTable.toList, False) (hlocks : meth.locks = false) (hP : va_P E.1 vwCl bs' H) (hS : va_S A s.heap H locs)
    (d0 : decode cc pc = .ok (.new 94, 3)) (d3 : decode cc (pc + 3) = .ok (.dup, 1)) (d4 : decode cc (pc + 4) = .ok (.ldc is, 2)) (d6 : decode cc (pc + 6) = .ok (.invokespecial 98, 3)) (d9 : decode cc (pc + 9) = .ok (.athrow, 1))
    (hfr : 5 < R.frames) (hlo : (rest.map fun v => v.category).sum + 82 ≤ R.locals) (hRc : cells + 1 ≤ R.cells) (hRs : slots + 6 ≤ R.slots) (hc : cells + 1 ≤ mc) (hs2 : slots + 6 ≤ ms) : W p l e R s m args below meth c H locs cells slots (vx_MQ below (QX E o v bs' A) (XX E o bs' A) args s mc ms A) (F0 m pc ls rest) := by
  subst ho
  exact nx_throwS (A := A) (cls := "java/util/NoSuchElementException") (text := text) (Y0 := "java/lang/RuntimeException") (r0 := ["java/lang/Exception"]) (ix := 13) (rx := prog_35_method_4_code) (own := RX8) (ik := 94) (is := is) (ic := 98) (sa := E.2.2.2.2.2.1 i) hx hb hst (by decide +kernel) (by decide +kernel) (by decide +kernel) (by decide +kernel) hown (by decide +kernel) (by decide +kernel) (hg _ at3_3) (hg _ at4_3) (hE.2.2.2.2.2.1 _ hs) (exq_at hE hg at1_3 _ at2_3) at5_3 hE.2.2.2.1 hE.2.2.2.2.1 hS (hsize.trans hml.symm) d0 d3 d4 d6 d9 (fun x hx => (hout x hx).elim) hfr hlo hRc hRs hlocks
    (fun t hW hz hq => ⟨by decide, rfl, hP.kept (fun k q hk => hq q.1 (hP k q hk).lt), ⟨Nat.le_trans hS.1 hz, fun q h1 h2 => by rw [hq q (Nat.lt_of_lt_of_le h1 hS.1)]; exact hS.2.1 q h1 h2⟩⟩) hS.2.2 hc hs2
set_option maxRecDepth 100000 in
theorem at1_4 : (vx_atS RX8 135 "java/lang/IndexOutOfBoundsException" ["java/lang/RuntimeException", "java/lang/Exception"]).all exq = true := by decide +kernel
set_option maxRecDepth 100000 in
theorem at2_4 : (vx_atS RX8 135 "java/lang/IndexOutOfBoundsException" ["java/lang/RuntimeException", "java/lang/Exception"]).filter goodWord = ([35, 527, 536, 541, 544, 546, 528, 529, 55, 56, 530, 535, 542, 562, 517, 563, 519, 564, 521, 531, 533, 523, 558, 559, 561, 523, 625, 626, 627, 552, 552, 553, 554, 555, 555, 556, 557, 558, 624, 615, 617, 539, 618, 619, 620, 621, 560, 525, 622] : List Nat).filterMap (fun i => lw_tbl[i]?) := by decide +kernel
theorem at3_4 : Cond.classLink RX8 131 "java/lang/IndexOutOfBoundsException" ∈ GA := GA_of (tb3 (List.mem_of_getElem? (i := 114) (by decide +kernel))) (by decide +kernel)
theorem at4_4 : Cond.initialized "java/lang/IndexOutOfBoundsException" ∈ GA := GA_of (tb1 (List.mem_of_getElem? (i := 21) (by decide +kernel))) (by decide +kernel)
set_option maxRecDepth 100000 in
theorem at5_4 : ∀ w ∈ Cond.classLink RX8 131 "java/lang/IndexOutOfBoundsException" :: Cond.initialized "java/lang/IndexOutOfBoundsException" :: (vx_atS RX8 135 "java/lang/IndexOutOfBoundsException" ["java/lang/RuntimeException", "java/lang/Exception"]), vx_ot w = true := List.all_eq_true.mp (by decide +kernel)
theorem xm_throw4 {p : Program} {l : Launch} {e : Env} {R : Room} {s : State} {m : MethodId} {args : Array Value} {below : List Frame} {meth : Method} {c : Code} {H : Heap} {locs : List Loc} {cells slots : Nat} {pc : Nat} {ls : Array Slot} {rest : List Value} {A : Nat → Prop} {E : Ev} {cc : ByteArray} {mc ms o is i nL : Nat} {text : String} {v : Option Value} {bs' : va_W}
    (ho : o = 4) (hx : p.tables.exec = Jvm.exec) (hb : c.code = cc) (hml : c.maxLocals = nL) (hsize : ls.size = nL) (hst : l.stackTraces = false) (hown : s.vm.findClass RX8 = some m.cls) (hg : ∀ w ∈ GA, w.before args s = true) (hE : EX E A s s.heap) (hs : ("NightPorter", is, text, i) ∈ SRl) (hout : ∀ x ∈ c.exceptionTable.toList, False) (hlocks : meth.locks = false) (hP : va_P E.1 vwCl bs' H) (hS : va_S A s.heap H locs)
    (d0 : decode cc pc = .ok (.new 131, 3)) (d3 : decode cc (pc + 3) = .ok (.dup, 1)) (d4 : decode cc (pc + 4) = .ok (.ldc is, 2)) (d6 : decode cc (pc + 6) = .ok (.invokespecial 135, 3)) (d9 : decode cc (pc + 9) = .ok (.athrow, 1))
    (hfr : 5 < R.frames) (hlo : (rest.map fun v => v.category).sum + 82 ≤ R.locals) (hRc : cells + 1 ≤ R.cells) (hRs : slots + 6 ≤ R.slots) (hc : cells + 1 ≤ mc) (hs2 : slots + 6 ≤ ms) : W p l e R s m args below meth c H locs cells slots (vx_MQ below (QX E o v bs' A) (XX E o bs' A) args s mc ms A) (F0 m pc ls rest) := by
  subst ho
  exact vx_throwS hx hb hst (A := A) (cls := "java/lang/IndexOutOfBoundsException") (text := text) (names := ["java/lang/RuntimeException", "java/lang/Exception"]) (own := RX8) (ik := 131) (is := is) (ic := 135) (sa := E.2.2.2.2.2.1 i) hown (by decide +kernel) (by decide +kernel) (hg _ at3_4) (hg _ at4_4) (hE.2.2.2.2.2.1 _ hs) (exq_at hE hg at1_4 _ at2_4) at5_4 hE.2.2.2.1 hE.2.2.2.2.1 hS (hsize.trans hml.symm) d0 d3 d4 d6 d9 (fun x hx => (hout x hx).elim) hfr hlo hRc hRs hlocks
    (fun t hW hz hq => ⟨by decide, rfl, hP.kept (fun k q hk => hq q.1 (hP k q hk).lt), ⟨Nat.le_trans hS.1 hz, fun q h1 h2 => by rw [hq q (Nat.lt_of_lt_of_le h1 hS.1)]; exact hS.2.1 q h1 h2⟩⟩) hS.2.2 hc hs2
