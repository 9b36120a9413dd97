theorem ac_int : Cond.arrayClass .int ∈ GA := GA_of (tb1 (List.mem_of_getElem? (i := 55) (by decide +kernel))) (by decide +kernel)
theorem ac_boolean : Cond.arrayClass .boolean ∈ GA := GA_of (tb2 (List.mem_of_getElem? (i := 19) (by decide +kernel))) (by decide +kernel)
theorem ac_byte : Cond.arrayClass .byte ∈ GA := GA_of (tb2 (List.mem_of_getElem? (i := 210) (by decide +kernel))) (by decide +kernel)
theorem oi_i : Cond.instanceMethod objectInit ∈ GA := GA_of (tb1 (List.mem_of_getElem? (i := 35) (by decide +kernel))) (by decide +kernel)
theorem oi_c : Cond.code objectInit ⟨#[0xb1]⟩ 1 none ∈ GA := GA_of (tb1 (List.mem_of_getElem? (i := 36) (by decide +kernel))) (by decide +kernel)
theorem cl_L_8 : Cond.classLink RL 8 RX8 ∈ GA := GA_of (tb1 (List.mem_of_getElem? (i := 29) (by decide +kernel))) (by decide +kernel)
theorem is_X8 : Cond.instantiable RX8 8 ∈ GA := GA_of (tb1 (List.mem_of_getElem? (i := 30) (by decide +kernel))) (by decide +kernel)
theorem cl_X8_7 : Cond.classLink RX8 7 RX0 ∈ GA := GA_of (tb1 (List.mem_of_getElem? (i := 37) (by decide +kernel))) (by decide +kernel)
theorem is_X0 : Cond.instantiable RX0 2 ∈ GA := GA_of (tb1 (List.mem_of_getElem? (i := 38) (by decide +kernel))) (by decide +kernel)
theorem cl_X8_19 : Cond.classLink RX8 19 RX4 ∈ GA := GA_of (tb1 (List.mem_of_getElem? (i := 56) (by decide +kernel))) (by decide +kernel)
theorem is_X4 : Cond.instantiable RX4 5 ∈ GA := GA_of (tb1 (List.mem_of_getElem? (i := 57) (by decide +kernel))) (by decide +kernel)
theorem cl_X8_28 : Cond.classLink RX8 28 RX3 ∈ GA := GA_of (tb1 (List.mem_of_getElem? (i := 78) (by decide +kernel))) (by decide +kernel)
theorem is_X3 : Cond.instantiable RX3 10 ∈ GA := GA_of (tb1 (List.mem_of_getElem? (i := 79) (by decide +kernel))) (by decide +kernel)
theorem cl_X3_33 : Cond.classLink RX3 33 RX1 ∈ GA := GA_of (tb1 (List.mem_of_getElem? (i := 84) (by decide +kernel))) (by decide +kernel)
theorem is_X1 : Cond.instantiable RX1 9 ∈ GA := GA_of (tb1 (List.mem_of_getElem? (i := 85) (by decide +kernel))) (by decide +kernel)
theorem cl_X3_40 : Cond.classLink RX3 40 RX7 ∈ GA := GA_of (tb1 (List.mem_of_getElem? (i := 128) (by decide +kernel))) (by decide +kernel)
theorem is_X7 : Cond.instantiable RX7 4 ∈ GA := GA_of (tb1 (List.mem_of_getElem? (i := 129) (by decide +kernel))) (by decide +kernel)
theorem cl_X3_47 : Cond.classLink RX3 47 RX5 ∈ GA := GA_of (tb1 (List.mem_of_getElem? (i := 153) (by decide +kernel))) (by decide +kernel)
theorem is_X5 : Cond.instantiable RX5 4 ∈ GA := GA_of (tb1 (List.mem_of_getElem? (i := 154) (by decide +kernel))) (by decide +kernel)
theorem cl_X8_38 : Cond.classLink RX8 38 RX2 ∈ GA := GA_of (tb1 (List.mem_of_getElem? (i := 222) (by decide +kernel))) (by decide +kernel)
theorem is_X2 : Cond.instantiable RX2 3 ∈ GA := GA_of (tb1 (List.mem_of_getElem? (i := 223) (by decide +kernel))) (by decide +kernel)
theorem cl_X2_9 : Cond.classLink RX2 9 RX3 ∈ GA := GA_of (tb1 (List.mem_of_getElem? (i := 228) (by decide +kernel))) (by decide +kernel)
theorem cl_X8_45 : Cond.classLink RX8 45 RX6 ∈ GA := GA_of (tb2 (List.mem_of_getElem? (i := 2) (by decide +kernel))) (by decide +kernel)
theorem is_X6 : Cond.instantiable RX6 2 ∈ GA := GA_of (tb2 (List.mem_of_getElem? (i := 3) (by decide +kernel))) (by decide +kernel)
theorem cl_X6_9 : Cond.classLink RX6 9 RX3 ∈ GA := GA_of (tb2 (List.mem_of_getElem? (i := 8) (by decide +kernel))) (by decide +kernel)
theorem cl_L_174 : Cond.classLink RL 174 RJ4 ∈ GA := GA_of (tb5 (List.mem_of_getElem? (i := 34) (by decide +kernel))) (by decide +kernel)
theorem is_J4 : Cond.instantiable RJ4 4 ∈ GA := GA_of (tb5 (List.mem_of_getElem? (i := 35) (by decide +kernel))) (by decide +kernel)
theorem cl_L_163 : Cond.classLink RL 163 RJ0 ∈ GA := GA_of (tb5 (List.mem_of_getElem? (i := 204) (by decide +kernel))) (by decide +kernel)
theorem cl_J4_18 : Cond.classLink RJ4 18 RJ0 ∈ GA := GA_of (tb5 (List.mem_of_getElem? (i := 227) (by decide +kernel))) (by decide +kernel)
theorem is_J0 : Cond.instantiable RJ0 4 ∈ GA := GA_of (tb5 (List.mem_of_getElem? (i := 228) (by decide +kernel))) (by decide +kernel)
theorem cl_J7_45 : Cond.classLink RJ7 45 RJ4 ∈ GA := GA_of (tb6 (List.mem_of_getElem? (i := 20) (by decide +kernel))) (by decide +kernel)
/-! constructors: they make cells; the world behind is some list of cells with 'post' -/
def NM (E : Ev) (l : Launch) (y : MethodName) (ws : List Cond) (rm : Room) (as : List Value) (bs : va_W) (mc ms : Nat) (post : va_W → Prop) : Prop :=
  ∀ sz : Nat, Met l y ws rm (va_Pc as (fun U => PW E bs sz U ∧ va_AO "NightPorter$Night" U)) (fun _ st oc t => oc = .returned none ∧ (∃ bs', post bs' ∧ va_P E.1 vwCl bs' t.heap ∧ va_D (va_A bs sz) bs') ∧ va_F (va_A bs sz) st t) mc ms (va_A bs sz)
theorem nm_join {A : Nat → Prop} {D : va_G} {cl : List vw_C} {wr b b' : va_W} {H H1 : Heap} (hP : va_P D cl (wr ++ b) H) (hD : va_D A (wr ++ b)) (hk : ∀ q : Nat, q < H.size → ¬ va_A b H.size q → H1[q]? = H[q]?) (hF : ∀ q, va_A b H.size q → A q) (hP1 : va_P D cl b' H1) (hD1 : va_D (va_A b H.size) b') : va_P D cl (wr ++ b') H1 ∧ va_D A (wr ++ b') := by
  have hn := bk_nodup hD
  rw [List.map_append, List.nodup_append] at hn
  have apart : ∀ x ∈ wr, x.1 < H.size ∧ ¬ va_A b H.size x.1 := by
    intro x hx
    have ha := bk_at hP (List.mem_append_left _ hx)
    refine ⟨ha.lt, fun h => ?_⟩
    rcases h with ⟨k, e, h⟩ | h
    · exact hn.2.2 x.1 (List.mem_map_of_mem hx) x.1 (List.mem_map.mpr ⟨_, List.mem_of_getElem? h, rfl⟩) rfl
    · exact absurd ha.lt (Nat.not_lt.mpr h)
  have hDr : va_D A wr := bk_Dp hn.1 (fun x hx => List.mem_append_left _ hx) hD
  refine ⟨va_P.app (bk_P fun x hx => (bk_at hP (List.mem_append_left _ hx)).kept (hk x.1 (apart x hx).1 (apart x hx).2)) hP1, hDr.app (hD1.weaken fun k q _ h => hF q.1 h) fun i j x y hx hy hxy => ?_⟩
  exact (apart x (List.mem_of_getElem? hx)).2 (by rw [hxy]; exact hD1.2 j y hy)
theorem nm_sub {A : Nat → Prop} {wr b : va_W} {H0 H : Heap} {locs : List Loc} (hD : va_D A (wr ++ b)) (hS : va_S A H0 H locs) (hA : ∀ q, H0.size ≤ q → A q) : ∀ q, va_A b H.size q → A q := by
  intro q h
  rcases h with ⟨k, e, h⟩ | h
  · obtain ⟨i, hi⟩ := List.getElem?_of_mem (List.mem_append_right wr (List.mem_of_getElem? h))
    exact hD.2 i _ hi
  · exact hA q (Nat.le_trans hS.1 h)
theorem nm_pre {E : Ev} {A : Nat → Prop} {wr b : va_W} {H : Heap} {locs : List Loc} {s U : State} (hK : KX E s) (hE : EX E A s s.heap) (hO : va_AO "NightPorter$Night" s) (hP : va_P E.1 vwCl (wr ++ b) H) (hD : va_D A (wr ++ b)) (hS : va_S A s.heap H locs) (hA : ∀ q, s.heap.size ≤ q → A q) (hU : U.heap = H) (hW : s.WarmedH U.vm) : PW E b H.size U ∧ va_AO "NightPorter$Night" U := by
  have hn := bk_nodup hD
  rw [List.map_append, List.nodup_append] at hn
  refine ⟨⟨by rw [hU], by rw [hU]; exact bk_P fun x hx => bk_at hP (List.mem_append_right _ hx), hK.warm hW, (bk_Dp hn.2.1 (fun x hx => List.mem_append_right _ hx) hD).weaken fun _ _ _ _ => trivial, by rw [hU]; exact hE.go hS hW (nm_sub hD hS hA)⟩, hO.moved hW.alike⟩
theorem nm_blind {E : Ev} {as : List Value} {b : va_W} {sz : Nat} : FrameBlind (va_Pc as (fun U => PW E b sz U ∧ va_AO "NightPorter$Night" U)) := fun _ U g mk h => ⟨h.1, (PW.blind _ U g mk ⟨h.1, h.2.1⟩).2, va_AO.moved (u := U) (U := U.calling g mk _) (Vm.Alike.refl U.vm) h.2.2⟩
def CI (y : MethodName) (bytes : ByteArray) (maxL n : Nat) : Prop :=
  Cond.code y bytes maxL none ∈ GA ∧ Cond.instanceMethod y ∈ GA ∧ Cond.initialized y.cls ∈ GA ∧ y.name = "<init>" ∧ (y.cls ≠ "java/lang/invoke/MethodHandle" ∧ y.cls ≠ "java/lang/invoke/VarHandle" ∧ (parseMethodDescriptor y.desc).map (fun d => d.parameters.length) = some n)
section
variable {p : Program} {l : Launch} {e : Env} {R : Room} {s : State} {m : MethodId} {args : Array Value} {below : List Frame} {meth : Method} {c : Code} {H : Heap} {locs : List Loc} {cells slots : Nat} {Q : State → Prop}
variable {pc : Nat} {ls : Array Slot} {rest st0 : List Value} {a : Array Value} {A : Nat → Prop} {E : Ev} {cc : ByteArray} {mc ms : Nat}
theorem nm_go {post : va_W → Prop} {wr bs : va_W} (hr : va_Run p l e R s m args below meth c H locs cells slots mc ms (F0 m pc ls st0) rest (fun st oc t => oc = .returned none ∧ (∃ bs', post bs' ∧ va_P E.1 vwCl bs' t.heap ∧ va_D (va_A bs H.size) bs') ∧ va_F (va_A bs H.size) st t) (va_A bs H.size)) (hP : va_P E.1 vwCl (wr ++ bs) H) (hD : va_D A (wr ++ bs)) (hS : va_S A s.heap H locs) (hA : ∀ q, s.heap.size ≤ q → A q)
    (kk : ∀ (bs' : va_W) (H1 : Heap) (locs1 : List Loc), post bs' → va_P E.1 vwCl (wr ++ bs') H1 → va_D A (wr ++ bs') → va_S A s.heap H1 locs1 → W p l e R s m args below meth c H1 locs1 (cells + mc) (slots + ms) Q (F0 m (pc + 3) ls rest)) : W p l e R s m args below meth c H locs cells slots Q (F0 m pc ls st0) := by
  have hF := nm_sub hD hS hA
  intro T hT X
  obtain ⟨v9, st₀, t, T', L, h0, X', hL, e1, e2, ⟨hv, ⟨bs', hp, hb, hd⟩, hz, hk⟩, st⟩ := hr T hT X
  cases hv
  rw [h0] at hz hk
  have hk' : ∀ q : Nat, q < H.size → ¬ va_A bs H.size q → T'.heap[q]? = H[q]? := fun q h1 h2 => by rw [e1]; exact hk q h1 h2
  obtain ⟨hP2, hD2⟩ := nm_join hP hD hk' hF (by rw [e1]; exact hb) hd
  obtain ⟨t2, a1, b1⟩ := kk bs' T'.heap (locs ++ L) hp hP2 hD2
    ⟨Nat.le_trans hS.1 (by rw [e1]; exact hz), fun q h1 h2 => by rw [hk' q (Nat.lt_of_lt_of_le h1 hS.1) (fun z => h2 (hF q z))]; exact hS.2.1 q h1 h2, fun q hq => by
      rcases List.mem_append.mp hq with h | h
      · exact hS.2.2 q h
      · exact hF _ (hL q h)⟩ T' rfl X'
  exact ⟨t2, st t2 a1, b1⟩
theorem nm_I {own : String} {index n maxL nL : Nat} {y : MethodName} {bytes : ByteArray} {rm : Room} {b : Nat} {As : List Value} {wr bs : va_W} {post : va_W → Prop}
    (hx : p.tables.exec = Jvm.exec) (hb : c.code = cc) (hml : c.maxLocals = nL) (hown : s.vm.findClass own = some m.cls) (hg : ∀ w ∈ GA, w.before args s = true)
    (hM : NM E l y (.code y bytes maxL none :: GA) rm (.ref b :: As) bs mc ms post) (cy : CI y bytes maxL n) (hlk : Cond.methodLink own index y ∈ GA)
    (hrm : (rm.cells = mc ∧ rm.slots = ms) ∧ rm.frames + 1 ≤ R.frames ∧ 8 + (maxL + 11) + rm.locals ≤ R.locals)
    (hK : KX E s) (hE : EX E A s s.heap) (hO : va_AO "NightPorter$Night" s) (hP : va_P E.1 vwCl (wr ++ bs) H) (hD : va_D A (wr ++ bs)) (hS : va_S A s.heap H locs) (hA : ∀ q, s.heap.size ≤ q → A q)
    (hn : As.length = n) (hsize : ls.size = nL) (hst : st0 = As.reverse ++ .ref b :: rest) (hW : (rest.map fun v => v.category).sum ≤ 8) (hdg : decode cc pc = .ok (.invokespecial index, 3)) (hc : cells + mc ≤ R.cells ∧ slots + ms ≤ R.slots)
    (kk : ∀ (bs' : va_W) (H1 : Heap) (locs1 : List Loc), post bs' → va_P E.1 vwCl (wr ++ bs') H1 → va_D A (wr ++ bs') → va_S A s.heap H1 locs1 → W p l e R s m args below meth c H1 locs1 (cells + mc) (slots + ms) Q (F0 m (pc + 3) ls rest)) : W p l e R s m args below meth c H locs cells slots Q (F0 m pc ls st0) := by
  obtain ⟨y1, y2, y4, y5, y6⟩ := cy
  exact nm_go (va_runI (As := As) (rest := rest) (n := n) (nL := nL) (cc := cc) (Ts := GA) (own := own) (index := index) ⟨hx, hb, hml, hown, hg⟩ (hM H.size) (cwI n hg (GA_cons y1) rfl hrm.1.1 hrm.1.2 (hg _ y4) (hg _ hlk) (hg _ y2) y5 y6 hrm.2) ⟨nm_blind, fun U hU hW => ⟨rfl, nm_pre hK hE hO hP hD hS hA hU hW⟩⟩ rfl hn hsize hst (lv_room hW) hdg hc) hP hD hS hA kk
theorem nm_IN {own host : String} {index n maxL nL : Nat} {y : MethodName} {bytes : ByteArray} {rm : Room} {b : Nat} {As : List Value} {wr bs : va_W} {post : va_W → Prop}
    (hx : p.tables.exec = Jvm.exec) (hb : c.code = cc) (hml : c.maxLocals = nL) (hown : s.vm.findClass own = some m.cls) (hg : ∀ w ∈ GA, w.before args s = true)
    (hM : NM E l y (.code y bytes maxL none :: GA) rm (.ref b :: As) bs mc ms post) (cy : CI y bytes maxL n) (hlk : (own, index, y, host) ∈ GNl)
    (hrm : (rm.cells = mc ∧ rm.slots = ms) ∧ rm.frames + 1 ≤ R.frames ∧ 8 + (maxL + 11) + rm.locals ≤ R.locals)
    (hK : KX E s) (hE : EX E A s s.heap) (hO : va_AO "NightPorter$Night" s) (hP : va_P E.1 vwCl (wr ++ bs) H) (hD : va_D A (wr ++ bs)) (hS : va_S A s.heap H locs) (hA : ∀ q, s.heap.size ≤ q → A q)
    (hn : As.length = n) (hsize : ls.size = nL) (hst : st0 = As.reverse ++ .ref b :: rest) (hW : (rest.map fun v => v.category).sum ≤ 8) (hdg : decode cc pc = .ok (.invokespecial index, 3)) (hc : cells + mc ≤ R.cells ∧ slots + ms ≤ R.slots)
    (kk : ∀ (bs' : va_W) (H1 : Heap) (locs1 : List Loc), post bs' → va_P E.1 vwCl (wr ++ bs') H1 → va_D A (wr ++ bs') → va_S A s.heap H1 locs1 → W p l e R s m args below meth c H1 locs1 (cells + mc) (slots + ms) Q (F0 m (pc + 3) ls rest)) : W p l e R s m args below meth c H locs cells slots Q (F0 m pc ls st0) := by
  obtain ⟨y1, y2, y4, y5, y6⟩ := cy
  exact nm_go (va_runIN (As := As) (rest := rest) (n := n) (nL := nL) (cc := cc) (Ts := GA) (own := own) (index := index) (host := host) ⟨hx, hb, hml, hown, hg⟩ (hM H.size) ⟨va_cnB n hg (GA_cons y1) rfl hrm.1.1 hrm.1.2 (hK.2 _ hlk) (hg _ y4) y6 hrm.2, y5, hg _ y2⟩ ⟨nm_blind, fun U hU hW => ⟨rfl, nm_pre hK hE hO hP hD hS hA hU hW⟩⟩ rfl hn hsize hst (lv_room hW) hdg hc) hP hD hS hA kk
theorem nm_vret {post : va_W → Prop} {bs' : va_W} (hx : p.tables.exec = Jvm.exec) (hb : c.code = cc) (hr : meth.sig.returnType = none) (hlocks : meth.locks = false) (hp : post bs') (hP : va_P E.1 vwCl bs' H) (hD : va_D A bs') (hS : va_S A s.heap H locs) (hdg : decode cc pc = .ok (.return_, 1)) (hc : cells ≤ mc) (hs : slots ≤ ms) : W p l e R s m args below meth c H locs cells slots (MQ below (fun _ st oc t => oc = .returned none ∧ (∃ bs', post bs' ∧ va_P E.1 vwCl bs' t.heap ∧ va_D A bs') ∧ va_F A st t) args s mc ms A) (F0 m pc ls []) :=
  W.widen hc hs (W.vret hx hb hr (fun t ht _ => ⟨rfl, ⟨bs', hp, by rw [ht]; exact hP, hD⟩, hS.F ht⟩) hS.2.2 hdg hlocks)
theorem nw_i {n : Int32} {N : Nat} {w : va_W} (hx : p.tables.exec = Jvm.exec) (hb : c.code = cc) (hg : ∀ w ∈ GA, w.before args s = true) (hK : KX E s) (hP : va_P E.1 vwCl w H) (hD : va_D A w) (hS : va_S A s.heap H locs) (hA : ∀ q, s.heap.size ≤ q → A q) (hn : ¬ n < 0) (hN : n.toNatClampNeg = N) (hby : N * 4 ≤ 536870912) (hcells : cells + 1 ≤ R.cells) (hslots : slots + N ≤ R.slots) (hdg : decode cc pc = .ok (.newarray .int, 2))
    (kk : ∀ (q : Nat) (H1 : Heap), va_P E.1 vwCl (w ++ [(q, .inl (E.2.1, N, .inl (fun _ => 0)))]) H1 → va_D A (w ++ [(q, .inl (E.2.1, N, .inl (fun _ => 0)))]) → va_S A s.heap H1 locs → W p l e R s m args below meth c H1 locs (cells + 1) (slots + N) Q (F0 m (pc + 2) ls (.ref q :: rest))) : W p l e R s m args below meth c H locs cells slots Q (F0 m pc ls (.int n :: rest)) := by
  refine va_newa (atype := .int) (ty := .int) (a0 := (N, .inl (fun _ => 0))) hx hb (hg _ ac_int) rfl hK.1 hP hD hS hA (fun _ => rfl) hn hN hby hcells hslots hdg (fun q cA H1 hK1 hP1 hD1 hS1 => ?_)
  have h1 : s.vm.findClass ("[" ++ FieldType.int.toString) = some E.2.1 := (hK.1.2 0 _ rfl).2
  have h2 : s.vm.findClass ("[" ++ FieldType.int.toString) = some cA := (hK1.2 5 (cA, .int) rfl).2
  cases Option.some.inj (h1.symm.trans h2)
  exact kk q H1 hP1 hD1 hS1
theorem nw_z {n : Int32} {N : Nat} {w : va_W} (hx : p.tables.exec = Jvm.exec) (hb : c.code = cc) (hg : ∀ w ∈ GA, w.before args s = true) (hK : KX E s) (hP : va_P E.1 vwCl w H) (hD : va_D A w) (hS : va_S A s.heap H locs) (hA : ∀ q, s.heap.size ≤ q → A q) (hn : ¬ n < 0) (hN : n.toNatClampNeg = N) (hby : N * 1 ≤ 536870912) (hcells : cells + 1 ≤ R.cells) (hslots : slots + N ≤ R.slots) (hdg : decode cc pc = .ok (.newarray .boolean, 2))
    (kk : ∀ (q : Nat) (H1 : Heap), va_P E.1 vwCl (w ++ [(q, .inl (E.2.2.1, N, .inl (fun _ => 0)))]) H1 → va_D A (w ++ [(q, .inl (E.2.2.1, N, .inl (fun _ => 0)))]) → va_S A s.heap H1 locs → W p l e R s m args below meth c H1 locs (cells + 1) (slots + N) Q (F0 m (pc + 2) ls (.ref q :: rest))) : W p l e R s m args below meth c H locs cells slots Q (F0 m pc ls (.int n :: rest)) := by
  refine va_newa (atype := .boolean) (ty := .boolean) (a0 := (N, .inl (fun _ => 0))) hx hb (hg _ ac_boolean) rfl hK.1 hP hD hS hA (fun _ => rfl) hn hN hby hcells hslots hdg (fun q cA H1 hK1 hP1 hD1 hS1 => ?_)
  have h1 : s.vm.findClass ("[" ++ FieldType.boolean.toString) = some E.2.2.1 := (hK.1.2 1 _ rfl).2
  have h2 : s.vm.findClass ("[" ++ FieldType.boolean.toString) = some cA := (hK1.2 5 (cA, .boolean) rfl).2
  cases Option.some.inj (h1.symm.trans h2)
  exact kk q H1 hP1 hD1 hS1
theorem nw_b {n : Int32} {N : Nat} {w : va_W} (hx : p.tables.exec = Jvm.exec) (hb : c.code = cc) (hg : ∀ w ∈ GA, w.before args s = true) (hK : KX E s) (hP : va_P E.1 vwCl w H) (hD : va_D A w) (hS : va_S A s.heap H locs) (hA : ∀ q, s.heap.size ≤ q → A q) (hn : ¬ n < 0) (hN : n.toNatClampNeg = N) (hby : N * 1 ≤ 536870912) (hcells : cells + 1 ≤ R.cells) (hslots : slots + N ≤ R.slots) (hdg : decode cc pc = .ok (.newarray .byte, 2))
    (kk : ∀ (q : Nat) (H1 : Heap), va_P E.1 vwCl (w ++ [(q, .inl (E.2.2.2.1, N, .inl (fun _ => 0)))]) H1 → va_D A (w ++ [(q, .inl (E.2.2.2.1, N, .inl (fun _ => 0)))]) → va_S A s.heap H1 locs → W p l e R s m args below meth c H1 locs (cells + 1) (slots + N) Q (F0 m (pc + 2) ls (.ref q :: rest))) : W p l e R s m args below meth c H locs cells slots Q (F0 m pc ls (.int n :: rest)) := by
  refine va_newa (atype := .byte) (ty := .byte) (a0 := (N, .inl (fun _ => 0))) hx hb (hg _ ac_byte) rfl hK.1 hP hD hS hA (fun _ => rfl) hn hN hby hcells hslots hdg (fun q cA H1 hK1 hP1 hD1 hS1 => ?_)
  have h1 : s.vm.findClass ("[" ++ FieldType.byte.toString) = some E.2.2.2.1 := (hK.1.2 2 _ rfl).2
  have h2 : s.vm.findClass ("[" ++ FieldType.byte.toString) = some cA := (hK1.2 5 (cA, .byte) rfl).2
  cases Option.some.inj (h1.symm.trans h2)
  exact kk q H1 hP1 hD1 hS1
theorem nw_q {own : String} {index : Nat} {n : Int32} {N : Nat} {w : va_W} (hx : p.tables.exec = Jvm.exec) (hb : c.code = cc) (hg : ∀ w ∈ GA, w.before args s = true) (hown : s.vm.findClass own = some m.cls) (hlk : Cond.classLink own index "NightPorter$Night" ∈ GA) (hO : va_AO "NightPorter$Night" s) (hK : KX E s) (hP : va_P E.1 vwCl w H) (hD : va_D A w) (hS : va_S A s.heap H locs) (hA : ∀ q, s.heap.size ≤ q → A q) (hn : ¬ n < 0) (hN : n.toNatClampNeg = N) (hby : N * 4 ≤ 536870912) (hcells : cells + 1 ≤ R.cells) (hslots : slots + N ≤ R.slots) (hdg : decode cc pc = .ok (.anewarray index, 3))
    (kk : ∀ (q : Nat) (H1 : Heap), va_P E.1 vwCl (w ++ [(q, .inl (E.2.2.2.2.1, N, .inr (.inr (.inr (.inr (fun _ => none))))))]) H1 → va_D A (w ++ [(q, .inl (E.2.2.2.2.1, N, .inr (.inr (.inr (.inr (fun _ => none))))))]) → va_S A s.heap H1 locs → W p l e R s m args below meth c H1 locs (cells + 1) (slots + N) Q (F0 m (pc + 3) ls (.ref q :: rest))) : W p l e R s m args below meth c H locs cells slots Q (F0 m pc ls (.int n :: rest)) := by
  refine va_newq hx hb hown (hg _ hlk) hO hK.1 hP hD hS hA hn hN hby hcells hslots hdg (fun q cA H1 hK1 hP1 hD1 hS1 => ?_)
  have h1 : s.vm.findClass ("[" ++ (FieldType.object "NightPorter$Night").toString) = some E.2.2.2.2.1 := by
    obtain ⟨kA, comp, -, -, -, h⟩ := (hK.1.2 3 _ rfl).2
    exact h
  have h2 : s.vm.findClass ("[" ++ (FieldType.object "NightPorter$Night").toString) = some cA := by
    obtain ⟨kA, comp, -, -, -, h⟩ := (hK1.2 5 (cA, .object "NightPorter$Night") rfl).2
    exact h
  cases Option.some.inj (h1.symm.trans h2)
  exact kk q H1 hP1 hD1 hS1
theorem nw_s {own : String} {index : Nat} {n : Int32} {N : Nat} {w : va_W} (hx : p.tables.exec = Jvm.exec) (hb : c.code = cc) (hg : ∀ w ∈ GA, w.before args s = true) (hown : s.vm.findClass own = some m.cls) (hlk : Cond.classLink own index "java/lang/String" ∈ GA) (hO : va_AO "java/lang/String" s) (hK : KX E s) (hP : va_P E.1 vwCl w H) (hD : va_D A w) (hS : va_S A s.heap H locs) (hA : ∀ q, s.heap.size ≤ q → A q) (hn : ¬ n < 0) (hN : n.toNatClampNeg = N) (hby : N * 4 ≤ 536870912) (hcells : cells + 1 ≤ R.cells) (hslots : slots + N ≤ R.slots) (hdg : decode cc pc = .ok (.anewarray index, 3))
    (kk : ∀ (q : Nat) (H1 : Heap), va_P E.1 vwCl (w ++ [(q, .inl (E.2.2.2.2.2.2.2, N, .inr (.inr (.inr (.inr (fun _ => none))))))]) H1 → va_D A (w ++ [(q, .inl (E.2.2.2.2.2.2.2, N, .inr (.inr (.inr (.inr (fun _ => none))))))]) → va_S A s.heap H1 locs → W p l e R s m args below meth c H1 locs (cells + 1) (slots + N) Q (F0 m (pc + 3) ls (.ref q :: rest))) : W p l e R s m args below meth c H locs cells slots Q (F0 m pc ls (.int n :: rest)) := by
  refine va_newq hx hb hown (hg _ hlk) hO hK.1 hP hD hS hA hn hN hby hcells hslots hdg (fun q cA H1 hK1 hP1 hD1 hS1 => ?_)
  have h1 : s.vm.findClass ("[" ++ (FieldType.object "java/lang/String").toString) = some E.2.2.2.2.2.2.2 := by
    obtain ⟨kA, comp, -, -, -, h⟩ := (hK.1.2 4 _ rfl).2
    exact h
  have h2 : s.vm.findClass ("[" ++ (FieldType.object "java/lang/String").toString) = some cA := by
    obtain ⟨kA, comp, -, -, -, h⟩ := (hK1.2 5 (cA, .object "java/lang/String") rfl).2
    exact h
  cases Option.some.inj (h1.symm.trans h2)
  exact kk q H1 hP1 hD1 hS1
end
theorem NM.of {E : Ev} {l : Launch} {y : MethodName} {cc : ByteArray} {maxL : Nat} {rm : Room} {as : List Value} {bs : va_W} {mc ms : Nat} {post : va_W → Prop} {own : String} (hown : y.cls = own) (hy : plainName y.cls = true) (hn : (lg_sl as).length ≤ maxL) (hin : y.name = "<init>")
    (body : ∀ (p : Program) (e : Env) (s : State) (m : MethodId) (below : List Frame) (meth : Method) (c : Code) (A : Nat → Prop) (ls : Array Slot), p.tables.exec = Jvm.exec → c.code = cc → meth.sig.returnType = none → c.maxLocals = maxL → s.vm.findClass own = some m.cls → (∀ w ∈ GA, w.before as.toArray s = true) → meth.locks = false → meth.name = "<init>" → KX E s → EX E A s s.heap → va_AO "NightPorter$Night" s → (∀ q : Nat, s.heap.size ≤ q → A q) → va_P E.1 vwCl bs s.heap → va_D A bs → va_S A s.heap s.heap [] → lv_has ls maxL (lv_args 0 as) →
      W p l e rm s m as.toArray below meth c s.heap [] 0 0 (MQ below (fun _ st oc t => oc = .returned none ∧ (∃ bs', post bs' ∧ va_P E.1 vwCl bs' t.heap ∧ va_D A bs') ∧ va_F A st t) as.toArray s mc ms A) (F0 m 0 ls [])) : NM E l y (.code y cc maxL none :: GA) rm as bs mc ms post := by
  intro sz
  refine Met.ofW (cc := cc) (maxL := maxL) (ret := none) hy rfl ?_
  intro p e s m args below meth c s₁ B hml hv
  obtain ⟨rfl, ⟨hsz, hP, hK, hD0, hE⟩, hO⟩ := hv
  subst hown
  subst hsz
  have hts := atoms_spec (ws := .code y cc maxL none :: GA) B.pre
  rw [lg_entry_eq]
  exact body p e s m below meth c _ _ B.exec B.bytes B.returns hml (findClass_of_methodNamed B.named) (fun w h => hts w (List.mem_cons_of_mem _ h)) B.notSynchronized ((name_of_methodNamed B.named B.method).1.trans hin) hK hE hO (fun q h => Or.inr h) hP hD0.self va_S.rf (lv_entry as hn)
theorem ci_X0_init : CI yX0_init cX0_init 1 0 := ⟨GA_of (tb1 (List.mem_of_getElem? (i := 41) (by decide +kernel))) (by decide +kernel), GA_of (tb1 (List.mem_of_getElem? (i := 40) (by decide +kernel))) (by decide +kernel), ini_X0, rfl, by decide +kernel⟩
theorem ci_X1_init : CI yX1_init cX1_init 1 0 := ⟨GA_of (tb1 (List.mem_of_getElem? (i := 88) (by decide +kernel))) (by decide +kernel), GA_of (tb1 (List.mem_of_getElem? (i := 87) (by decide +kernel))) (by decide +kernel), ini_X1, rfl, by decide +kernel⟩
theorem ci_X2_init : CI yX2_init cX2_init 2 0 := ⟨GA_of (tb1 (List.mem_of_getElem? (i := 226) (by decide +kernel))) (by decide +kernel), GA_of (tb1 (List.mem_of_getElem? (i := 225) (by decide +kernel))) (by decide +kernel), ini_X2, rfl, by decide +kernel⟩
theorem ci_X3_init : CI yX3_init cX3_init 1 0 := ⟨GA_of (tb1 (List.mem_of_getElem? (i := 82) (by decide +kernel))) (by decide +kernel), GA_of (tb1 (List.mem_of_getElem? (i := 81) (by decide +kernel))) (by decide +kernel), ini_X3, rfl, by decide +kernel⟩
theorem ci_X4_init : CI yX4_init cX4_init 2 1 := ⟨GA_of (tb1 (List.mem_of_getElem? (i := 60) (by decide +kernel))) (by decide +kernel), GA_of (tb1 (List.mem_of_getElem? (i := 59) (by decide +kernel))) (by decide +kernel), ini_X4, rfl, by decide +kernel⟩
theorem ci_X5_init : CI yX5_init cX5_init 1 0 := ⟨GA_of (tb1 (List.mem_of_getElem? (i := 157) (by decide +kernel))) (by decide +kernel), GA_of (tb1 (List.mem_of_getElem? (i := 156) (by decide +kernel))) (by decide +kernel), ini_X5, rfl, by decide +kernel⟩
theorem ci_X6_init : CI yX6_init cX6_init 2 0 := ⟨GA_of (tb2 (List.mem_of_getElem? (i := 6) (by decide +kernel))) (by decide +kernel), GA_of (tb2 (List.mem_of_getElem? (i := 5) (by decide +kernel))) (by decide +kernel), ini_X6, rfl, by decide +kernel⟩
theorem ci_X7_init : CI yX7_init cX7_init 1 0 := ⟨GA_of (tb1 (List.mem_of_getElem? (i := 132) (by decide +kernel))) (by decide +kernel), GA_of (tb1 (List.mem_of_getElem? (i := 131) (by decide +kernel))) (by decide +kernel), ini_X7, rfl, by decide +kernel⟩
theorem ci_X8_init : CI yX8_init cX8_init 1 0 := ⟨GA_of (tb1 (List.mem_of_getElem? (i := 33) (by decide +kernel))) (by decide +kernel), GA_of (tb1 (List.mem_of_getElem? (i := 32) (by decide +kernel))) (by decide +kernel), ini_X8, rfl, by decide +kernel⟩
