set_option maxHeartbeats 1000000 in
theorem nx_throwSW {p : Program} {l : Launch} {e : Env} {R : Room} {s : State} {m : MethodId} {args : Array Value} {below : List Frame} {meth : Method} {c : Code} {H : Heap} {locs : List Loc} {cells slots : Nat} {free : Addr → Prop} {ls : Array Slot} {rest : List Value} {Qc : Array Value → State → Outcome → State → Prop} {XC : String → State → State → Prop} {cc : ByteArray} {pc : Nat} (hexec : p.tables.exec = Jvm.exec) (hb : c.code = cc) (hl : l.stackTraces = false) {own cls text Y0 : String} {r0 : List String} {ik is ic ix mc ms sa : Nat} {rx : ByteArray} {A : Nat → Prop}
    (x0 : decode rx 0 = .ok (.aload_n 0, 1)) (x1 : decode rx 1 = .ok (.aload_n 1, 1)) (x2 : decode rx 2 = .ok (.invokespecial ix, 3)) (x5 : decode rx 5 = .ok (.return_, 1))
    (hown : s.vm.findClass own = some m.cls) (hcls : Bundle.fit cls = true) (hnames : ∀ n ∈ Y0 :: r0, Bundle.fit n = true)
    (hk : (Cond.classLink own ik cls).before args s = true) (hini : (Cond.initialized cls).before args s = true) (hstr : vk_R own is text sa s) (hat : ∀ w ∈ (nx_at own ic cls ix rx Y0 r0).filter vx_no, w.before args s = true)
    (hgood : ∀ w ∈ Cond.classLink own ik cls :: Cond.initialized cls :: (nx_at own ic cls ix rx Y0 r0).filter vx_no, vx_ot w = true)
    (hU : vx_Zq Bundle.tN "UNASSIGNED_STACK" Bundle.steD A s s.heap) (hN : vx_Zq Bundle.tN "SUPPRESSED_SENTINEL" Bundle.listD A s s.heap) (hS : va_S A s.heap H locs) (hsize : ls.size = c.maxLocals)
    (d0 : decode cc pc = .ok (.new ik, 3)) (d3 : decode cc (pc + 3) = .ok (.dup, 1)) (d4 : decode cc (pc + 4) = .ok (.ldc_w is, 3)) (d7 : decode cc (pc + 7) = .ok (.invokespecial ic, 3)) (d10 : decode cc (pc + 10) = .ok (.athrow, 1))
    (hout : ∀ x ∈ c.exceptionTable.toList, covers x (pc + 10) = false)
    (hRframes : (Y0 :: r0).length + 3 < R.frames) (hRlocals : (rest.map fun v => v.category).sum + (13 * ((Y0 :: r0).length + 1) + 43) ≤ R.locals) (hRcells : cells + 1 ≤ R.cells) (hRslots : slots + 6 ≤ R.slots) (hlocks : meth.locks = false)
    (hx : ∀ t : State, s.vm.Alike t.vm → H.size ≤ t.heap.size → (∀ q : Nat, q < H.size → t.heap[q]? = H[q]?) → XC cls s t)
    (hf : ∀ z ∈ locs, free z.base) (hc : cells + 1 ≤ mc) (hs : slots + 6 ≤ ms) :
    W p l e R s m args below meth c H locs cells slots (vx_MQ below Qc XC args s mc ms free) (F0 m pc ls rest) := by
  intro T hT X
  have htr : e.platform.stackTraces = false := (show e.platform.stackTraces = l.stackTraces by rw [X.admits.platform]).trans hl
  have Y := vx_rebase X (R' := { frames := R.frames, locals := R.locals, cells := 1, slots := 6 }) (Nat.le_refl _) (Nat.le_refl _) hRcells hRslots
  obtain ⟨s', hA⟩ : ∃ z, z = (T.setVm s.vm).setFrames (.invoking m args :: below) := ⟨_, rfl⟩
  rw [← hA] at Y
  have hvm : s'.vm = s.vm := by rw [hA]; rfl
  have hhp : s'.heap = H := by rw [hA]; exact hT
  have hW0 : s.WarmedH s'.vm := by rw [hvm]; exact State.WarmedH.refl s
  have hat' : ∀ w ∈ (nx_at own ic cls ix rx Y0 r0).filter vx_no, w.before args s' = true := fun w hw => vx_ot_at hW0 hvm.symm (hgood w (List.mem_cons_of_mem _ (List.mem_cons_of_mem _ hw))) (hat w hw)
  have hk' : (Cond.classLink own ik cls).before args s' = true := vx_ot_at hW0 hvm.symm (hgood _ List.mem_cons_self) hk
  have hini' : (Cond.initialized cls).before args s' = true := vx_ot_at hW0 hvm.symm (hgood _ (List.mem_cons_of_mem _ List.mem_cons_self)) hini
  have hU' : vx_Zq Bundle.tN "UNASSIGNED_STACK" Bundle.steD A s' s'.heap := by rw [hhp]; exact vx_Zq.moved hW0.alike (hU.kept hS.2.1)
  have hN' : vx_Zq Bundle.tN "SUPPRESSED_SENTINEL" Bundle.listD A s' s'.heap := by rw [hhp]; exact vx_Zq.moved hW0.alike (hN.kept hS.2.1)
  have h : ∀ w ∈ nx_at own ic cls ix rx Y0 r0, w.before args s' = true := vx_own hat' (vx_isRefq hU'.1) (vx_isRefq hN'.1) hU'.2.word hN'.2.word
  have hown' : s'.vm.findClass own = some m.cls := by rw [hvm]; exact hown
  have hins : (Cond.instantiable cls 6).before args s' = true := h _ (by simp [nx_at])
  obtain ⟨vm₁, cX, kX, hfX, hkX, -, -, X₁, st1⟩ := Y.newCold hexec (own := own) (C := cls) (index := ik) (n := 6) hown' hk' hins hini'
    (g := F0 m pc ls rest) rfl (by rw [hb]; exact d0) (Nat.le_refl _) (Nat.le_refl _)
  generalize hT1 : (T.setVm vm₁).pushCell { cls := cX, slots := kX.instanceTypes.map defaultValue, vm := .none } = T1 at X₁ st1
  have hcat : (Value.ref T.heap.size).category = 1 := rfl
  have hcellA : T1.heap[T.heap.size]? = some (freshCell cX kX) := by rw [← hT1]; exact State.heap_pushCell_size _ _
  have d3' : decode c.code (pc + 3) = .ok (.dup, 1) := by rw [hb]; exact d3
  have d4' : decode c.code (pc + 4) = .ok (.ldc_w is, 3) := by rw [hb]; exact d4
  have hstr' : vk_R own is text sa s' := vk_R.warm hW0 hstr
  obtain ⟨U, hsteps, hrun, hend, hW, hsame, ce, hce, hO1, hO2⟩ := nx_ctor X₁ hexec htr (own := own) (cls := cls) (Y0 := Y0) (r0 := r0) (ic := ic) x0 x1 x2 x5 hown' hcls hnames h (fun x hx => nomatch hx) hfX hkX hcellA (by rw [hhp, hT]; exact Nat.le_refl _) (msg := .ref sa) rfl
    (g := { method := m, pc := pc + 7, locals := ls, stack := .ref sa :: .ref T.heap.size :: .ref T.heap.size :: rest, locked := none }) rfl hsize rfl rfl (rest := rest) rfl
    (by rw [hb]; exact d7) (by rw [hb]; exact d10) hout hRframes (by simp only [List.map_cons, List.sum_cons, hcat]; omega) hlocks
  obtain ⟨f1, f2⟩ := vx_frame hsame
  rw [hhp] at f1 f2
  have hWs : s.WarmedH U.vm := State.WarmedH.trans hW0 hW
  have hcl : s.vm.findClass cls = some ce.cls := by
    have h9 := hO2
    rw [hvm] at h9
    exact h9
  have hall : s.sameButNew ({ U with vm := s.vm } : State) locs mc ms := by
    subst hA
    obtain ⟨e1, e2⟩ := hsame
    rw [State.setFrames_setFrames] at e1
    have h2 : (T.setVm s.vm).sameButNew ({ U with vm := s.vm } : State) [] (0 + 1) (0 + 6) := ⟨e1, e2⟩
    have h3 := X.same.trans h2
    rw [List.append_nil] at h3
    exact h3.mono hc hs
  refine ⟨U, ?_, .threw T.heap.size, hrun, hend, Or.inr ⟨T.heap.size, rfl, cls, ce, locs, hx U hWs.alike f1 (fun q hq => f2 q hq (fun z hz => nomatch hz)), hce, hO1, hcl, hWs, hall, hf⟩⟩
  refine st1 _ ?_
  show Steps p.tables e below (T1.setTop { method := m, pc := pc + 3, locals := ls, stack := .ref T.heap.size :: rest, locked := none }) _
  jvm_step X₁.here [X₁.here.top, hexec, d3', Value.category]
  exact X₁.ldcStringW hexec (own := own) (text := text) (index := is) (a := sa) hown' hstr'.1 hstr'.2
    (g := { method := m, pc := pc + 4, locals := ls, stack := .ref T.heap.size :: .ref T.heap.size :: rest, locked := none }) rfl d4' _ hsteps
theorem xm_throw1W {p : Program} {l : Launch} {e : Env} {R : Room} {s : State} {m : MethodId} {args : Array Value} {below : List Frame} {meth : Method} {c : Code} {H : Heap} {locs : List Loc} {cells slots : Nat} {pc : Nat} {ls : Array Slot} {rest : List Value} {A : Nat → Prop} {E : Ev} {cc : ByteArray} {mc ms o is i nL : Nat} {text : String} {v : Option Value} {bs' : va_W}
    (ho : o = 1) (hx : p.tables.exec = Jvm.exec) (hb : c.code = cc) (hml : c.maxLocals = nL) (hsize : ls.size = nL) (hst : l.stackTraces = false) (hown : s.vm.findClass RX8 = some m.cls) (hg : ∀ w ∈ GA, w.before args s = true) (hE : EX E A s s.heap) (hs : ("NightPorter", is, text, i) ∈ SRl) (hout : ∀ x ∈ c.exceptionTable.toList, False) (hlocks : meth.locks = false) (hP : va_P E.1 vwCl bs' H) (hS : va_S A s.heap H locs)
    (d0 : decode cc pc = .ok (.new 68, 3)) (d3 : decode cc (pc + 3) = .ok (.dup, 1)) (d4 : decode cc (pc + 4) = .ok (.ldc_w is, 3)) (d6 : decode cc (pc + 7) = .ok (.invokespecial 72, 3)) (d9 : decode cc (pc + 10) = .ok (.athrow, 1))
    (hfr : 5 < R.frames) (hlo : (rest.map fun v => v.category).sum + 82 ≤ R.locals) (hRc : cells + 1 ≤ R.cells) (hRs : slots + 6 ≤ R.slots) (hc : cells + 1 ≤ mc) (hs2 : slots + 6 ≤ ms) : W p l e R s m args below meth c H locs cells slots (vx_MQ below (QX E o v bs' A) (XX E o bs' A) args s mc ms A) (F0 m pc ls rest) := by
  subst ho
  exact vx_throwSW hx hb hst (A := A) (cls := "java/lang/IllegalStateException") (text := text) (names := ["java/lang/RuntimeException", "java/lang/Exception"]) (own := RX8) (ik := 68) (is := is) (ic := 72) (sa := E.2.2.2.2.2.1 i) hown (by decide +kernel) (by decide +kernel) (hg _ at3_1) (hg _ at4_1) (hE.2.2.2.2.2.1 _ hs) (exq_at hE hg at1_1 _ at2_1) at5_1 hE.2.2.2.1 hE.2.2.2.2.1 hS (hsize.trans hml.symm) d0 d3 d4 d6 d9 (fun x hx => (hout x hx).elim) hfr hlo hRc hRs hlocks
    (fun t hW hz hq => ⟨by decide, rfl, hP.kept (fun k q hk => hq q.1 (hP k q hk).lt), ⟨Nat.le_trans hS.1 hz, fun q h1 h2 => by rw [hq q (Nat.lt_of_lt_of_le h1 hS.1)]; exact hS.2.1 q h1 h2⟩⟩) hS.2.2 hc hs2
theorem xm_throw2W {p : Program} {l : Launch} {e : Env} {R : Room} {s : State} {m : MethodId} {args : Array Value} {below : List Frame} {meth : Method} {c : Code} {H : Heap} {locs : List Loc} {cells slots : Nat} {pc : Nat} {ls : Array Slot} {rest : List Value} {A : Nat → Prop} {E : Ev} {cc : ByteArray} {mc ms o is i nL : Nat} {text : String} {v : Option Value} {bs' : va_W}
    (ho : o = 2) (hx : p.tables.exec = Jvm.exec) (hb : c.code = cc) (hml : c.maxLocals = nL) (hsize : ls.size = nL) (hst : l.stackTraces = false) (hown : s.vm.findClass RX8 = some m.cls) (hg : ∀ w ∈ GA, w.before args s = true) (hE : EX E A s s.heap) (hs : ("NightPorter", is, text, i) ∈ SRl) (hout : ∀ x ∈ c.exceptionTable.toList, False) (hlocks : meth.locks = false) (hP : va_P E.1 vwCl bs' H) (hS : va_S A s.heap H locs)
    (d0 : decode cc pc = .ok (.new 78, 3)) (d3 : decode cc (pc + 3) = .ok (.dup, 1)) (d4 : decode cc (pc + 4) = .ok (.ldc_w is, 3)) (d6 : decode cc (pc + 7) = .ok (.invokespecial 82, 3)) (d9 : decode cc (pc + 10) = .ok (.athrow, 1))
    (hfr : 5 < R.frames) (hlo : (rest.map fun v => v.category).sum + 82 ≤ R.locals) (hRc : cells + 1 ≤ R.cells) (hRs : slots + 6 ≤ R.slots) (hc : cells + 1 ≤ mc) (hs2 : slots + 6 ≤ ms) : W p l e R s m args below meth c H locs cells slots (vx_MQ below (QX E o v bs' A) (XX E o bs' A) args s mc ms A) (F0 m pc ls rest) := by
  subst ho
  exact vx_throwSW hx hb hst (A := A) (cls := "java/lang/IllegalArgumentException") (text := text) (names := ["java/lang/RuntimeException", "java/lang/Exception"]) (own := RX8) (ik := 78) (is := is) (ic := 82) (sa := E.2.2.2.2.2.1 i) hown (by decide +kernel) (by decide +kernel) (hg _ at3_2) (hg _ at4_2) (hE.2.2.2.2.2.1 _ hs) (exq_at hE hg at1_2 _ at2_2) at5_2 hE.2.2.2.1 hE.2.2.2.2.1 hS (hsize.trans hml.symm) d0 d3 d4 d6 d9 (fun x hx => (hout x hx).elim) hfr hlo hRc hRs hlocks
    (fun t hW hz hq => ⟨by decide, rfl, hP.kept (fun k q hk => hq q.1 (hP k q hk).lt), ⟨Nat.le_trans hS.1 hz, fun q h1 h2 => by rw [hq q (Nat.lt_of_lt_of_le h1 hS.1)]; exact hS.2.1 q h1 h2⟩⟩) hS.2.2 hc hs2
theorem xm_throw3W {p : Program} {l : Launch} {e : Env} {R : Room} {s : State} {m : MethodId} {args : Array Value} {below : List Frame} {meth : Method} {c : Code} {H : Heap} {locs : List Loc} {cells slots : Nat} {pc : Nat} {ls : Array Slot} {rest : List Value} {A : Nat → Prop} {E : Ev} {cc : ByteArray} {mc ms o is i nL : Nat} {text : String} {v : Option Value} {bs' : va_W}
    (ho : o = 3) (hx : p.tables.exec = Jvm.exec) (hb : c.code = cc) (hml : c.maxLocals = nL) (hsize : ls.size = nL) (hst : l.stackTraces = false) (hown : s.vm.findClass RX8 = some m.cls) (hg : ∀ w ∈ GA, w.before args s = true) (hE : EX E A s s.heap) (hs : ("NightPorter", is, text, i) ∈ SRl) (hout : ∀ x ∈ c.exceptionTable.toList, False) (hlocks : meth.locks = false) (hP : va_P E.1 vwCl bs' H) (hS : va_S A s.heap H locs)
    (d0 : decode cc pc = .ok (.new 94, 3)) (d3 : decode cc (pc + 3) = .ok (.dup, 1)) (d4 : decode cc (pc + 4) = .ok (.ldc_w is, 3)) (d6 : decode cc (pc + 7) = .ok (.invokespecial 98, 3)) (d9 : decode cc (pc + 10) = .ok (.athrow, 1))
    (hfr : 5 < R.frames) (hlo : (rest.map fun v => v.category).sum + 82 ≤ R.locals) (hRc : cells + 1 ≤ R.cells) (hRs : slots + 6 ≤ R.slots) (hc : cells + 1 ≤ mc) (hs2 : slots + 6 ≤ ms) : W p l e R s m args below meth c H locs cells slots (vx_MQ below (QX E o v bs' A) (XX E o bs' A) args s mc ms A) (F0 m pc ls rest) := by
  subst ho
  exact nx_throwSW (A := A) (cls := "java/util/NoSuchElementException") (text := text) (Y0 := "java/lang/RuntimeException") (r0 := ["java/lang/Exception"]) (ix := 13) (rx := prog_35_method_4_code) (own := RX8) (ik := 94) (is := is) (ic := 98) (sa := E.2.2.2.2.2.1 i) hx hb hst (by decide +kernel) (by decide +kernel) (by decide +kernel) (by decide +kernel) hown (by decide +kernel) (by decide +kernel) (hg _ at3_3) (hg _ at4_3) (hE.2.2.2.2.2.1 _ hs) (exq_at hE hg at1_3 _ at2_3) at5_3 hE.2.2.2.1 hE.2.2.2.2.1 hS (hsize.trans hml.symm) d0 d3 d4 d6 d9 (fun x hx => (hout x hx).elim) hfr hlo hRc hRs hlocks
    (fun t hW hz hq => ⟨by decide, rfl, hP.kept (fun k q hk => hq q.1 (hP k q hk).lt), ⟨Nat.le_trans hS.1 hz, fun q h1 h2 => by rw [hq q (Nat.lt_of_lt_of_le h1 hS.1)]; exact hS.2.1 q h1 h2⟩⟩) hS.2.2 hc hs2
theorem xm_throw4W {p : Program} {l : Launch} {e : Env} {R : Room} {s : State} {m : MethodId} {args : Array Value} {below : List Frame} {meth : Method} {c : Code} {H : Heap} {locs : List Loc} {cells slots : Nat} {pc : Nat} {ls : Array Slot} {rest : List Value} {A : Nat → Prop} {E : Ev} {cc : ByteArray} {mc ms o is i nL : Nat} {text : String} {v : Option Value} {bs' : va_W}
    (ho : o = 4) (hx : p.tables.exec = Jvm.exec) (hb : c.code = cc) (hml : c.maxLocals = nL) (hsize : ls.size = nL) (hst : l.stackTraces = false) (hown : s.vm.findClass RX8 = some m.cls) (hg : ∀ w ∈ GA, w.before args s = true) (hE : EX E A s s.heap) (hs : ("NightPorter", is, text, i) ∈ SRl) (hout : ∀ x ∈ c.exceptionTable.toList, False) (hlocks : meth.locks = false) (hP : va_P E.1 vwCl bs' H) (hS : va_S A s.heap H locs)
    (d0 : decode cc pc = .ok (.new 131, 3)) (d3 : decode cc (pc + 3) = .ok (.dup, 1)) (d4 : decode cc (pc + 4) = .ok (.ldc_w is, 3)) (d6 : decode cc (pc + 7) = .ok (.invokespecial 135, 3)) (d9 : decode cc (pc + 10) = .ok (.athrow, 1))
    (hfr : 5 < R.frames) (hlo : (rest.map fun v => v.category).sum + 82 ≤ R.locals) (hRc : cells + 1 ≤ R.cells) (hRs : slots + 6 ≤ R.slots) (hc : cells + 1 ≤ mc) (hs2 : slots + 6 ≤ ms) : W p l e R s m args below meth c H locs cells slots (vx_MQ below (QX E o v bs' A) (XX E o bs' A) args s mc ms A) (F0 m pc ls rest) := by
  subst ho
  exact vx_throwSW hx hb hst (A := A) (cls := "java/lang/IndexOutOfBoundsException") (text := text) (names := ["java/lang/RuntimeException", "java/lang/Exception"]) (own := RX8) (ik := 131) (is := is) (ic := 135) (sa := E.2.2.2.2.2.1 i) hown (by decide +kernel) (by decide +kernel) (hg _ at3_4) (hg _ at4_4) (hE.2.2.2.2.2.1 _ hs) (exq_at hE hg at1_4 _ at2_4) at5_4 hE.2.2.2.1 hE.2.2.2.2.1 hS (hsize.trans hml.symm) d0 d3 d4 d6 d9 (fun x hx => (hout x hx).elim) hfr hlo hRc hRs hlocks
    (fun t hW hz hq => ⟨by decide, rfl, hP.kept (fun k q hk => hq q.1 (hP k q hk).lt), ⟨Nat.le_trans hS.1 hz, fun q h1 h2 => by rw [hq q (Nat.lt_of_lt_of_le h1 hS.1)]; exact hS.2.1 q h1 h2⟩⟩) hS.2.2 hc hs2

theorem XM.of {E : Ev} {l : Launch} {y : MethodName} {cc : ByteArray} {maxL : Nat} {ret : Option FieldType} {rm : Room} {as : List Value} {bs bs' : va_W} {o n : Nat} {v : Option Value} {own : String} (hown : y.cls = own) (hy : plainName y.cls = true) (hn : (lg_sl as).length ≤ maxL)
    (body : ∀ (p : Program) (e : Env) (s : State) (m : MethodId) (below : List Frame) (meth : Method) (c : Code) (A : Nat → Prop) (ls : Array Slot), p.tables.exec = Jvm.exec → c.code = cc → meth.sig.returnType = ret → c.maxLocals = maxL → s.vm.findClass own = some m.cls → (∀ w ∈ GA, w.before as.toArray s = true) → meth.locks = false → KX E s → EX E A s s.heap → (∀ q : Nat, s.heap.size ≤ q → A q) → (∀ x ∈ c.exceptionTable.toList, False) → va_P E.1 vwCl bs s.heap → va_D A bs → va_S A s.heap s.heap [] → lv_has ls maxL (lv_args 0 as) →
      W p l e rm s m as.toArray below meth c s.heap [] 0 0 (vx_MQ below (QX E o v bs' A) (XX E o bs' A) as.toArray s n (6 * n) A) (F0 m 0 ls [])) : XM E l y (.code y cc maxL ret :: GA) rm as bs o v bs' n := by
  intro sz
  refine vx_ofW (cc := cc) (maxL := maxL) (ret := ret) hy rfl ?_
  intro p e s m args below meth c s₁ B hml ht hv
  obtain ⟨rfl, hsz, hP, hK, hD0, hE⟩ := hv
  subst hown
  subst hsz
  have hts := atoms_spec (ws := .code y cc maxL ret :: GA) B.pre
  rw [lg_entry_eq]
  exact body p e s m below meth c _ _ B.exec B.bytes B.returns hml (findClass_of_methodNamed B.named) (fun w h => hts w (List.mem_cons_of_mem _ h)) B.notSynchronized hK hE (fun q h => Or.inr h) ht hP hD0.self va_S.rf (lv_entry as hn)
section
variable {p : Program} {l : Launch} {e : Env} {R : Room} {s : State} {m : MethodId} {args : Array Value} {below : List Frame} {meth : Method} {c : Code} {H : Heap} {locs : List Loc} {cells slots : Nat} {Q : State → Prop}
variable {pc : Nat} {ls : Array Slot} {rest : List Value} {A : Nat → Prop} {E : Ev} {cc : ByteArray}
/-- a reference is read out of an array of nights-/
theorem ar_lq {w1 : va_W} {a n : Nat} {f : Nat → Nat} {i : Int32} (hx : p.tables.exec = Jvm.exec) (hb : c.code = cc) (hK : KX E s) (hP : va_P E.1 vwCl w1 H) (q0 : Nat) (ha : w1[q0]? = some (a, .inl (E.2.2.2.2.1, n, .inr (.inr (.inr (.inr (fun k => some (f k)))))))) (hin : vp_in i n) (hdg : decode cc pc = .ok (.aaload, 1)) (kk : W p l e R s m args below meth c H locs cells slots Q (F0 m (pc + 1) ls (.ref (f i.toNatClampNeg) :: rest))) : W p l e R s m args below meth c H locs cells slots Q (F0 m pc ls (.int i :: .ref a :: rest)) :=
  va_aldq hx hb hK.1 hP q0 3 ha rfl hin hdg kk
end
abbrev NV : Type := (Nat → Int32) × (Nat → Nat → Int32) × (Nat → Nat → Int32) × (Nat → Nat → Int32)
def W_X (a : Nat) (b bw : Nat → Nat) (p n nd h q : Nat) (v : Nat → Int32) : va_W := [(a, .inr (8, [.ref (b 0), .ref (bw 0), .ref p, .ref n, .ref nd, .ref h, .ref q, .int (v 0)]))]
def W_H (a ha : Nat) (v : Nat → Int32) : va_W := [(a, .inr (2, [.ref ha, .int (v 0), .int (v 1)]))]
def W_Q (a qa qf : Nat) : va_W := [(a, .inr (6, [.ref qa, .ref qf]))]
def W_NA (E : Ev) (a n : Nat) (f : Nat → Nat) : va_W := [(a, .inl (E.2.2.2.2.1, n, .inr (.inr (.inr (.inr (fun k => some (f k)))))))]
def W_NV (E : Ev) (n : Nat → Nat) (g u r : Nat → Nat → Nat) (v : Nat → NV) (k : Nat) : va_W := W_N (n k) (g k) (u k) (r k) (v k).1 ++ (W_G E (g k) (v k).2.1 ++ (W_U E (u k) (v k).2.2.1 ++ W_R E (r k) (v k).2.2.2))
def W_V8 (E : Ev) (n : Nat → Nat) (g u r : Nat → Nat → Nat) (v : Nat → NV) : va_W := W_NV E n g u r v 0 ++ (W_NV E n g u r v 1 ++ (W_NV E n g u r v 2 ++ (W_NV E n g u r v 3 ++ (W_NV E n g u r v 4 ++ (W_NV E n g u r v 5 ++ (W_NV E n g u r v 6 ++ W_NV E n g u r v 7))))))
def W_V2 (E : Ev) (n : Nat → Nat) (g u r : Nat → Nat → Nat) (v : Nat → NV) : va_W := W_NV E n g u r v 0 ++ W_NV E n g u r v 1
